/-! SAFETY of methods: printed by wip/safe (vc.py, decl.py) -/
def md_gr_checkOthers : List rec := [(890, 891, 1, 2), (890, 891, 2, 3), (890, 891, 3, 4)]
abbrev Q_gr_checkOthers (S : sS) : pst := fun r S1 => HI S1 ∧ FR md_gr_checkOthers S S1 ∧ (∃ z : Int, r = some (iv z) ∧ (0 ≤ z ∧ z ≤ 1) ∧ (7 ≤ Xi S1 890 2 ∨ z = 0))
set_option maxRecDepth 100000 in
theorem t_gr_checkOthers {S : sS} (hH : HI S) (d : Nat) : Mt lay0 (d + 6) m_gr_checkOthers [.ref 890] S (Q_gr_checkOthers S) := by
  refine Mt_R rfl rfl ?_
  have hF : FR md_gr_checkOthers S S := FR.rf
  refine l_aload_n rfl rfl ?_
  refine l_gfr rfl rfl rfl rfl rfl (hH.r 890 0 876 rfl) ?_
  refine l_iconst rfl ?_
  have w1 : 0 ≤ Xi S 876 7 ∧ Xi S 876 7 ≤ 5125 := hH.c _ _
  refine l_callV rfl rfl rfl (t_to_typeAt hH 0 ⟨by omega, by omega⟩ _) ?_
  rintro _ _ ⟨rfl, z3, rfl, w3, w2⟩
  show Rl _ _ _ _ _ [iv z3] _ _
  refine l_iconst rfl ?_
  refine l_icmp_ne rfl rfl (by unfold rg; omega) (by unfold rg; omega) (fun w4 => ?_) (fun w5 => ?_)
  · refine l_aload_n rfl rfl ?_
    refine l_gfr rfl rfl rfl rfl rfl (hH.r 890 0 876 rfl) ?_
    refine l_iconst rfl ?_
    have w6 : 0 ≤ Xi S 876 7 ∧ Xi S 876 7 ≤ 5125 := hH.c _ _
    refine l_callV rfl rfl rfl (t_to_typeAt hH 0 ⟨by omega, by omega⟩ _) ?_
    rintro _ _ ⟨rfl, z8, rfl, w8, w7⟩
    show Rl _ _ _ _ _ [iv z8] _ _
    refine l_iconst rfl ?_
    refine l_icmp_ne rfl rfl (by unfold rg; omega) (by unfold rg; omega) (fun w9 => ?_) (fun w10 => ?_)
    · refine l_aload_n rfl rfl ?_
      refine l_iconst rfl ?_
      refine l_pfi rfl rfl rfl rfl ?_
      obtain ⟨U1, eU1⟩ : ∃ T : sS, T = uI S 890 1 (Int32.ofInt 0) := ⟨_, rfl⟩
      rw [← eU1]
      have hHU1 : HI U1 := by rw [eU1]; exact HI_w hH (show 0 ≤ 0 by omega) (show 0 ≤ 5126 by omega)
      have hFU1 : FR md_gr_checkOthers S U1 := by rw [eU1]; exact FR.wI hF (mdf_i (r := (890, 891, 1, 2)) (List.mem_of_getElem? (i := 0) rfl) (inR_i (by omega) (by omega) (by omega) (by omega)))
      have w11 : Xi U1 890 1 = 0 := by rw [eU1]; exact Xi_same (by unfold rg; omega)
      have hs183 : SAY U1 (Xi U1 890 1) := SAY_v0 (by omega)
      refine l_aload_n rfl rfl ?_
      refine l_aload_n rfl rfl ?_
      refine l_gfr rfl rfl rfl rfl rfl (hHU1.r 890 0 876 rfl) ?_
      have w12 : Xi U1 876 7 = Xi S 876 7 := (show Xi U1 876 7 = Xi S 876 7 from by rw [eU1]; exact Xi_ne (by omega))
      have w13 : 0 ≤ Xi S 876 7 ∧ Xi S 876 7 ≤ 5125 := hH.c _ _
      refine l_callV rfl rfl rfl (t_to_tellingKey hHU1 _) ?_
      rintro _ _ ⟨rfl, z15, rfl, w15, w14⟩
      show Rl _ _ _ _ _ [iv z15, .ref 890] _ _
      refine l_pfi rfl rfl rfl rfl ?_
      obtain ⟨U2, eU2⟩ : ∃ T : sS, T = uI U1 890 3 (Int32.ofInt z15) := ⟨_, rfl⟩
      rw [← eU2]
      have hHU2 : HI U2 := by rw [eU2]; exact HI_w hHU1 (show -1 ≤ z15 by omega) (show z15 ≤ 5124 by omega)
      have hFU2 : FR md_gr_checkOthers S U2 := by rw [eU2]; exact FR.wI hFU1 (mdf_i (r := (890, 891, 3, 4)) (List.mem_of_getElem? (i := 2) rfl) (inR_i (by omega) (by omega) (by omega) (by omega)))
      have w16 : Xi U2 890 3 = z15 := by rw [eU2]; exact Xi_same (by unfold rg; omega)
      have hso194 : SAY U2 (Xi U2 890 1) := SAY_sort eU2 (by assumption) (by decide)
      refine l_aload_n rfl rfl ?_
      refine l_gfr rfl rfl rfl rfl rfl (hHU2.r 890 0 876 rfl) ?_
      refine l_aload_n rfl rfl ?_
      refine l_gfi rfl rfl rfl rfl rfl ?_
      have w17 : Xi U2 876 7 = Xi S 876 7 := (show Xi U2 876 7 = Xi U1 876 7 from by rw [eU2]; exact Xi_ne (by omega)).trans ((show Xi U1 876 7 = Xi S 876 7 from by rw [eU1]; exact Xi_ne (by omega)))
      have w18 : 0 ≤ Xi S 876 7 ∧ Xi S 876 7 ≤ 5125 := hH.c _ _
      refine l_callV rfl rfl rfl (t_to_typeAt hHU2 (Xi U2 890 3) ⟨by omega, by omega⟩ _) ?_
      rintro _ _ ⟨rfl, z20, rfl, w20, w19⟩
      show Rl _ _ _ _ _ [iv z20] _ _
      refine l_lsw rfl rfl (by unfold rg; omega) ?_
      refine And.intro (fun w21 => ⟨_, rfl, ?_⟩) (fun w22 => ?_)
      · refine l_aload_n rfl rfl ?_
        have w23 : Xi U2 876 7 = Xi S 876 7 := (show Xi U2 876 7 = Xi U1 876 7 from by rw [eU2]; exact Xi_ne (by omega)).trans ((show Xi U1 876 7 = Xi S 876 7 from by rw [eU1]; exact Xi_ne (by omega)))
        have w24 : 0 ≤ Xi S 876 7 ∧ Xi S 876 7 ≤ 5125 := hH.c _ _
        have w25 : Xi U2 890 1 = Xi U1 890 1 := (show Xi U2 890 1 = Xi U1 890 1 from by rw [eU2]; exact Xi_ne (by omega))
        have w26 : 0 ≤ Xi U1 890 1 ∧ Xi U1 890 1 ≤ 5126 := hHU1.c _ _
        refine l_callV rfl rfl rfl (t_gr_checkBe hHU2 (by first | assumption | omega) (by first | assumption | omega) (by first | assumption | omega) _) ?_
        rintro _ T3 ⟨hHT3, w29, z28, rfl, w28, w27⟩
        have hFT3 : FR md_gr_checkOthers S T3 := FR.tr hFU2 w29 rfl
        show Rl _ _ _ _ _ [iv z28] _ _
        refine l_ireturn rfl (retI_z (by omega)) ?_
        have w30 : 0 ≤ Xi T3 890 2 ∧ Xi T3 890 2 ≤ 20 := hHT3.c _ _
        exact ⟨hHT3, hFT3, _, rfl, ⟨by omega, by omega⟩, (by first | assumption | omega)⟩
      refine And.intro (fun w31 => ⟨_, rfl, ?_⟩) (fun w32 => ?_)
      · refine l_aload_n rfl rfl ?_
        have w33 : Xi U2 876 7 = Xi S 876 7 := (show Xi U2 876 7 = Xi U1 876 7 from by rw [eU2]; exact Xi_ne (by omega)).trans ((show Xi U1 876 7 = Xi S 876 7 from by rw [eU1]; exact Xi_ne (by omega)))
        have w34 : 0 ≤ Xi S 876 7 ∧ Xi S 876 7 ≤ 5125 := hH.c _ _
        have w35 : Xi U2 890 1 = Xi U1 890 1 := (show Xi U2 890 1 = Xi U1 890 1 from by rw [eU2]; exact Xi_ne (by omega))
        have w36 : 0 ≤ Xi U1 890 1 ∧ Xi U1 890 1 ≤ 5126 := hHU1.c _ _
        refine l_callV rfl rfl rfl (t_gr_checkBe hHU2 (by first | assumption | omega) (by first | assumption | omega) (by first | assumption | omega) _) ?_
        rintro _ T4 ⟨hHT4, w39, z38, rfl, w38, w37⟩
        have hFT4 : FR md_gr_checkOthers S T4 := FR.tr hFU2 w39 rfl
        show Rl _ _ _ _ _ [iv z38] _ _
        refine l_ireturn rfl (retI_z (by omega)) ?_
        have w40 : 0 ≤ Xi T4 890 2 ∧ Xi T4 890 2 ≤ 20 := hHT4.c _ _
        exact ⟨hHT4, hFT4, _, rfl, ⟨by omega, by omega⟩, (by first | assumption | omega)⟩
      refine And.intro (fun w41 => ⟨_, rfl, ?_⟩) (fun w42 => ?_)
      · refine l_aload_n rfl rfl ?_
        refine l_bipush rfl rfl ?_
        refine l_pfi rfl rfl rfl rfl ?_
        obtain ⟨U5, eU5⟩ : ∃ T : sS, T = uI U2 890 2 (Int32.ofInt 17) := ⟨_, rfl⟩
        rw [← eU5]
        have hHU5 : HI U5 := by rw [eU5]; exact HI_w hHU2 (show 0 ≤ 17 by omega) (show 17 ≤ 20 by omega)
        have hFU5 : FR md_gr_checkOthers S U5 := by rw [eU5]; exact FR.wI hFU2 (mdf_i (r := (890, 891, 2, 3)) (List.mem_of_getElem? (i := 1) rfl) (inR_i (by omega) (by omega) (by omega) (by omega)))
        have w43 : Xi U5 890 2 = 17 := by rw [eU5]; exact Xi_same (by unfold rg; omega)
        have hso268 : SAY U5 (Xi U5 890 1) := SAY_sort eU5 (by assumption) (by decide)
        refine l_aload_n rfl rfl ?_
        have w44 : Xi U5 876 7 = Xi S 876 7 := (show Xi U5 876 7 = Xi U2 876 7 from by rw [eU5]; exact Xi_ne (by omega)).trans ( (show Xi U2 876 7 = Xi U1 876 7 from by rw [eU2]; exact Xi_ne (by omega)).trans ((show Xi U1 876 7 = Xi S 876 7 from by rw [eU1]; exact Xi_ne (by omega))))
        have w45 : 0 ≤ Xi S 876 7 ∧ Xi S 876 7 ≤ 5125 := hH.c _ _
        have w46 : Xi U5 890 1 = Xi U1 890 1 := (show Xi U5 890 1 = Xi U2 890 1 from by rw [eU5]; exact Xi_ne (by omega)).trans ((show Xi U2 890 1 = Xi U1 890 1 from by rw [eU2]; exact Xi_ne (by omega)))
        have w47 : 0 ≤ Xi U1 890 1 ∧ Xi U1 890 1 ≤ 5126 := hHU1.c _ _
        refine l_callV rfl rfl rfl (t_gr_takeName hHU5 (by first | assumption | omega) (by first | assumption | omega) _) ?_
        rintro _ T6 ⟨hHT6, w51, z50, rfl, w50, w48, w49⟩
        have hFT6 : FR md_gr_checkOthers S T6 := FR.tr hFU5 w51 rfl
        show Rl _ _ _ _ _ [iv z50] _ _
        refine l_if_eq rfl rfl (by unfold rg; omega) (fun w52 => ?_) (fun w53 => ?_)
        · refine l_iconst rfl ?_
          refine l_ireturn rfl rfl ?_
          have w54 : Xi T6 890 2 = Xi U5 890 2 := (show Xi T6 890 2 = Xi U5 890 2 from w51.x _ _ rfl)
          have w55 : 0 ≤ Xi U5 890 2 ∧ Xi U5 890 2 ≤ 20 := hHU5.c _ _
          exact ⟨hHT6, hFT6, _, rfl, ⟨by omega, by omega⟩, (by first | assumption | omega)⟩
        · refine l_aload_n rfl rfl ?_
          refine l_bipush rfl rfl ?_
          have w56 : Xi T6 876 7 = Xi S 876 7 := (show Xi T6 876 7 = Xi U5 876 7 from w51.x _ _ rfl).trans ( (show Xi U5 876 7 = Xi U2 876 7 from by rw [eU5]; exact Xi_ne (by omega)).trans ( (show Xi U2 876 7 = Xi U1 876 7 from by rw [eU2]; exact Xi_ne (by omega)).trans ((show Xi U1 876 7 = Xi S 876 7 from by rw [eU1]; exact Xi_ne (by omega)))))
          have w57 : 0 ≤ Xi S 876 7 ∧ Xi S 876 7 ≤ 5125 := hH.c _ _
          have w58 : 0 ≤ Xi T6 890 1 ∧ Xi T6 890 1 ≤ 5126 := hHT6.c _ _
          refine l_callV rfl rfl rfl (t_gr_take hHT6 12 ⟨by omega, by omega⟩ (by first | assumption | omega) (by first | assumption | omega) (by first | assumption | omega) _) ?_
          rintro _ T7 ⟨hHT7, w64, z63, rfl, w63, w59, w60, w61, w62⟩
          have hFT7 : FR md_gr_checkOthers S T7 := FR.tr hFT6 w64 rfl
          show Rl _ _ _ _ _ [iv z63] _ _
          refine l_if_eq rfl rfl (by unfold rg; omega) (fun w65 => ?_) (fun w66 => ?_)
          · refine l_iconst rfl ?_
            refine l_ireturn rfl rfl ?_
            have w67 : Xi T7 890 2 = Xi U5 890 2 := (show Xi T7 890 2 = Xi T6 890 2 from w64.x _ _ rfl).trans ((show Xi T6 890 2 = Xi U5 890 2 from w51.x _ _ rfl))
            have w68 : 0 ≤ Xi U5 890 2 ∧ Xi U5 890 2 ≤ 20 := hHU5.c _ _
            exact ⟨hHT7, hFT7, _, rfl, ⟨by omega, by omega⟩, (by first | assumption | omega)⟩
          · refine l_aload_n rfl rfl ?_
            have w69 : Xi T7 876 7 = Xi S 876 7 := (show Xi T7 876 7 = Xi T6 876 7 from w64.x _ _ rfl).trans ( (show Xi T6 876 7 = Xi U5 876 7 from w51.x _ _ rfl).trans ( (show Xi U5 876 7 = Xi U2 876 7 from by rw [eU5]; exact Xi_ne (by omega)).trans ( (show Xi U2 876 7 = Xi U1 876 7 from by rw [eU2]; exact Xi_ne (by omega)).trans ((show Xi U1 876 7 = Xi S 876 7 from by rw [eU1]; exact Xi_ne (by omega))))))
            have w70 : 0 ≤ Xi S 876 7 ∧ Xi S 876 7 ≤ 5125 := hH.c _ _
            have w71 : 0 ≤ Xi T7 890 1 ∧ Xi T7 890 1 ≤ 5126 := hHT7.c _ _
            refine l_callV rfl rfl rfl (t_gr_takeArt hHT7 (by first | assumption | omega) (by first | assumption | omega) _) ?_
            rintro _ T8 ⟨hHT8, w76, z75, rfl, w75, w72, w73, w74⟩
            have hFT8 : FR md_gr_checkOthers S T8 := FR.tr hFT7 w76 rfl
            show Rl _ _ _ _ _ [iv z75] _ _
            refine l_if_eq rfl rfl (by unfold rg; omega) (fun w77 => ?_) (fun w78 => ?_)
            · refine l_iconst rfl ?_
              refine l_ireturn rfl rfl ?_
              have w79 : Xi T8 890 2 = Xi U5 890 2 := (show Xi T8 890 2 = Xi T7 890 2 from w76.x _ _ rfl).trans ( (show Xi T7 890 2 = Xi T6 890 2 from w64.x _ _ rfl).trans ((show Xi T6 890 2 = Xi U5 890 2 from w51.x _ _ rfl)))
              have w80 : 0 ≤ Xi U5 890 2 ∧ Xi U5 890 2 ≤ 20 := hHU5.c _ _
              exact ⟨hHT8, hFT8, _, rfl, ⟨by omega, by omega⟩, (by first | assumption | omega)⟩
            · refine l_aload_n rfl rfl ?_
              have w81 : Xi T8 876 7 = Xi S 876 7 := (show Xi T8 876 7 = Xi T7 876 7 from w76.x _ _ rfl).trans ( (show Xi T7 876 7 = Xi T6 876 7 from w64.x _ _ rfl).trans ( (show Xi T6 876 7 = Xi U5 876 7 from w51.x _ _ rfl).trans ( (show Xi U5 876 7 = Xi U2 876 7 from by rw [eU5]; exact Xi_ne (by omega)).trans ( (show Xi U2 876 7 = Xi U1 876 7 from by rw [eU2]; exact Xi_ne (by omega)).trans ((show Xi U1 876 7 = Xi S 876 7 from by rw [eU1]; exact Xi_ne (by omega)))))))
              have w82 : 0 ≤ Xi S 876 7 ∧ Xi S 876 7 ≤ 5125 := hH.c _ _
              have w83 : 0 ≤ Xi T8 890 1 ∧ Xi T8 890 1 ≤ 5126 := hHT8.c _ _
              refine l_callV rfl rfl rfl (t_gr_takeRun hHT8 (by first | assumption | omega) (by first | assumption | omega) _) ?_
              rintro _ T9 ⟨hHT9, w88, z87, rfl, w87, w84, w85, w86⟩
              have hFT9 : FR md_gr_checkOthers S T9 := FR.tr hFT8 w88 rfl
              show Rl _ _ _ _ _ [iv z87] _ _
              refine l_if_eq rfl rfl (by unfold rg; omega) (fun w89 => ?_) (fun w90 => ?_)
              · refine l_iconst rfl ?_
                refine l_ireturn rfl rfl ?_
                have w91 : Xi T9 890 2 = Xi U5 890 2 := (show Xi T9 890 2 = Xi T8 890 2 from w88.x _ _ rfl).trans ( (show Xi T8 890 2 = Xi T7 890 2 from w76.x _ _ rfl).trans ( (show Xi T7 890 2 = Xi T6 890 2 from w64.x _ _ rfl).trans ((show Xi T6 890 2 = Xi U5 890 2 from w51.x _ _ rfl))))
                have w92 : 0 ≤ Xi U5 890 2 ∧ Xi U5 890 2 ≤ 20 := hHU5.c _ _
                exact ⟨hHT9, hFT9, _, rfl, ⟨by omega, by omega⟩, (by first | assumption | omega)⟩
              · refine l_aload_n rfl rfl ?_
                refine l_bipush rfl rfl ?_
                have w93 : Xi T9 876 7 = Xi S 876 7 := (show Xi T9 876 7 = Xi T8 876 7 from w88.x _ _ rfl).trans ( (show Xi T8 876 7 = Xi T7 876 7 from w76.x _ _ rfl).trans ( (show Xi T7 876 7 = Xi T6 876 7 from w64.x _ _ rfl).trans ( (show Xi T6 876 7 = Xi U5 876 7 from w51.x _ _ rfl).trans ( (show Xi U5 876 7 = Xi U2 876 7 from by rw [eU5]; exact Xi_ne (by omega)).trans ( (show Xi U2 876 7 = Xi U1 876 7 from by rw [eU2]; exact Xi_ne (by omega)).trans ((show Xi U1 876 7 = Xi S 876 7 from by rw [eU1]; exact Xi_ne (by omega))))))))
                have w94 : 0 ≤ Xi S 876 7 ∧ Xi S 876 7 ≤ 5125 := hH.c _ _
                have w95 : 0 ≤ Xi T9 890 1 ∧ Xi T9 890 1 ≤ 5126 := hHT9.c _ _
                refine l_callV rfl rfl rfl (t_gr_take hHT9 17 ⟨by omega, by omega⟩ (by first | assumption | omega) (by first | assumption | omega) (by first | assumption | omega) _) ?_
                rintro _ T10 ⟨hHT10, w101, z100, rfl, w100, w96, w97, w98, w99⟩
                have hFT10 : FR md_gr_checkOthers S T10 := FR.tr hFT9 w101 rfl
                show Rl _ _ _ _ _ [iv z100] _ _
                refine l_if_eq rfl rfl (by unfold rg; omega) (fun w102 => ?_) (fun w103 => ?_)
                · refine l_iconst rfl ?_
                  refine l_ireturn rfl rfl ?_
                  have w104 : Xi T10 890 2 = Xi U5 890 2 := (show Xi T10 890 2 = Xi T9 890 2 from w101.x _ _ rfl).trans ( (show Xi T9 890 2 = Xi T8 890 2 from w88.x _ _ rfl).trans ( (show Xi T8 890 2 = Xi T7 890 2 from w76.x _ _ rfl).trans ( (show Xi T7 890 2 = Xi T6 890 2 from w64.x _ _ rfl).trans ((show Xi T6 890 2 = Xi U5 890 2 from w51.x _ _ rfl)))))
                  have w105 : 0 ≤ Xi U5 890 2 ∧ Xi U5 890 2 ≤ 20 := hHU5.c _ _
                  exact ⟨hHT10, hFT10, _, rfl, ⟨by omega, by omega⟩, (by first | assumption | omega)⟩
                · refine l_aload_n rfl rfl ?_
                  have w106 : Xi T10 876 7 = Xi S 876 7 := (show Xi T10 876 7 = Xi T9 876 7 from w101.x _ _ rfl).trans ( (show Xi T9 876 7 = Xi T8 876 7 from w88.x _ _ rfl).trans ( (show Xi T8 876 7 = Xi T7 876 7 from w76.x _ _ rfl).trans ( (show Xi T7 876 7 = Xi T6 876 7 from w64.x _ _ rfl).trans ( (show Xi T6 876 7 = Xi U5 876 7 from w51.x _ _ rfl).trans ( (show Xi U5 876 7 = Xi U2 876 7 from by rw [eU5]; exact Xi_ne (by omega)).trans ( (show Xi U2 876 7 = Xi U1 876 7 from by rw [eU2]; exact Xi_ne (by omega)).trans ((show Xi U1 876 7 = Xi S 876 7 from by rw [eU1]; exact Xi_ne (by omega)))))))))
                  have w107 : 0 ≤ Xi S 876 7 ∧ Xi S 876 7 ≤ 5125 := hH.c _ _
                  have w108 : 0 ≤ Xi T10 890 1 ∧ Xi T10 890 1 ≤ 5126 := hHT10.c _ _
                  refine l_callV rfl rfl rfl (t_gr_takeRun hHT10 (by first | assumption | omega) (by first | assumption | omega) _) ?_
                  rintro _ T11 ⟨hHT11, w113, z112, rfl, w112, w109, w110, w111⟩
                  have hFT11 : FR md_gr_checkOthers S T11 := FR.tr hFT10 w113 rfl
                  show Rl _ _ _ _ _ [iv z112] _ _
                  refine l_if_eq rfl rfl (by unfold rg; omega) (fun w114 => ?_) (fun w115 => ?_)
                  · refine l_iconst rfl ?_
                    refine l_ireturn rfl rfl ?_
                    have w116 : Xi T11 890 2 = Xi U5 890 2 := (show Xi T11 890 2 = Xi T10 890 2 from w113.x _ _ rfl).trans ( (show Xi T10 890 2 = Xi T9 890 2 from w101.x _ _ rfl).trans ( (show Xi T9 890 2 = Xi T8 890 2 from w88.x _ _ rfl).trans ( (show Xi T8 890 2 = Xi T7 890 2 from w76.x _ _ rfl).trans ( (show Xi T7 890 2 = Xi T6 890 2 from w64.x _ _ rfl).trans ((show Xi T6 890 2 = Xi U5 890 2 from w51.x _ _ rfl))))))
                    have w117 : 0 ≤ Xi U5 890 2 ∧ Xi U5 890 2 ≤ 20 := hHU5.c _ _
                    exact ⟨hHT11, hFT11, _, rfl, ⟨by omega, by omega⟩, (by first | assumption | omega)⟩
                  · refine l_aload_n rfl rfl ?_
                    refine l_bipush rfl rfl ?_
                    have w118 : Xi T11 876 7 = Xi S 876 7 := (show Xi T11 876 7 = Xi T10 876 7 from w113.x _ _ rfl).trans ( (show Xi T10 876 7 = Xi T9 876 7 from w101.x _ _ rfl).trans ( (show Xi T9 876 7 = Xi T8 876 7 from w88.x _ _ rfl).trans ( (show Xi T8 876 7 = Xi T7 876 7 from w76.x _ _ rfl).trans ( (show Xi T7 876 7 = Xi T6 876 7 from w64.x _ _ rfl).trans ( (show Xi T6 876 7 = Xi U5 876 7 from w51.x _ _ rfl).trans ( (show Xi U5 876 7 = Xi U2 876 7 from by rw [eU5]; exact Xi_ne (by omega)).trans ( (show Xi U2 876 7 = Xi U1 876 7 from by rw [eU2]; exact Xi_ne (by omega)).trans ((show Xi U1 876 7 = Xi S 876 7 from by rw [eU1]; exact Xi_ne (by omega))))))))))
                    have w119 : 0 ≤ Xi S 876 7 ∧ Xi S 876 7 ≤ 5125 := hH.c _ _
                    have w120 : 0 ≤ Xi T11 890 1 ∧ Xi T11 890 1 ≤ 5126 := hHT11.c _ _
                    refine l_callV rfl rfl rfl (t_gr_take hHT11 103 ⟨by omega, by omega⟩ (by first | assumption | omega) (by first | assumption | omega) (by first | assumption | omega) _) ?_
                    rintro _ T12 ⟨hHT12, w126, z125, rfl, w125, w121, w122, w123, w124⟩
                    have hFT12 : FR md_gr_checkOthers S T12 := FR.tr hFT11 w126 rfl
                    show Rl _ _ _ _ _ [iv z125] _ _
                    refine l_if_eq rfl rfl (by unfold rg; omega) (fun w127 => ?_) (fun w128 => ?_)
                    · refine l_iconst rfl ?_
                      refine l_ireturn rfl rfl ?_
                      have w129 : Xi T12 890 2 = Xi U5 890 2 := (show Xi T12 890 2 = Xi T11 890 2 from w126.x _ _ rfl).trans ( (show Xi T11 890 2 = Xi T10 890 2 from w113.x _ _ rfl).trans ( (show Xi T10 890 2 = Xi T9 890 2 from w101.x _ _ rfl).trans ( (show Xi T9 890 2 = Xi T8 890 2 from w88.x _ _ rfl).trans ( (show Xi T8 890 2 = Xi T7 890 2 from w76.x _ _ rfl).trans ( (show Xi T7 890 2 = Xi T6 890 2 from w64.x _ _ rfl).trans ((show Xi T6 890 2 = Xi U5 890 2 from w51.x _ _ rfl)))))))
                      have w130 : 0 ≤ Xi U5 890 2 ∧ Xi U5 890 2 ≤ 20 := hHU5.c _ _
                      exact ⟨hHT12, hFT12, _, rfl, ⟨by omega, by omega⟩, (by first | assumption | omega)⟩
                    · refine l_iconst rfl ?_
                      refine l_goto rfl rfl ?_
                      refine l_ireturn rfl rfl ?_
                      have w131 : Xi T12 890 2 = Xi U5 890 2 := (show Xi T12 890 2 = Xi T11 890 2 from w126.x _ _ rfl).trans ( (show Xi T11 890 2 = Xi T10 890 2 from w113.x _ _ rfl).trans ( (show Xi T10 890 2 = Xi T9 890 2 from w101.x _ _ rfl).trans ( (show Xi T9 890 2 = Xi T8 890 2 from w88.x _ _ rfl).trans ( (show Xi T8 890 2 = Xi T7 890 2 from w76.x _ _ rfl).trans ( (show Xi T7 890 2 = Xi T6 890 2 from w64.x _ _ rfl).trans ((show Xi T6 890 2 = Xi U5 890 2 from w51.x _ _ rfl)))))))
                      have w132 : 0 ≤ Xi U5 890 2 ∧ Xi U5 890 2 ≤ 20 := hHU5.c _ _
                      exact ⟨hHT12, hFT12, _, rfl, ⟨by omega, by omega⟩, (by first | assumption | omega)⟩
      refine And.intro (fun w133 => ⟨_, rfl, ?_⟩) (fun w134 => ?_)
      · refine l_aload_n rfl rfl ?_
        refine l_bipush rfl rfl ?_
        refine l_pfi rfl rfl rfl rfl ?_
        obtain ⟨U13, eU13⟩ : ∃ T : sS, T = uI U2 890 2 (Int32.ofInt 18) := ⟨_, rfl⟩
        rw [← eU13]
        have hHU13 : HI U13 := by rw [eU13]; exact HI_w hHU2 (show 0 ≤ 18 by omega) (show 18 ≤ 20 by omega)
        have hFU13 : FR md_gr_checkOthers S U13 := by rw [eU13]; exact FR.wI hFU2 (mdf_i (r := (890, 891, 2, 3)) (List.mem_of_getElem? (i := 1) rfl) (inR_i (by omega) (by omega) (by omega) (by omega)))
        have w135 : Xi U13 890 2 = 18 := by rw [eU13]; exact Xi_same (by unfold rg; omega)
        have hso335 : SAY U13 (Xi U13 890 1) := SAY_sort eU13 (by assumption) (by decide)
        refine l_aload_n rfl rfl ?_
        have w136 : Xi U13 876 7 = Xi S 876 7 := (show Xi U13 876 7 = Xi U2 876 7 from by rw [eU13]; exact Xi_ne (by omega)).trans ( (show Xi U2 876 7 = Xi U1 876 7 from by rw [eU2]; exact Xi_ne (by omega)).trans ((show Xi U1 876 7 = Xi S 876 7 from by rw [eU1]; exact Xi_ne (by omega))))
        have w137 : 0 ≤ Xi S 876 7 ∧ Xi S 876 7 ≤ 5125 := hH.c _ _
        have w138 : Xi U13 890 1 = Xi U1 890 1 := (show Xi U13 890 1 = Xi U2 890 1 from by rw [eU13]; exact Xi_ne (by omega)).trans ((show Xi U2 890 1 = Xi U1 890 1 from by rw [eU2]; exact Xi_ne (by omega)))
        have w139 : 0 ≤ Xi U1 890 1 ∧ Xi U1 890 1 ≤ 5126 := hHU1.c _ _
        refine l_callV rfl rfl rfl (t_gr_takeName hHU13 (by first | assumption | omega) (by first | assumption | omega) _) ?_
        rintro _ T14 ⟨hHT14, w143, z142, rfl, w142, w140, w141⟩
        have hFT14 : FR md_gr_checkOthers S T14 := FR.tr hFU13 w143 rfl
        show Rl _ _ _ _ _ [iv z142] _ _
        refine l_if_eq rfl rfl (by unfold rg; omega) (fun w144 => ?_) (fun w145 => ?_)
        · refine l_iconst rfl ?_
          refine l_ireturn rfl rfl ?_
          have w146 : Xi T14 890 2 = Xi U13 890 2 := (show Xi T14 890 2 = Xi U13 890 2 from w143.x _ _ rfl)
          have w147 : 0 ≤ Xi U13 890 2 ∧ Xi U13 890 2 ≤ 20 := hHU13.c _ _
          exact ⟨hHT14, hFT14, _, rfl, ⟨by omega, by omega⟩, (by first | assumption | omega)⟩
        · refine l_aload_n rfl rfl ?_
          refine l_bipush rfl rfl ?_
          have w148 : Xi T14 876 7 = Xi S 876 7 := (show Xi T14 876 7 = Xi U13 876 7 from w143.x _ _ rfl).trans ( (show Xi U13 876 7 = Xi U2 876 7 from by rw [eU13]; exact Xi_ne (by omega)).trans ( (show Xi U2 876 7 = Xi U1 876 7 from by rw [eU2]; exact Xi_ne (by omega)).trans ((show Xi U1 876 7 = Xi S 876 7 from by rw [eU1]; exact Xi_ne (by omega)))))
          have w149 : 0 ≤ Xi S 876 7 ∧ Xi S 876 7 ≤ 5125 := hH.c _ _
          have w150 : 0 ≤ Xi T14 890 1 ∧ Xi T14 890 1 ≤ 5126 := hHT14.c _ _
          refine l_callV rfl rfl rfl (t_gr_take hHT14 13 ⟨by omega, by omega⟩ (by first | assumption | omega) (by first | assumption | omega) (by first | assumption | omega) _) ?_
          rintro _ T15 ⟨hHT15, w156, z155, rfl, w155, w151, w152, w153, w154⟩
          have hFT15 : FR md_gr_checkOthers S T15 := FR.tr hFT14 w156 rfl
          show Rl _ _ _ _ _ [iv z155] _ _
          refine l_if_eq rfl rfl (by unfold rg; omega) (fun w157 => ?_) (fun w158 => ?_)
          · refine l_iconst rfl ?_
            refine l_ireturn rfl rfl ?_
            have w159 : Xi T15 890 2 = Xi U13 890 2 := (show Xi T15 890 2 = Xi T14 890 2 from w156.x _ _ rfl).trans ((show Xi T14 890 2 = Xi U13 890 2 from w143.x _ _ rfl))
            have w160 : 0 ≤ Xi U13 890 2 ∧ Xi U13 890 2 ≤ 20 := hHU13.c _ _
            exact ⟨hHT15, hFT15, _, rfl, ⟨by omega, by omega⟩, (by first | assumption | omega)⟩
          · refine l_aload_n rfl rfl ?_
            refine l_bipush rfl rfl ?_
            have w161 : Xi T15 876 7 = Xi S 876 7 := (show Xi T15 876 7 = Xi T14 876 7 from w156.x _ _ rfl).trans ( (show Xi T14 876 7 = Xi U13 876 7 from w143.x _ _ rfl).trans ( (show Xi U13 876 7 = Xi U2 876 7 from by rw [eU13]; exact Xi_ne (by omega)).trans ( (show Xi U2 876 7 = Xi U1 876 7 from by rw [eU2]; exact Xi_ne (by omega)).trans ((show Xi U1 876 7 = Xi S 876 7 from by rw [eU1]; exact Xi_ne (by omega))))))
            have w162 : 0 ≤ Xi S 876 7 ∧ Xi S 876 7 ≤ 5125 := hH.c _ _
            have w163 : 0 ≤ Xi T15 890 1 ∧ Xi T15 890 1 ≤ 5126 := hHT15.c _ _
            refine l_callV rfl rfl rfl (t_gr_take hHT15 14 ⟨by omega, by omega⟩ (by first | assumption | omega) (by first | assumption | omega) (by first | assumption | omega) _) ?_
            rintro _ T16 ⟨hHT16, w169, z168, rfl, w168, w164, w165, w166, w167⟩
            have hFT16 : FR md_gr_checkOthers S T16 := FR.tr hFT15 w169 rfl
            show Rl _ _ _ _ _ [iv z168] _ _
            refine l_if_eq rfl rfl (by unfold rg; omega) (fun w170 => ?_) (fun w171 => ?_)
            · refine l_iconst rfl ?_
              refine l_ireturn rfl rfl ?_
              have w172 : Xi T16 890 2 = Xi U13 890 2 := (show Xi T16 890 2 = Xi T15 890 2 from w169.x _ _ rfl).trans ( (show Xi T15 890 2 = Xi T14 890 2 from w156.x _ _ rfl).trans ((show Xi T14 890 2 = Xi U13 890 2 from w143.x _ _ rfl)))
              have w173 : 0 ≤ Xi U13 890 2 ∧ Xi U13 890 2 ≤ 20 := hHU13.c _ _
              exact ⟨hHT16, hFT16, _, rfl, ⟨by omega, by omega⟩, (by first | assumption | omega)⟩
            · refine l_aload_n rfl rfl ?_
              have w174 : Xi T16 876 7 = Xi S 876 7 := (show Xi T16 876 7 = Xi T15 876 7 from w169.x _ _ rfl).trans ( (show Xi T15 876 7 = Xi T14 876 7 from w156.x _ _ rfl).trans ( (show Xi T14 876 7 = Xi U13 876 7 from w143.x _ _ rfl).trans ( (show Xi U13 876 7 = Xi U2 876 7 from by rw [eU13]; exact Xi_ne (by omega)).trans ( (show Xi U2 876 7 = Xi U1 876 7 from by rw [eU2]; exact Xi_ne (by omega)).trans ((show Xi U1 876 7 = Xi S 876 7 from by rw [eU1]; exact Xi_ne (by omega)))))))
              have w175 : 0 ≤ Xi S 876 7 ∧ Xi S 876 7 ≤ 5125 := hH.c _ _
              have w176 : 0 ≤ Xi T16 890 1 ∧ Xi T16 890 1 ≤ 5126 := hHT16.c _ _
              refine l_callV rfl rfl rfl (t_gr_takeRun hHT16 (by first | assumption | omega) (by first | assumption | omega) _) ?_
              rintro _ T17 ⟨hHT17, w181, z180, rfl, w180, w177, w178, w179⟩
              have hFT17 : FR md_gr_checkOthers S T17 := FR.tr hFT16 w181 rfl
              show Rl _ _ _ _ _ [iv z180] _ _
              refine l_if_eq rfl rfl (by unfold rg; omega) (fun w182 => ?_) (fun w183 => ?_)
              · refine l_iconst rfl ?_
                refine l_ireturn rfl rfl ?_
                have w184 : Xi T17 890 2 = Xi U13 890 2 := (show Xi T17 890 2 = Xi T16 890 2 from w181.x _ _ rfl).trans ( (show Xi T16 890 2 = Xi T15 890 2 from w169.x _ _ rfl).trans ( (show Xi T15 890 2 = Xi T14 890 2 from w156.x _ _ rfl).trans ((show Xi T14 890 2 = Xi U13 890 2 from w143.x _ _ rfl))))
                have w185 : 0 ≤ Xi U13 890 2 ∧ Xi U13 890 2 ≤ 20 := hHU13.c _ _
                exact ⟨hHT17, hFT17, _, rfl, ⟨by omega, by omega⟩, (by first | assumption | omega)⟩
              · refine l_aload_n rfl rfl ?_
                refine l_bipush rfl rfl ?_
                have w186 : Xi T17 876 7 = Xi S 876 7 := (show Xi T17 876 7 = Xi T16 876 7 from w181.x _ _ rfl).trans ( (show Xi T16 876 7 = Xi T15 876 7 from w169.x _ _ rfl).trans ( (show Xi T15 876 7 = Xi T14 876 7 from w156.x _ _ rfl).trans ( (show Xi T14 876 7 = Xi U13 876 7 from w143.x _ _ rfl).trans ( (show Xi U13 876 7 = Xi U2 876 7 from by rw [eU13]; exact Xi_ne (by omega)).trans ( (show Xi U2 876 7 = Xi U1 876 7 from by rw [eU2]; exact Xi_ne (by omega)).trans ((show Xi U1 876 7 = Xi S 876 7 from by rw [eU1]; exact Xi_ne (by omega))))))))
                have w187 : 0 ≤ Xi S 876 7 ∧ Xi S 876 7 ≤ 5125 := hH.c _ _
                have w188 : 0 ≤ Xi T17 890 1 ∧ Xi T17 890 1 ≤ 5126 := hHT17.c _ _
                refine l_callV rfl rfl rfl (t_gr_take hHT17 15 ⟨by omega, by omega⟩ (by first | assumption | omega) (by first | assumption | omega) (by first | assumption | omega) _) ?_
                rintro _ T18 ⟨hHT18, w194, z193, rfl, w193, w189, w190, w191, w192⟩
                have hFT18 : FR md_gr_checkOthers S T18 := FR.tr hFT17 w194 rfl
                show Rl _ _ _ _ _ [iv z193] _ _
                refine l_if_eq rfl rfl (by unfold rg; omega) (fun w195 => ?_) (fun w196 => ?_)
                · refine l_iconst rfl ?_
                  refine l_ireturn rfl rfl ?_
                  have w197 : Xi T18 890 2 = Xi U13 890 2 := (show Xi T18 890 2 = Xi T17 890 2 from w194.x _ _ rfl).trans ( (show Xi T17 890 2 = Xi T16 890 2 from w181.x _ _ rfl).trans ( (show Xi T16 890 2 = Xi T15 890 2 from w169.x _ _ rfl).trans ( (show Xi T15 890 2 = Xi T14 890 2 from w156.x _ _ rfl).trans ((show Xi T14 890 2 = Xi U13 890 2 from w143.x _ _ rfl)))))
                  have w198 : 0 ≤ Xi U13 890 2 ∧ Xi U13 890 2 ≤ 20 := hHU13.c _ _
                  exact ⟨hHT18, hFT18, _, rfl, ⟨by omega, by omega⟩, (by first | assumption | omega)⟩
                · refine l_aload_n rfl rfl ?_
                  have w199 : Xi T18 876 7 = Xi S 876 7 := (show Xi T18 876 7 = Xi T17 876 7 from w194.x _ _ rfl).trans ( (show Xi T17 876 7 = Xi T16 876 7 from w181.x _ _ rfl).trans ( (show Xi T16 876 7 = Xi T15 876 7 from w169.x _ _ rfl).trans ( (show Xi T15 876 7 = Xi T14 876 7 from w156.x _ _ rfl).trans ( (show Xi T14 876 7 = Xi U13 876 7 from w143.x _ _ rfl).trans ( (show Xi U13 876 7 = Xi U2 876 7 from by rw [eU13]; exact Xi_ne (by omega)).trans ( (show Xi U2 876 7 = Xi U1 876 7 from by rw [eU2]; exact Xi_ne (by omega)).trans ((show Xi U1 876 7 = Xi S 876 7 from by rw [eU1]; exact Xi_ne (by omega)))))))))
                  have w200 : 0 ≤ Xi S 876 7 ∧ Xi S 876 7 ≤ 5125 := hH.c _ _
                  have w201 : 0 ≤ Xi T18 890 1 ∧ Xi T18 890 1 ≤ 5126 := hHT18.c _ _
                  refine l_callV rfl rfl rfl (t_gr_takeRun hHT18 (by first | assumption | omega) (by first | assumption | omega) _) ?_
                  rintro _ T19 ⟨hHT19, w206, z205, rfl, w205, w202, w203, w204⟩
                  have hFT19 : FR md_gr_checkOthers S T19 := FR.tr hFT18 w206 rfl
                  show Rl _ _ _ _ _ [iv z205] _ _
                  refine l_if_eq rfl rfl (by unfold rg; omega) (fun w207 => ?_) (fun w208 => ?_)
                  · refine l_iconst rfl ?_
                    refine l_ireturn rfl rfl ?_
                    have w209 : Xi T19 890 2 = Xi U13 890 2 := (show Xi T19 890 2 = Xi T18 890 2 from w206.x _ _ rfl).trans ( (show Xi T18 890 2 = Xi T17 890 2 from w194.x _ _ rfl).trans ( (show Xi T17 890 2 = Xi T16 890 2 from w181.x _ _ rfl).trans ( (show Xi T16 890 2 = Xi T15 890 2 from w169.x _ _ rfl).trans ( (show Xi T15 890 2 = Xi T14 890 2 from w156.x _ _ rfl).trans ((show Xi T14 890 2 = Xi U13 890 2 from w143.x _ _ rfl))))))
                    have w210 : 0 ≤ Xi U13 890 2 ∧ Xi U13 890 2 ≤ 20 := hHU13.c _ _
                    exact ⟨hHT19, hFT19, _, rfl, ⟨by omega, by omega⟩, (by first | assumption | omega)⟩
                  · refine l_aload_n rfl rfl ?_
                    refine l_bipush rfl rfl ?_
                    have w211 : Xi T19 876 7 = Xi S 876 7 := (show Xi T19 876 7 = Xi T18 876 7 from w206.x _ _ rfl).trans ( (show Xi T18 876 7 = Xi T17 876 7 from w194.x _ _ rfl).trans ( (show Xi T17 876 7 = Xi T16 876 7 from w181.x _ _ rfl).trans ( (show Xi T16 876 7 = Xi T15 876 7 from w169.x _ _ rfl).trans ( (show Xi T15 876 7 = Xi T14 876 7 from w156.x _ _ rfl).trans ( (show Xi T14 876 7 = Xi U13 876 7 from w143.x _ _ rfl).trans ( (show Xi U13 876 7 = Xi U2 876 7 from by rw [eU13]; exact Xi_ne (by omega)).trans ( (show Xi U2 876 7 = Xi U1 876 7 from by rw [eU2]; exact Xi_ne (by omega)).trans ((show Xi U1 876 7 = Xi S 876 7 from by rw [eU1]; exact Xi_ne (by omega))))))))))
                    have w212 : 0 ≤ Xi S 876 7 ∧ Xi S 876 7 ≤ 5125 := hH.c _ _
                    have w213 : 0 ≤ Xi T19 890 1 ∧ Xi T19 890 1 ≤ 5126 := hHT19.c _ _
                    refine l_callV rfl rfl rfl (t_gr_take hHT19 103 ⟨by omega, by omega⟩ (by first | assumption | omega) (by first | assumption | omega) (by first | assumption | omega) _) ?_
                    rintro _ T20 ⟨hHT20, w219, z218, rfl, w218, w214, w215, w216, w217⟩
                    have hFT20 : FR md_gr_checkOthers S T20 := FR.tr hFT19 w219 rfl
                    show Rl _ _ _ _ _ [iv z218] _ _
                    refine l_if_eq rfl rfl (by unfold rg; omega) (fun w220 => ?_) (fun w221 => ?_)
                    · refine l_iconst rfl ?_
                      refine l_ireturn rfl rfl ?_
                      have w222 : Xi T20 890 2 = Xi U13 890 2 := (show Xi T20 890 2 = Xi T19 890 2 from w219.x _ _ rfl).trans ( (show Xi T19 890 2 = Xi T18 890 2 from w206.x _ _ rfl).trans ( (show Xi T18 890 2 = Xi T17 890 2 from w194.x _ _ rfl).trans ( (show Xi T17 890 2 = Xi T16 890 2 from w181.x _ _ rfl).trans ( (show Xi T16 890 2 = Xi T15 890 2 from w169.x _ _ rfl).trans ( (show Xi T15 890 2 = Xi T14 890 2 from w156.x _ _ rfl).trans ((show Xi T14 890 2 = Xi U13 890 2 from w143.x _ _ rfl)))))))
                      have w223 : 0 ≤ Xi U13 890 2 ∧ Xi U13 890 2 ≤ 20 := hHU13.c _ _
                      exact ⟨hHT20, hFT20, _, rfl, ⟨by omega, by omega⟩, (by first | assumption | omega)⟩
                    · refine l_iconst rfl ?_
                      refine l_goto rfl rfl ?_
                      refine l_ireturn rfl rfl ?_
                      have w224 : Xi T20 890 2 = Xi U13 890 2 := (show Xi T20 890 2 = Xi T19 890 2 from w219.x _ _ rfl).trans ( (show Xi T19 890 2 = Xi T18 890 2 from w206.x _ _ rfl).trans ( (show Xi T18 890 2 = Xi T17 890 2 from w194.x _ _ rfl).trans ( (show Xi T17 890 2 = Xi T16 890 2 from w181.x _ _ rfl).trans ( (show Xi T16 890 2 = Xi T15 890 2 from w169.x _ _ rfl).trans ( (show Xi T15 890 2 = Xi T14 890 2 from w156.x _ _ rfl).trans ((show Xi T14 890 2 = Xi U13 890 2 from w143.x _ _ rfl)))))))
                      have w225 : 0 ≤ Xi U13 890 2 ∧ Xi U13 890 2 ≤ 20 := hHU13.c _ _
                      exact ⟨hHT20, hFT20, _, rfl, ⟨by omega, by omega⟩, (by first | assumption | omega)⟩
      refine And.intro (fun w226 => ⟨_, rfl, ?_⟩) (fun w227 => ?_)
      · refine l_aload_n rfl rfl ?_
        refine l_bipush rfl rfl ?_
        refine l_pfi rfl rfl rfl rfl ?_
        obtain ⟨U21, eU21⟩ : ∃ T : sS, T = uI U2 890 2 (Int32.ofInt 19) := ⟨_, rfl⟩
        rw [← eU21]
        have hHU21 : HI U21 := by rw [eU21]; exact HI_w hHU2 (show 0 ≤ 19 by omega) (show 19 ≤ 20 by omega)
        have hFU21 : FR md_gr_checkOthers S U21 := by rw [eU21]; exact FR.wI hFU2 (mdf_i (r := (890, 891, 2, 3)) (List.mem_of_getElem? (i := 1) rfl) (inR_i (by omega) (by omega) (by omega) (by omega)))
        have w228 : Xi U21 890 2 = 19 := by rw [eU21]; exact Xi_same (by unfold rg; omega)
        have hso404 : SAY U21 (Xi U21 890 1) := SAY_sort eU21 (by assumption) (by decide)
        refine l_aload_n rfl rfl ?_
        have w229 : Xi U21 876 7 = Xi S 876 7 := (show Xi U21 876 7 = Xi U2 876 7 from by rw [eU21]; exact Xi_ne (by omega)).trans ( (show Xi U2 876 7 = Xi U1 876 7 from by rw [eU2]; exact Xi_ne (by omega)).trans ((show Xi U1 876 7 = Xi S 876 7 from by rw [eU1]; exact Xi_ne (by omega))))
        have w230 : 0 ≤ Xi S 876 7 ∧ Xi S 876 7 ≤ 5125 := hH.c _ _
        have w231 : Xi U21 890 1 = Xi U1 890 1 := (show Xi U21 890 1 = Xi U2 890 1 from by rw [eU21]; exact Xi_ne (by omega)).trans ((show Xi U2 890 1 = Xi U1 890 1 from by rw [eU2]; exact Xi_ne (by omega)))
        have w232 : 0 ≤ Xi U1 890 1 ∧ Xi U1 890 1 ≤ 5126 := hHU1.c _ _
        refine l_callV rfl rfl rfl (t_gr_takeName hHU21 (by first | assumption | omega) (by first | assumption | omega) _) ?_
        rintro _ T22 ⟨hHT22, w236, z235, rfl, w235, w233, w234⟩
        have hFT22 : FR md_gr_checkOthers S T22 := FR.tr hFU21 w236 rfl
        show Rl _ _ _ _ _ [iv z235] _ _
        refine l_if_eq rfl rfl (by unfold rg; omega) (fun w237 => ?_) (fun w238 => ?_)
        · refine l_iconst rfl ?_
          refine l_ireturn rfl rfl ?_
          have w239 : Xi T22 890 2 = Xi U21 890 2 := (show Xi T22 890 2 = Xi U21 890 2 from w236.x _ _ rfl)
          have w240 : 0 ≤ Xi U21 890 2 ∧ Xi U21 890 2 ≤ 20 := hHU21.c _ _
          exact ⟨hHT22, hFT22, _, rfl, ⟨by omega, by omega⟩, (by first | assumption | omega)⟩
        · refine l_aload_n rfl rfl ?_
          refine l_bipush rfl rfl ?_
          have w241 : Xi T22 876 7 = Xi S 876 7 := (show Xi T22 876 7 = Xi U21 876 7 from w236.x _ _ rfl).trans ( (show Xi U21 876 7 = Xi U2 876 7 from by rw [eU21]; exact Xi_ne (by omega)).trans ( (show Xi U2 876 7 = Xi U1 876 7 from by rw [eU2]; exact Xi_ne (by omega)).trans ((show Xi U1 876 7 = Xi S 876 7 from by rw [eU1]; exact Xi_ne (by omega)))))
          have w242 : 0 ≤ Xi S 876 7 ∧ Xi S 876 7 ≤ 5125 := hH.c _ _
          have w243 : 0 ≤ Xi T22 890 1 ∧ Xi T22 890 1 ≤ 5126 := hHT22.c _ _
          refine l_callV rfl rfl rfl (t_gr_take hHT22 21 ⟨by omega, by omega⟩ (by first | assumption | omega) (by first | assumption | omega) (by first | assumption | omega) _) ?_
          rintro _ T23 ⟨hHT23, w249, z248, rfl, w248, w244, w245, w246, w247⟩
          have hFT23 : FR md_gr_checkOthers S T23 := FR.tr hFT22 w249 rfl
          show Rl _ _ _ _ _ [iv z248] _ _
          refine l_if_eq rfl rfl (by unfold rg; omega) (fun w250 => ?_) (fun w251 => ?_)
          · refine l_iconst rfl ?_
            refine l_ireturn rfl rfl ?_
            have w252 : Xi T23 890 2 = Xi U21 890 2 := (show Xi T23 890 2 = Xi T22 890 2 from w249.x _ _ rfl).trans ((show Xi T22 890 2 = Xi U21 890 2 from w236.x _ _ rfl))
            have w253 : 0 ≤ Xi U21 890 2 ∧ Xi U21 890 2 ≤ 20 := hHU21.c _ _
            exact ⟨hHT23, hFT23, _, rfl, ⟨by omega, by omega⟩, (by first | assumption | omega)⟩
          · refine l_aload_n rfl rfl ?_
            have w254 : Xi T23 876 7 = Xi S 876 7 := (show Xi T23 876 7 = Xi T22 876 7 from w249.x _ _ rfl).trans ( (show Xi T22 876 7 = Xi U21 876 7 from w236.x _ _ rfl).trans ( (show Xi U21 876 7 = Xi U2 876 7 from by rw [eU21]; exact Xi_ne (by omega)).trans ( (show Xi U2 876 7 = Xi U1 876 7 from by rw [eU2]; exact Xi_ne (by omega)).trans ((show Xi U1 876 7 = Xi S 876 7 from by rw [eU1]; exact Xi_ne (by omega))))))
            have w255 : 0 ≤ Xi S 876 7 ∧ Xi S 876 7 ≤ 5125 := hH.c _ _
            have w256 : 0 ≤ Xi T23 890 1 ∧ Xi T23 890 1 ≤ 5126 := hHT23.c _ _
            refine l_callV rfl rfl rfl (t_gr_takeHowMany hHT23 (by first | assumption | omega) (by first | assumption | omega) _) ?_
            rintro _ T24 ⟨hHT24, w260, z259, rfl, w259, w257, w258⟩
            have hFT24 : FR md_gr_checkOthers S T24 := FR.tr hFT23 w260 rfl
            show Rl _ _ _ _ _ [iv z259] _ _
            refine l_if_eq rfl rfl (by unfold rg; omega) (fun w261 => ?_) (fun w262 => ?_)
            · refine l_iconst rfl ?_
              refine l_ireturn rfl rfl ?_
              have w263 : Xi T24 890 2 = Xi U21 890 2 := (show Xi T24 890 2 = Xi T23 890 2 from w260.x _ _ rfl).trans ( (show Xi T23 890 2 = Xi T22 890 2 from w249.x _ _ rfl).trans ((show Xi T22 890 2 = Xi U21 890 2 from w236.x _ _ rfl)))
              have w264 : 0 ≤ Xi U21 890 2 ∧ Xi U21 890 2 ≤ 20 := hHU21.c _ _
              exact ⟨hHT24, hFT24, _, rfl, ⟨by omega, by omega⟩, (by first | assumption | omega)⟩
            · refine l_aload_n rfl rfl ?_
              have w265 : Xi T24 876 7 = Xi S 876 7 := (show Xi T24 876 7 = Xi T23 876 7 from w260.x _ _ rfl).trans ( (show Xi T23 876 7 = Xi T22 876 7 from w249.x _ _ rfl).trans ( (show Xi T22 876 7 = Xi U21 876 7 from w236.x _ _ rfl).trans ( (show Xi U21 876 7 = Xi U2 876 7 from by rw [eU21]; exact Xi_ne (by omega)).trans ( (show Xi U2 876 7 = Xi U1 876 7 from by rw [eU2]; exact Xi_ne (by omega)).trans ((show Xi U1 876 7 = Xi S 876 7 from by rw [eU1]; exact Xi_ne (by omega)))))))
              have w266 : 0 ≤ Xi S 876 7 ∧ Xi S 876 7 ≤ 5125 := hH.c _ _
              have w267 : 0 ≤ Xi T24 890 1 ∧ Xi T24 890 1 ≤ 5126 := hHT24.c _ _
              refine l_callV rfl rfl rfl (t_gr_takeRun hHT24 (by first | assumption | omega) (by first | assumption | omega) _) ?_
              rintro _ T25 ⟨hHT25, w272, z271, rfl, w271, w268, w269, w270⟩
              have hFT25 : FR md_gr_checkOthers S T25 := FR.tr hFT24 w272 rfl
              show Rl _ _ _ _ _ [iv z271] _ _
              refine l_if_eq rfl rfl (by unfold rg; omega) (fun w273 => ?_) (fun w274 => ?_)
              · refine l_iconst rfl ?_
                refine l_ireturn rfl rfl ?_
                have w275 : Xi T25 890 2 = Xi U21 890 2 := (show Xi T25 890 2 = Xi T24 890 2 from w272.x _ _ rfl).trans ( (show Xi T24 890 2 = Xi T23 890 2 from w260.x _ _ rfl).trans ( (show Xi T23 890 2 = Xi T22 890 2 from w249.x _ _ rfl).trans ((show Xi T22 890 2 = Xi U21 890 2 from w236.x _ _ rfl))))
                have w276 : 0 ≤ Xi U21 890 2 ∧ Xi U21 890 2 ≤ 20 := hHU21.c _ _
                exact ⟨hHT25, hFT25, _, rfl, ⟨by omega, by omega⟩, (by first | assumption | omega)⟩
              · refine l_aload_n rfl rfl ?_
                refine l_bipush rfl rfl ?_
                have w277 : Xi T25 876 7 = Xi S 876 7 := (show Xi T25 876 7 = Xi T24 876 7 from w272.x _ _ rfl).trans ( (show Xi T24 876 7 = Xi T23 876 7 from w260.x _ _ rfl).trans ( (show Xi T23 876 7 = Xi T22 876 7 from w249.x _ _ rfl).trans ( (show Xi T22 876 7 = Xi U21 876 7 from w236.x _ _ rfl).trans ( (show Xi U21 876 7 = Xi U2 876 7 from by rw [eU21]; exact Xi_ne (by omega)).trans ( (show Xi U2 876 7 = Xi U1 876 7 from by rw [eU2]; exact Xi_ne (by omega)).trans ((show Xi U1 876 7 = Xi S 876 7 from by rw [eU1]; exact Xi_ne (by omega))))))))
                have w278 : 0 ≤ Xi S 876 7 ∧ Xi S 876 7 ≤ 5125 := hH.c _ _
                have w279 : 0 ≤ Xi T25 890 1 ∧ Xi T25 890 1 ≤ 5126 := hHT25.c _ _
                refine l_callV rfl rfl rfl (t_gr_take hHT25 11 ⟨by omega, by omega⟩ (by first | assumption | omega) (by first | assumption | omega) (by first | assumption | omega) _) ?_
                rintro _ T26 ⟨hHT26, w285, z284, rfl, w284, w280, w281, w282, w283⟩
                have hFT26 : FR md_gr_checkOthers S T26 := FR.tr hFT25 w285 rfl
                show Rl _ _ _ _ _ [iv z284] _ _
                refine l_if_eq rfl rfl (by unfold rg; omega) (fun w286 => ?_) (fun w287 => ?_)
                · refine l_iconst rfl ?_
                  refine l_ireturn rfl rfl ?_
                  have w288 : Xi T26 890 2 = Xi U21 890 2 := (show Xi T26 890 2 = Xi T25 890 2 from w285.x _ _ rfl).trans ( (show Xi T25 890 2 = Xi T24 890 2 from w272.x _ _ rfl).trans ( (show Xi T24 890 2 = Xi T23 890 2 from w260.x _ _ rfl).trans ( (show Xi T23 890 2 = Xi T22 890 2 from w249.x _ _ rfl).trans ((show Xi T22 890 2 = Xi U21 890 2 from w236.x _ _ rfl)))))
                  have w289 : 0 ≤ Xi U21 890 2 ∧ Xi U21 890 2 ≤ 20 := hHU21.c _ _
                  exact ⟨hHT26, hFT26, _, rfl, ⟨by omega, by omega⟩, (by first | assumption | omega)⟩
                · refine l_aload_n rfl rfl ?_
                  have w290 : Xi T26 876 7 = Xi S 876 7 := (show Xi T26 876 7 = Xi T25 876 7 from w285.x _ _ rfl).trans ( (show Xi T25 876 7 = Xi T24 876 7 from w272.x _ _ rfl).trans ( (show Xi T24 876 7 = Xi T23 876 7 from w260.x _ _ rfl).trans ( (show Xi T23 876 7 = Xi T22 876 7 from w249.x _ _ rfl).trans ( (show Xi T22 876 7 = Xi U21 876 7 from w236.x _ _ rfl).trans ( (show Xi U21 876 7 = Xi U2 876 7 from by rw [eU21]; exact Xi_ne (by omega)).trans ( (show Xi U2 876 7 = Xi U1 876 7 from by rw [eU2]; exact Xi_ne (by omega)).trans ((show Xi U1 876 7 = Xi S 876 7 from by rw [eU1]; exact Xi_ne (by omega)))))))))
                  have w291 : 0 ≤ Xi S 876 7 ∧ Xi S 876 7 ≤ 5125 := hH.c _ _
                  have w292 : 0 ≤ Xi T26 890 1 ∧ Xi T26 890 1 ≤ 5126 := hHT26.c _ _
                  refine l_callV rfl rfl rfl (t_gr_takeHowMany hHT26 (by first | assumption | omega) (by first | assumption | omega) _) ?_
                  rintro _ T27 ⟨hHT27, w296, z295, rfl, w295, w293, w294⟩
                  have hFT27 : FR md_gr_checkOthers S T27 := FR.tr hFT26 w296 rfl
                  show Rl _ _ _ _ _ [iv z295] _ _
                  refine l_if_eq rfl rfl (by unfold rg; omega) (fun w297 => ?_) (fun w298 => ?_)
                  · refine l_iconst rfl ?_
                    refine l_ireturn rfl rfl ?_
                    have w299 : Xi T27 890 2 = Xi U21 890 2 := (show Xi T27 890 2 = Xi T26 890 2 from w296.x _ _ rfl).trans ( (show Xi T26 890 2 = Xi T25 890 2 from w285.x _ _ rfl).trans ( (show Xi T25 890 2 = Xi T24 890 2 from w272.x _ _ rfl).trans ( (show Xi T24 890 2 = Xi T23 890 2 from w260.x _ _ rfl).trans ( (show Xi T23 890 2 = Xi T22 890 2 from w249.x _ _ rfl).trans ((show Xi T22 890 2 = Xi U21 890 2 from w236.x _ _ rfl))))))
                    have w300 : 0 ≤ Xi U21 890 2 ∧ Xi U21 890 2 ≤ 20 := hHU21.c _ _
                    exact ⟨hHT27, hFT27, _, rfl, ⟨by omega, by omega⟩, (by first | assumption | omega)⟩
                  · refine l_aload_n rfl rfl ?_
                    have w301 : Xi T27 876 7 = Xi S 876 7 := (show Xi T27 876 7 = Xi T26 876 7 from w296.x _ _ rfl).trans ( (show Xi T26 876 7 = Xi T25 876 7 from w285.x _ _ rfl).trans ( (show Xi T25 876 7 = Xi T24 876 7 from w272.x _ _ rfl).trans ( (show Xi T24 876 7 = Xi T23 876 7 from w260.x _ _ rfl).trans ( (show Xi T23 876 7 = Xi T22 876 7 from w249.x _ _ rfl).trans ( (show Xi T22 876 7 = Xi U21 876 7 from w236.x _ _ rfl).trans ( (show Xi U21 876 7 = Xi U2 876 7 from by rw [eU21]; exact Xi_ne (by omega)).trans ( (show Xi U2 876 7 = Xi U1 876 7 from by rw [eU2]; exact Xi_ne (by omega)).trans ((show Xi U1 876 7 = Xi S 876 7 from by rw [eU1]; exact Xi_ne (by omega))))))))))
                    have w302 : 0 ≤ Xi S 876 7 ∧ Xi S 876 7 ≤ 5125 := hH.c _ _
                    have w303 : 0 ≤ Xi T27 890 1 ∧ Xi T27 890 1 ≤ 5126 := hHT27.c _ _
                    refine l_callV rfl rfl rfl (t_gr_takeRun hHT27 (by first | assumption | omega) (by first | assumption | omega) _) ?_
                    rintro _ T28 ⟨hHT28, w308, z307, rfl, w307, w304, w305, w306⟩
                    have hFT28 : FR md_gr_checkOthers S T28 := FR.tr hFT27 w308 rfl
                    show Rl _ _ _ _ _ [iv z307] _ _
                    refine l_if_eq rfl rfl (by unfold rg; omega) (fun w309 => ?_) (fun w310 => ?_)
                    · refine l_iconst rfl ?_
                      refine l_ireturn rfl rfl ?_
                      have w311 : Xi T28 890 2 = Xi U21 890 2 := (show Xi T28 890 2 = Xi T27 890 2 from w308.x _ _ rfl).trans ( (show Xi T27 890 2 = Xi T26 890 2 from w296.x _ _ rfl).trans ( (show Xi T26 890 2 = Xi T25 890 2 from w285.x _ _ rfl).trans ( (show Xi T25 890 2 = Xi T24 890 2 from w272.x _ _ rfl).trans ( (show Xi T24 890 2 = Xi T23 890 2 from w260.x _ _ rfl).trans ( (show Xi T23 890 2 = Xi T22 890 2 from w249.x _ _ rfl).trans ((show Xi T22 890 2 = Xi U21 890 2 from w236.x _ _ rfl)))))))
                      have w312 : 0 ≤ Xi U21 890 2 ∧ Xi U21 890 2 ≤ 20 := hHU21.c _ _
                      exact ⟨hHT28, hFT28, _, rfl, ⟨by omega, by omega⟩, (by first | assumption | omega)⟩
                    · refine l_aload_n rfl rfl ?_
                      refine l_bipush rfl rfl ?_
                      have w313 : Xi T28 876 7 = Xi S 876 7 := (show Xi T28 876 7 = Xi T27 876 7 from w308.x _ _ rfl).trans ( (show Xi T27 876 7 = Xi T26 876 7 from w296.x _ _ rfl).trans ( (show Xi T26 876 7 = Xi T25 876 7 from w285.x _ _ rfl).trans ( (show Xi T25 876 7 = Xi T24 876 7 from w272.x _ _ rfl).trans ( (show Xi T24 876 7 = Xi T23 876 7 from w260.x _ _ rfl).trans ( (show Xi T23 876 7 = Xi T22 876 7 from w249.x _ _ rfl).trans ( (show Xi T22 876 7 = Xi U21 876 7 from w236.x _ _ rfl).trans ( (show Xi U21 876 7 = Xi U2 876 7 from by rw [eU21]; exact Xi_ne (by omega)).trans ( (show Xi U2 876 7 = Xi U1 876 7 from by rw [eU2]; exact Xi_ne (by omega)).trans ((show Xi U1 876 7 = Xi S 876 7 from by rw [eU1]; exact Xi_ne (by omega)))))))))))
                      have w314 : 0 ≤ Xi S 876 7 ∧ Xi S 876 7 ≤ 5125 := hH.c _ _
                      have w315 : 0 ≤ Xi T28 890 1 ∧ Xi T28 890 1 ≤ 5126 := hHT28.c _ _
                      refine l_callV rfl rfl rfl (t_gr_take hHT28 103 ⟨by omega, by omega⟩ (by first | assumption | omega) (by first | assumption | omega) (by first | assumption | omega) _) ?_
                      rintro _ T29 ⟨hHT29, w321, z320, rfl, w320, w316, w317, w318, w319⟩
                      have hFT29 : FR md_gr_checkOthers S T29 := FR.tr hFT28 w321 rfl
                      show Rl _ _ _ _ _ [iv z320] _ _
                      refine l_if_eq rfl rfl (by unfold rg; omega) (fun w322 => ?_) (fun w323 => ?_)
                      · refine l_iconst rfl ?_
                        refine l_ireturn rfl rfl ?_
                        have w324 : Xi T29 890 2 = Xi U21 890 2 := (show Xi T29 890 2 = Xi T28 890 2 from w321.x _ _ rfl).trans ( (show Xi T28 890 2 = Xi T27 890 2 from w308.x _ _ rfl).trans ( (show Xi T27 890 2 = Xi T26 890 2 from w296.x _ _ rfl).trans ( (show Xi T26 890 2 = Xi T25 890 2 from w285.x _ _ rfl).trans ( (show Xi T25 890 2 = Xi T24 890 2 from w272.x _ _ rfl).trans ( (show Xi T24 890 2 = Xi T23 890 2 from w260.x _ _ rfl).trans ( (show Xi T23 890 2 = Xi T22 890 2 from w249.x _ _ rfl).trans ((show Xi T22 890 2 = Xi U21 890 2 from w236.x _ _ rfl))))))))
                        have w325 : 0 ≤ Xi U21 890 2 ∧ Xi U21 890 2 ≤ 20 := hHU21.c _ _
                        exact ⟨hHT29, hFT29, _, rfl, ⟨by omega, by omega⟩, (by first | assumption | omega)⟩
                      · refine l_iconst rfl ?_
                        refine l_goto rfl rfl ?_
                        refine l_ireturn rfl rfl ?_
                        have w326 : Xi T29 890 2 = Xi U21 890 2 := (show Xi T29 890 2 = Xi T28 890 2 from w321.x _ _ rfl).trans ( (show Xi T28 890 2 = Xi T27 890 2 from w308.x _ _ rfl).trans ( (show Xi T27 890 2 = Xi T26 890 2 from w296.x _ _ rfl).trans ( (show Xi T26 890 2 = Xi T25 890 2 from w285.x _ _ rfl).trans ( (show Xi T25 890 2 = Xi T24 890 2 from w272.x _ _ rfl).trans ( (show Xi T24 890 2 = Xi T23 890 2 from w260.x _ _ rfl).trans ( (show Xi T23 890 2 = Xi T22 890 2 from w249.x _ _ rfl).trans ((show Xi T22 890 2 = Xi U21 890 2 from w236.x _ _ rfl))))))))
                        have w327 : 0 ≤ Xi U21 890 2 ∧ Xi U21 890 2 ≤ 20 := hHU21.c _ _
                        exact ⟨hHT29, hFT29, _, rfl, ⟨by omega, by omega⟩, (by first | assumption | omega)⟩
      refine ⟨_, rfl, ?_⟩
      refine l_aload_n rfl rfl ?_
      refine l_bipush rfl rfl ?_
      refine l_pfi rfl rfl rfl rfl ?_
      obtain ⟨U30, eU30⟩ : ∃ T : sS, T = uI U2 890 2 (Int32.ofInt 20) := ⟨_, rfl⟩
      rw [← eU30]
      have hHU30 : HI U30 := by rw [eU30]; exact HI_w hHU2 (show 0 ≤ 20 by omega) (show 20 ≤ 20 by omega)
      have hFU30 : FR md_gr_checkOthers S U30 := by rw [eU30]; exact FR.wI hFU2 (mdf_i (r := (890, 891, 2, 3)) (List.mem_of_getElem? (i := 1) rfl) (inR_i (by omega) (by omega) (by omega) (by omega)))
      have w328 : Xi U30 890 2 = 20 := by rw [eU30]; exact Xi_same (by unfold rg; omega)
      have hso478 : SAY U30 (Xi U30 890 1) := SAY_sort eU30 (by assumption) (by decide)
      refine l_aload_n rfl rfl ?_
      refine l_bipush rfl rfl ?_
      refine l_bipush rfl rfl ?_
      have w329 : Xi U30 876 7 = Xi S 876 7 := (show Xi U30 876 7 = Xi U2 876 7 from by rw [eU30]; exact Xi_ne (by omega)).trans ( (show Xi U2 876 7 = Xi U1 876 7 from by rw [eU2]; exact Xi_ne (by omega)).trans ((show Xi U1 876 7 = Xi S 876 7 from by rw [eU1]; exact Xi_ne (by omega))))
      have w330 : 0 ≤ Xi S 876 7 ∧ Xi S 876 7 ≤ 5125 := hH.c _ _
      have w331 : Xi U30 890 1 = Xi U1 890 1 := (show Xi U30 890 1 = Xi U2 890 1 from by rw [eU30]; exact Xi_ne (by omega)).trans ((show Xi U2 890 1 = Xi U1 890 1 from by rw [eU2]; exact Xi_ne (by omega)))
      have w332 : 0 ≤ Xi U1 890 1 ∧ Xi U1 890 1 ≤ 5126 := hHU1.c _ _
      refine l_callV rfl rfl rfl (t_gr_takeLoose hHU30 16 104 ⟨by omega, by omega⟩ ⟨by omega, by omega⟩ (by first | assumption | omega) (by first | assumption | omega) (by first | assumption | omega) (by first | assumption | omega) _) ?_
      rintro _ T31 ⟨hHT31, w336, z335, rfl, w335, w333, w334⟩
      have hFT31 : FR md_gr_checkOthers S T31 := FR.tr hFU30 w336 rfl
      show Rl _ _ _ _ _ [iv z335] _ _
      refine l_if_eq rfl rfl (by unfold rg; omega) (fun w337 => ?_) (fun w338 => ?_)
      · refine l_iconst rfl ?_
        refine l_ireturn rfl rfl ?_
        have w339 : Xi T31 890 2 = Xi U30 890 2 := (show Xi T31 890 2 = Xi U30 890 2 from w336.x _ _ rfl)
        have w340 : 0 ≤ Xi U30 890 2 ∧ Xi U30 890 2 ≤ 20 := hHU30.c _ _
        exact ⟨hHT31, hFT31, _, rfl, ⟨by omega, by omega⟩, (by first | assumption | omega)⟩
      · refine l_aload_n rfl rfl ?_
        refine l_bipush rfl rfl ?_
        have w341 : Xi T31 876 7 = Xi S 876 7 := (show Xi T31 876 7 = Xi U30 876 7 from w336.x _ _ rfl).trans ( (show Xi U30 876 7 = Xi U2 876 7 from by rw [eU30]; exact Xi_ne (by omega)).trans ( (show Xi U2 876 7 = Xi U1 876 7 from by rw [eU2]; exact Xi_ne (by omega)).trans ((show Xi U1 876 7 = Xi S 876 7 from by rw [eU1]; exact Xi_ne (by omega)))))
        have w342 : 0 ≤ Xi S 876 7 ∧ Xi S 876 7 ≤ 5125 := hH.c _ _
        have w343 : 0 ≤ Xi T31 890 1 ∧ Xi T31 890 1 ≤ 5126 := hHT31.c _ _
        refine l_callV rfl rfl rfl (t_gr_take hHT31 103 ⟨by omega, by omega⟩ (by first | assumption | omega) (by first | assumption | omega) (by first | assumption | omega) _) ?_
        rintro _ T32 ⟨hHT32, w349, z348, rfl, w348, w344, w345, w346, w347⟩
        have hFT32 : FR md_gr_checkOthers S T32 := FR.tr hFT31 w349 rfl
        show Rl _ _ _ _ _ [iv z348] _ _
        refine l_if_eq rfl rfl (by unfold rg; omega) (fun w350 => ?_) (fun w351 => ?_)
        · refine l_iconst rfl ?_
          refine l_ireturn rfl rfl ?_
          have w352 : Xi T32 890 2 = Xi U30 890 2 := (show Xi T32 890 2 = Xi T31 890 2 from w349.x _ _ rfl).trans ((show Xi T31 890 2 = Xi U30 890 2 from w336.x _ _ rfl))
          have w353 : 0 ≤ Xi U30 890 2 ∧ Xi U30 890 2 ≤ 20 := hHU30.c _ _
          exact ⟨hHT32, hFT32, _, rfl, ⟨by omega, by omega⟩, (by first | assumption | omega)⟩
        · refine l_iconst rfl ?_
          refine l_goto rfl rfl ?_
          refine l_ireturn rfl rfl ?_
          have w354 : Xi T32 890 2 = Xi U30 890 2 := (show Xi T32 890 2 = Xi T31 890 2 from w349.x _ _ rfl).trans ((show Xi T31 890 2 = Xi U30 890 2 from w336.x _ _ rfl))
          have w355 : 0 ≤ Xi U30 890 2 ∧ Xi U30 890 2 ≤ 20 := hHU30.c _ _
          exact ⟨hHT32, hFT32, _, rfl, ⟨by omega, by omega⟩, (by first | assumption | omega)⟩
    · refine l_aload_n rfl rfl ?_
      refine l_gfr rfl rfl rfl rfl rfl (hH.r 890 0 876 rfl) ?_
      refine l_iconst rfl ?_
      have w356 : 0 ≤ Xi S 876 7 ∧ Xi S 876 7 ≤ 5125 := hH.c _ _
      refine l_callV rfl rfl rfl (t_to_typeAt hH 1 ⟨by omega, by omega⟩ _) ?_
      rintro _ _ ⟨rfl, z358, rfl, w358, w357⟩
      show Rl _ _ _ _ _ [iv z358] _ _
      refine l_bipush rfl rfl ?_
      refine l_icmp_ne rfl rfl (by unfold rg; omega) (by unfold rg; omega) (fun w359 => ?_) (fun w360 => ?_)
      · refine l_aload_n rfl rfl ?_
        refine l_iconst rfl ?_
        refine l_pfi rfl rfl rfl rfl ?_
        obtain ⟨U33, eU33⟩ : ∃ T : sS, T = uI S 890 1 (Int32.ofInt 0) := ⟨_, rfl⟩
        rw [← eU33]
        have hHU33 : HI U33 := by rw [eU33]; exact HI_w hH (show 0 ≤ 0 by omega) (show 0 ≤ 5126 by omega)
        have hFU33 : FR md_gr_checkOthers S U33 := by rw [eU33]; exact FR.wI hF (mdf_i (r := (890, 891, 1, 2)) (List.mem_of_getElem? (i := 0) rfl) (inR_i (by omega) (by omega) (by omega) (by omega)))
        have w361 : Xi U33 890 1 = 0 := by rw [eU33]; exact Xi_same (by unfold rg; omega)
        have hs183 : SAY U33 (Xi U33 890 1) := SAY_v0 (by omega)
        refine l_aload_n rfl rfl ?_
        refine l_aload_n rfl rfl ?_
        refine l_gfr rfl rfl rfl rfl rfl (hHU33.r 890 0 876 rfl) ?_
        have w362 : Xi U33 876 7 = Xi S 876 7 := (show Xi U33 876 7 = Xi S 876 7 from by rw [eU33]; exact Xi_ne (by omega))
        have w363 : 0 ≤ Xi S 876 7 ∧ Xi S 876 7 ≤ 5125 := hH.c _ _
        refine l_callV rfl rfl rfl (t_to_tellingKey hHU33 _) ?_
        rintro _ _ ⟨rfl, z365, rfl, w365, w364⟩
        show Rl _ _ _ _ _ [iv z365, .ref 890] _ _
        refine l_pfi rfl rfl rfl rfl ?_
        obtain ⟨U34, eU34⟩ : ∃ T : sS, T = uI U33 890 3 (Int32.ofInt z365) := ⟨_, rfl⟩
        rw [← eU34]
        have hHU34 : HI U34 := by rw [eU34]; exact HI_w hHU33 (show -1 ≤ z365 by omega) (show z365 ≤ 5124 by omega)
        have hFU34 : FR md_gr_checkOthers S U34 := by rw [eU34]; exact FR.wI hFU33 (mdf_i (r := (890, 891, 3, 4)) (List.mem_of_getElem? (i := 2) rfl) (inR_i (by omega) (by omega) (by omega) (by omega)))
        have w366 : Xi U34 890 3 = z365 := by rw [eU34]; exact Xi_same (by unfold rg; omega)
        have hso194 : SAY U34 (Xi U34 890 1) := SAY_sort eU34 (by assumption) (by decide)
        refine l_aload_n rfl rfl ?_
        refine l_gfr rfl rfl rfl rfl rfl (hHU34.r 890 0 876 rfl) ?_
        refine l_aload_n rfl rfl ?_
        refine l_gfi rfl rfl rfl rfl rfl ?_
        have w367 : Xi U34 876 7 = Xi S 876 7 := (show Xi U34 876 7 = Xi U33 876 7 from by rw [eU34]; exact Xi_ne (by omega)).trans ((show Xi U33 876 7 = Xi S 876 7 from by rw [eU33]; exact Xi_ne (by omega)))
        have w368 : 0 ≤ Xi S 876 7 ∧ Xi S 876 7 ≤ 5125 := hH.c _ _
        refine l_callV rfl rfl rfl (t_to_typeAt hHU34 (Xi U34 890 3) ⟨by omega, by omega⟩ _) ?_
        rintro _ _ ⟨rfl, z370, rfl, w370, w369⟩
        show Rl _ _ _ _ _ [iv z370] _ _
        refine l_lsw rfl rfl (by unfold rg; omega) ?_
        refine And.intro (fun w371 => ⟨_, rfl, ?_⟩) (fun w372 => ?_)
        · refine l_aload_n rfl rfl ?_
          have w373 : Xi U34 876 7 = Xi S 876 7 := (show Xi U34 876 7 = Xi U33 876 7 from by rw [eU34]; exact Xi_ne (by omega)).trans ((show Xi U33 876 7 = Xi S 876 7 from by rw [eU33]; exact Xi_ne (by omega)))
          have w374 : 0 ≤ Xi S 876 7 ∧ Xi S 876 7 ≤ 5125 := hH.c _ _
          have w375 : Xi U34 890 1 = Xi U33 890 1 := (show Xi U34 890 1 = Xi U33 890 1 from by rw [eU34]; exact Xi_ne (by omega))
          have w376 : 0 ≤ Xi U33 890 1 ∧ Xi U33 890 1 ≤ 5126 := hHU33.c _ _
          refine l_callV rfl rfl rfl (t_gr_checkBe hHU34 (by first | assumption | omega) (by first | assumption | omega) (by first | assumption | omega) _) ?_
          rintro _ T35 ⟨hHT35, w379, z378, rfl, w378, w377⟩
          have hFT35 : FR md_gr_checkOthers S T35 := FR.tr hFU34 w379 rfl
          show Rl _ _ _ _ _ [iv z378] _ _
          refine l_ireturn rfl (retI_z (by omega)) ?_
          have w380 : 0 ≤ Xi T35 890 2 ∧ Xi T35 890 2 ≤ 20 := hHT35.c _ _
          exact ⟨hHT35, hFT35, _, rfl, ⟨by omega, by omega⟩, (by first | assumption | omega)⟩
        refine And.intro (fun w381 => ⟨_, rfl, ?_⟩) (fun w382 => ?_)
        · refine l_aload_n rfl rfl ?_
          have w383 : Xi U34 876 7 = Xi S 876 7 := (show Xi U34 876 7 = Xi U33 876 7 from by rw [eU34]; exact Xi_ne (by omega)).trans ((show Xi U33 876 7 = Xi S 876 7 from by rw [eU33]; exact Xi_ne (by omega)))
          have w384 : 0 ≤ Xi S 876 7 ∧ Xi S 876 7 ≤ 5125 := hH.c _ _
          have w385 : Xi U34 890 1 = Xi U33 890 1 := (show Xi U34 890 1 = Xi U33 890 1 from by rw [eU34]; exact Xi_ne (by omega))
          have w386 : 0 ≤ Xi U33 890 1 ∧ Xi U33 890 1 ≤ 5126 := hHU33.c _ _
          refine l_callV rfl rfl rfl (t_gr_checkBe hHU34 (by first | assumption | omega) (by first | assumption | omega) (by first | assumption | omega) _) ?_
          rintro _ T36 ⟨hHT36, w389, z388, rfl, w388, w387⟩
          have hFT36 : FR md_gr_checkOthers S T36 := FR.tr hFU34 w389 rfl
          show Rl _ _ _ _ _ [iv z388] _ _
          refine l_ireturn rfl (retI_z (by omega)) ?_
          have w390 : 0 ≤ Xi T36 890 2 ∧ Xi T36 890 2 ≤ 20 := hHT36.c _ _
          exact ⟨hHT36, hFT36, _, rfl, ⟨by omega, by omega⟩, (by first | assumption | omega)⟩
        refine And.intro (fun w391 => ⟨_, rfl, ?_⟩) (fun w392 => ?_)
        · refine l_aload_n rfl rfl ?_
          refine l_bipush rfl rfl ?_
          refine l_pfi rfl rfl rfl rfl ?_
          obtain ⟨U37, eU37⟩ : ∃ T : sS, T = uI U34 890 2 (Int32.ofInt 17) := ⟨_, rfl⟩
          rw [← eU37]
          have hHU37 : HI U37 := by rw [eU37]; exact HI_w hHU34 (show 0 ≤ 17 by omega) (show 17 ≤ 20 by omega)
          have hFU37 : FR md_gr_checkOthers S U37 := by rw [eU37]; exact FR.wI hFU34 (mdf_i (r := (890, 891, 2, 3)) (List.mem_of_getElem? (i := 1) rfl) (inR_i (by omega) (by omega) (by omega) (by omega)))
          have w393 : Xi U37 890 2 = 17 := by rw [eU37]; exact Xi_same (by unfold rg; omega)
          have hso268 : SAY U37 (Xi U37 890 1) := SAY_sort eU37 (by assumption) (by decide)
          refine l_aload_n rfl rfl ?_
          have w394 : Xi U37 876 7 = Xi S 876 7 := (show Xi U37 876 7 = Xi U34 876 7 from by rw [eU37]; exact Xi_ne (by omega)).trans ( (show Xi U34 876 7 = Xi U33 876 7 from by rw [eU34]; exact Xi_ne (by omega)).trans ((show Xi U33 876 7 = Xi S 876 7 from by rw [eU33]; exact Xi_ne (by omega))))
          have w395 : 0 ≤ Xi S 876 7 ∧ Xi S 876 7 ≤ 5125 := hH.c _ _
          have w396 : Xi U37 890 1 = Xi U33 890 1 := (show Xi U37 890 1 = Xi U34 890 1 from by rw [eU37]; exact Xi_ne (by omega)).trans ((show Xi U34 890 1 = Xi U33 890 1 from by rw [eU34]; exact Xi_ne (by omega)))
          have w397 : 0 ≤ Xi U33 890 1 ∧ Xi U33 890 1 ≤ 5126 := hHU33.c _ _
          refine l_callV rfl rfl rfl (t_gr_takeName hHU37 (by first | assumption | omega) (by first | assumption | omega) _) ?_
          rintro _ T38 ⟨hHT38, w401, z400, rfl, w400, w398, w399⟩
          have hFT38 : FR md_gr_checkOthers S T38 := FR.tr hFU37 w401 rfl
          show Rl _ _ _ _ _ [iv z400] _ _
          refine l_if_eq rfl rfl (by unfold rg; omega) (fun w402 => ?_) (fun w403 => ?_)
          · refine l_iconst rfl ?_
            refine l_ireturn rfl rfl ?_
            have w404 : Xi T38 890 2 = Xi U37 890 2 := (show Xi T38 890 2 = Xi U37 890 2 from w401.x _ _ rfl)
            have w405 : 0 ≤ Xi U37 890 2 ∧ Xi U37 890 2 ≤ 20 := hHU37.c _ _
            exact ⟨hHT38, hFT38, _, rfl, ⟨by omega, by omega⟩, (by first | assumption | omega)⟩
          · refine l_aload_n rfl rfl ?_
            refine l_bipush rfl rfl ?_
            have w406 : Xi T38 876 7 = Xi S 876 7 := (show Xi T38 876 7 = Xi U37 876 7 from w401.x _ _ rfl).trans ( (show Xi U37 876 7 = Xi U34 876 7 from by rw [eU37]; exact Xi_ne (by omega)).trans ( (show Xi U34 876 7 = Xi U33 876 7 from by rw [eU34]; exact Xi_ne (by omega)).trans ((show Xi U33 876 7 = Xi S 876 7 from by rw [eU33]; exact Xi_ne (by omega)))))
            have w407 : 0 ≤ Xi S 876 7 ∧ Xi S 876 7 ≤ 5125 := hH.c _ _
            have w408 : 0 ≤ Xi T38 890 1 ∧ Xi T38 890 1 ≤ 5126 := hHT38.c _ _
            refine l_callV rfl rfl rfl (t_gr_take hHT38 12 ⟨by omega, by omega⟩ (by first | assumption | omega) (by first | assumption | omega) (by first | assumption | omega) _) ?_
            rintro _ T39 ⟨hHT39, w414, z413, rfl, w413, w409, w410, w411, w412⟩
            have hFT39 : FR md_gr_checkOthers S T39 := FR.tr hFT38 w414 rfl
            show Rl _ _ _ _ _ [iv z413] _ _
            refine l_if_eq rfl rfl (by unfold rg; omega) (fun w415 => ?_) (fun w416 => ?_)
            · refine l_iconst rfl ?_
              refine l_ireturn rfl rfl ?_
              have w417 : Xi T39 890 2 = Xi U37 890 2 := (show Xi T39 890 2 = Xi T38 890 2 from w414.x _ _ rfl).trans ((show Xi T38 890 2 = Xi U37 890 2 from w401.x _ _ rfl))
              have w418 : 0 ≤ Xi U37 890 2 ∧ Xi U37 890 2 ≤ 20 := hHU37.c _ _
              exact ⟨hHT39, hFT39, _, rfl, ⟨by omega, by omega⟩, (by first | assumption | omega)⟩
            · refine l_aload_n rfl rfl ?_
              have w419 : Xi T39 876 7 = Xi S 876 7 := (show Xi T39 876 7 = Xi T38 876 7 from w414.x _ _ rfl).trans ( (show Xi T38 876 7 = Xi U37 876 7 from w401.x _ _ rfl).trans ( (show Xi U37 876 7 = Xi U34 876 7 from by rw [eU37]; exact Xi_ne (by omega)).trans ( (show Xi U34 876 7 = Xi U33 876 7 from by rw [eU34]; exact Xi_ne (by omega)).trans ((show Xi U33 876 7 = Xi S 876 7 from by rw [eU33]; exact Xi_ne (by omega))))))
              have w420 : 0 ≤ Xi S 876 7 ∧ Xi S 876 7 ≤ 5125 := hH.c _ _
              have w421 : 0 ≤ Xi T39 890 1 ∧ Xi T39 890 1 ≤ 5126 := hHT39.c _ _
              refine l_callV rfl rfl rfl (t_gr_takeArt hHT39 (by first | assumption | omega) (by first | assumption | omega) _) ?_
              rintro _ T40 ⟨hHT40, w426, z425, rfl, w425, w422, w423, w424⟩
              have hFT40 : FR md_gr_checkOthers S T40 := FR.tr hFT39 w426 rfl
              show Rl _ _ _ _ _ [iv z425] _ _
              refine l_if_eq rfl rfl (by unfold rg; omega) (fun w427 => ?_) (fun w428 => ?_)
              · refine l_iconst rfl ?_
                refine l_ireturn rfl rfl ?_
                have w429 : Xi T40 890 2 = Xi U37 890 2 := (show Xi T40 890 2 = Xi T39 890 2 from w426.x _ _ rfl).trans ( (show Xi T39 890 2 = Xi T38 890 2 from w414.x _ _ rfl).trans ((show Xi T38 890 2 = Xi U37 890 2 from w401.x _ _ rfl)))
                have w430 : 0 ≤ Xi U37 890 2 ∧ Xi U37 890 2 ≤ 20 := hHU37.c _ _
                exact ⟨hHT40, hFT40, _, rfl, ⟨by omega, by omega⟩, (by first | assumption | omega)⟩
              · refine l_aload_n rfl rfl ?_
                have w431 : Xi T40 876 7 = Xi S 876 7 := (show Xi T40 876 7 = Xi T39 876 7 from w426.x _ _ rfl).trans ( (show Xi T39 876 7 = Xi T38 876 7 from w414.x _ _ rfl).trans ( (show Xi T38 876 7 = Xi U37 876 7 from w401.x _ _ rfl).trans ( (show Xi U37 876 7 = Xi U34 876 7 from by rw [eU37]; exact Xi_ne (by omega)).trans ( (show Xi U34 876 7 = Xi U33 876 7 from by rw [eU34]; exact Xi_ne (by omega)).trans ((show Xi U33 876 7 = Xi S 876 7 from by rw [eU33]; exact Xi_ne (by omega)))))))
                have w432 : 0 ≤ Xi S 876 7 ∧ Xi S 876 7 ≤ 5125 := hH.c _ _
                have w433 : 0 ≤ Xi T40 890 1 ∧ Xi T40 890 1 ≤ 5126 := hHT40.c _ _
                refine l_callV rfl rfl rfl (t_gr_takeRun hHT40 (by first | assumption | omega) (by first | assumption | omega) _) ?_
                rintro _ T41 ⟨hHT41, w438, z437, rfl, w437, w434, w435, w436⟩
                have hFT41 : FR md_gr_checkOthers S T41 := FR.tr hFT40 w438 rfl
                show Rl _ _ _ _ _ [iv z437] _ _
                refine l_if_eq rfl rfl (by unfold rg; omega) (fun w439 => ?_) (fun w440 => ?_)
                · refine l_iconst rfl ?_
                  refine l_ireturn rfl rfl ?_
                  have w441 : Xi T41 890 2 = Xi U37 890 2 := (show Xi T41 890 2 = Xi T40 890 2 from w438.x _ _ rfl).trans ( (show Xi T40 890 2 = Xi T39 890 2 from w426.x _ _ rfl).trans ( (show Xi T39 890 2 = Xi T38 890 2 from w414.x _ _ rfl).trans ((show Xi T38 890 2 = Xi U37 890 2 from w401.x _ _ rfl))))
                  have w442 : 0 ≤ Xi U37 890 2 ∧ Xi U37 890 2 ≤ 20 := hHU37.c _ _
                  exact ⟨hHT41, hFT41, _, rfl, ⟨by omega, by omega⟩, (by first | assumption | omega)⟩
                · refine l_aload_n rfl rfl ?_
                  refine l_bipush rfl rfl ?_
                  have w443 : Xi T41 876 7 = Xi S 876 7 := (show Xi T41 876 7 = Xi T40 876 7 from w438.x _ _ rfl).trans ( (show Xi T40 876 7 = Xi T39 876 7 from w426.x _ _ rfl).trans ( (show Xi T39 876 7 = Xi T38 876 7 from w414.x _ _ rfl).trans ( (show Xi T38 876 7 = Xi U37 876 7 from w401.x _ _ rfl).trans ( (show Xi U37 876 7 = Xi U34 876 7 from by rw [eU37]; exact Xi_ne (by omega)).trans ( (show Xi U34 876 7 = Xi U33 876 7 from by rw [eU34]; exact Xi_ne (by omega)).trans ((show Xi U33 876 7 = Xi S 876 7 from by rw [eU33]; exact Xi_ne (by omega))))))))
                  have w444 : 0 ≤ Xi S 876 7 ∧ Xi S 876 7 ≤ 5125 := hH.c _ _
                  have w445 : 0 ≤ Xi T41 890 1 ∧ Xi T41 890 1 ≤ 5126 := hHT41.c _ _
                  refine l_callV rfl rfl rfl (t_gr_take hHT41 17 ⟨by omega, by omega⟩ (by first | assumption | omega) (by first | assumption | omega) (by first | assumption | omega) _) ?_
                  rintro _ T42 ⟨hHT42, w451, z450, rfl, w450, w446, w447, w448, w449⟩
                  have hFT42 : FR md_gr_checkOthers S T42 := FR.tr hFT41 w451 rfl
                  show Rl _ _ _ _ _ [iv z450] _ _
                  refine l_if_eq rfl rfl (by unfold rg; omega) (fun w452 => ?_) (fun w453 => ?_)
                  · refine l_iconst rfl ?_
                    refine l_ireturn rfl rfl ?_
                    have w454 : Xi T42 890 2 = Xi U37 890 2 := (show Xi T42 890 2 = Xi T41 890 2 from w451.x _ _ rfl).trans ( (show Xi T41 890 2 = Xi T40 890 2 from w438.x _ _ rfl).trans ( (show Xi T40 890 2 = Xi T39 890 2 from w426.x _ _ rfl).trans ( (show Xi T39 890 2 = Xi T38 890 2 from w414.x _ _ rfl).trans ((show Xi T38 890 2 = Xi U37 890 2 from w401.x _ _ rfl)))))
                    have w455 : 0 ≤ Xi U37 890 2 ∧ Xi U37 890 2 ≤ 20 := hHU37.c _ _
                    exact ⟨hHT42, hFT42, _, rfl, ⟨by omega, by omega⟩, (by first | assumption | omega)⟩
                  · refine l_aload_n rfl rfl ?_
                    have w456 : Xi T42 876 7 = Xi S 876 7 := (show Xi T42 876 7 = Xi T41 876 7 from w451.x _ _ rfl).trans ( (show Xi T41 876 7 = Xi T40 876 7 from w438.x _ _ rfl).trans ( (show Xi T40 876 7 = Xi T39 876 7 from w426.x _ _ rfl).trans ( (show Xi T39 876 7 = Xi T38 876 7 from w414.x _ _ rfl).trans ( (show Xi T38 876 7 = Xi U37 876 7 from w401.x _ _ rfl).trans ( (show Xi U37 876 7 = Xi U34 876 7 from by rw [eU37]; exact Xi_ne (by omega)).trans ( (show Xi U34 876 7 = Xi U33 876 7 from by rw [eU34]; exact Xi_ne (by omega)).trans ((show Xi U33 876 7 = Xi S 876 7 from by rw [eU33]; exact Xi_ne (by omega)))))))))
                    have w457 : 0 ≤ Xi S 876 7 ∧ Xi S 876 7 ≤ 5125 := hH.c _ _
                    have w458 : 0 ≤ Xi T42 890 1 ∧ Xi T42 890 1 ≤ 5126 := hHT42.c _ _
                    refine l_callV rfl rfl rfl (t_gr_takeRun hHT42 (by first | assumption | omega) (by first | assumption | omega) _) ?_
                    rintro _ T43 ⟨hHT43, w463, z462, rfl, w462, w459, w460, w461⟩
                    have hFT43 : FR md_gr_checkOthers S T43 := FR.tr hFT42 w463 rfl
                    show Rl _ _ _ _ _ [iv z462] _ _
                    refine l_if_eq rfl rfl (by unfold rg; omega) (fun w464 => ?_) (fun w465 => ?_)
                    · refine l_iconst rfl ?_
                      refine l_ireturn rfl rfl ?_
                      have w466 : Xi T43 890 2 = Xi U37 890 2 := (show Xi T43 890 2 = Xi T42 890 2 from w463.x _ _ rfl).trans ( (show Xi T42 890 2 = Xi T41 890 2 from w451.x _ _ rfl).trans ( (show Xi T41 890 2 = Xi T40 890 2 from w438.x _ _ rfl).trans ( (show Xi T40 890 2 = Xi T39 890 2 from w426.x _ _ rfl).trans ( (show Xi T39 890 2 = Xi T38 890 2 from w414.x _ _ rfl).trans ((show Xi T38 890 2 = Xi U37 890 2 from w401.x _ _ rfl))))))
                      have w467 : 0 ≤ Xi U37 890 2 ∧ Xi U37 890 2 ≤ 20 := hHU37.c _ _
                      exact ⟨hHT43, hFT43, _, rfl, ⟨by omega, by omega⟩, (by first | assumption | omega)⟩
                    · refine l_aload_n rfl rfl ?_
                      refine l_bipush rfl rfl ?_
                      have w468 : Xi T43 876 7 = Xi S 876 7 := (show Xi T43 876 7 = Xi T42 876 7 from w463.x _ _ rfl).trans ( (show Xi T42 876 7 = Xi T41 876 7 from w451.x _ _ rfl).trans ( (show Xi T41 876 7 = Xi T40 876 7 from w438.x _ _ rfl).trans ( (show Xi T40 876 7 = Xi T39 876 7 from w426.x _ _ rfl).trans ( (show Xi T39 876 7 = Xi T38 876 7 from w414.x _ _ rfl).trans ( (show Xi T38 876 7 = Xi U37 876 7 from w401.x _ _ rfl).trans ( (show Xi U37 876 7 = Xi U34 876 7 from by rw [eU37]; exact Xi_ne (by omega)).trans ( (show Xi U34 876 7 = Xi U33 876 7 from by rw [eU34]; exact Xi_ne (by omega)).trans ((show Xi U33 876 7 = Xi S 876 7 from by rw [eU33]; exact Xi_ne (by omega))))))))))
                      have w469 : 0 ≤ Xi S 876 7 ∧ Xi S 876 7 ≤ 5125 := hH.c _ _
                      have w470 : 0 ≤ Xi T43 890 1 ∧ Xi T43 890 1 ≤ 5126 := hHT43.c _ _
                      refine l_callV rfl rfl rfl (t_gr_take hHT43 103 ⟨by omega, by omega⟩ (by first | assumption | omega) (by first | assumption | omega) (by first | assumption | omega) _) ?_
                      rintro _ T44 ⟨hHT44, w476, z475, rfl, w475, w471, w472, w473, w474⟩
                      have hFT44 : FR md_gr_checkOthers S T44 := FR.tr hFT43 w476 rfl
                      show Rl _ _ _ _ _ [iv z475] _ _
                      refine l_if_eq rfl rfl (by unfold rg; omega) (fun w477 => ?_) (fun w478 => ?_)
                      · refine l_iconst rfl ?_
                        refine l_ireturn rfl rfl ?_
                        have w479 : Xi T44 890 2 = Xi U37 890 2 := (show Xi T44 890 2 = Xi T43 890 2 from w476.x _ _ rfl).trans ( (show Xi T43 890 2 = Xi T42 890 2 from w463.x _ _ rfl).trans ( (show Xi T42 890 2 = Xi T41 890 2 from w451.x _ _ rfl).trans ( (show Xi T41 890 2 = Xi T40 890 2 from w438.x _ _ rfl).trans ( (show Xi T40 890 2 = Xi T39 890 2 from w426.x _ _ rfl).trans ( (show Xi T39 890 2 = Xi T38 890 2 from w414.x _ _ rfl).trans ((show Xi T38 890 2 = Xi U37 890 2 from w401.x _ _ rfl)))))))
                        have w480 : 0 ≤ Xi U37 890 2 ∧ Xi U37 890 2 ≤ 20 := hHU37.c _ _
                        exact ⟨hHT44, hFT44, _, rfl, ⟨by omega, by omega⟩, (by first | assumption | omega)⟩
                      · refine l_iconst rfl ?_
                        refine l_goto rfl rfl ?_
                        refine l_ireturn rfl rfl ?_
                        have w481 : Xi T44 890 2 = Xi U37 890 2 := (show Xi T44 890 2 = Xi T43 890 2 from w476.x _ _ rfl).trans ( (show Xi T43 890 2 = Xi T42 890 2 from w463.x _ _ rfl).trans ( (show Xi T42 890 2 = Xi T41 890 2 from w451.x _ _ rfl).trans ( (show Xi T41 890 2 = Xi T40 890 2 from w438.x _ _ rfl).trans ( (show Xi T40 890 2 = Xi T39 890 2 from w426.x _ _ rfl).trans ( (show Xi T39 890 2 = Xi T38 890 2 from w414.x _ _ rfl).trans ((show Xi T38 890 2 = Xi U37 890 2 from w401.x _ _ rfl)))))))
                        have w482 : 0 ≤ Xi U37 890 2 ∧ Xi U37 890 2 ≤ 20 := hHU37.c _ _
                        exact ⟨hHT44, hFT44, _, rfl, ⟨by omega, by omega⟩, (by first | assumption | omega)⟩
        refine And.intro (fun w483 => ⟨_, rfl, ?_⟩) (fun w484 => ?_)
        · refine l_aload_n rfl rfl ?_
          refine l_bipush rfl rfl ?_
          refine l_pfi rfl rfl rfl rfl ?_
          obtain ⟨U45, eU45⟩ : ∃ T : sS, T = uI U34 890 2 (Int32.ofInt 18) := ⟨_, rfl⟩
          rw [← eU45]
          have hHU45 : HI U45 := by rw [eU45]; exact HI_w hHU34 (show 0 ≤ 18 by omega) (show 18 ≤ 20 by omega)
          have hFU45 : FR md_gr_checkOthers S U45 := by rw [eU45]; exact FR.wI hFU34 (mdf_i (r := (890, 891, 2, 3)) (List.mem_of_getElem? (i := 1) rfl) (inR_i (by omega) (by omega) (by omega) (by omega)))
          have w485 : Xi U45 890 2 = 18 := by rw [eU45]; exact Xi_same (by unfold rg; omega)
          have hso335 : SAY U45 (Xi U45 890 1) := SAY_sort eU45 (by assumption) (by decide)
          refine l_aload_n rfl rfl ?_
          have w486 : Xi U45 876 7 = Xi S 876 7 := (show Xi U45 876 7 = Xi U34 876 7 from by rw [eU45]; exact Xi_ne (by omega)).trans ( (show Xi U34 876 7 = Xi U33 876 7 from by rw [eU34]; exact Xi_ne (by omega)).trans ((show Xi U33 876 7 = Xi S 876 7 from by rw [eU33]; exact Xi_ne (by omega))))
          have w487 : 0 ≤ Xi S 876 7 ∧ Xi S 876 7 ≤ 5125 := hH.c _ _
          have w488 : Xi U45 890 1 = Xi U33 890 1 := (show Xi U45 890 1 = Xi U34 890 1 from by rw [eU45]; exact Xi_ne (by omega)).trans ((show Xi U34 890 1 = Xi U33 890 1 from by rw [eU34]; exact Xi_ne (by omega)))
          have w489 : 0 ≤ Xi U33 890 1 ∧ Xi U33 890 1 ≤ 5126 := hHU33.c _ _
          refine l_callV rfl rfl rfl (t_gr_takeName hHU45 (by first | assumption | omega) (by first | assumption | omega) _) ?_
          rintro _ T46 ⟨hHT46, w493, z492, rfl, w492, w490, w491⟩
          have hFT46 : FR md_gr_checkOthers S T46 := FR.tr hFU45 w493 rfl
          show Rl _ _ _ _ _ [iv z492] _ _
          refine l_if_eq rfl rfl (by unfold rg; omega) (fun w494 => ?_) (fun w495 => ?_)
          · refine l_iconst rfl ?_
            refine l_ireturn rfl rfl ?_
            have w496 : Xi T46 890 2 = Xi U45 890 2 := (show Xi T46 890 2 = Xi U45 890 2 from w493.x _ _ rfl)
            have w497 : 0 ≤ Xi U45 890 2 ∧ Xi U45 890 2 ≤ 20 := hHU45.c _ _
            exact ⟨hHT46, hFT46, _, rfl, ⟨by omega, by omega⟩, (by first | assumption | omega)⟩
          · refine l_aload_n rfl rfl ?_
            refine l_bipush rfl rfl ?_
            have w498 : Xi T46 876 7 = Xi S 876 7 := (show Xi T46 876 7 = Xi U45 876 7 from w493.x _ _ rfl).trans ( (show Xi U45 876 7 = Xi U34 876 7 from by rw [eU45]; exact Xi_ne (by omega)).trans ( (show Xi U34 876 7 = Xi U33 876 7 from by rw [eU34]; exact Xi_ne (by omega)).trans ((show Xi U33 876 7 = Xi S 876 7 from by rw [eU33]; exact Xi_ne (by omega)))))
            have w499 : 0 ≤ Xi S 876 7 ∧ Xi S 876 7 ≤ 5125 := hH.c _ _
            have w500 : 0 ≤ Xi T46 890 1 ∧ Xi T46 890 1 ≤ 5126 := hHT46.c _ _
            refine l_callV rfl rfl rfl (t_gr_take hHT46 13 ⟨by omega, by omega⟩ (by first | assumption | omega) (by first | assumption | omega) (by first | assumption | omega) _) ?_
            rintro _ T47 ⟨hHT47, w506, z505, rfl, w505, w501, w502, w503, w504⟩
            have hFT47 : FR md_gr_checkOthers S T47 := FR.tr hFT46 w506 rfl
            show Rl _ _ _ _ _ [iv z505] _ _
            refine l_if_eq rfl rfl (by unfold rg; omega) (fun w507 => ?_) (fun w508 => ?_)
            · refine l_iconst rfl ?_
              refine l_ireturn rfl rfl ?_
              have w509 : Xi T47 890 2 = Xi U45 890 2 := (show Xi T47 890 2 = Xi T46 890 2 from w506.x _ _ rfl).trans ((show Xi T46 890 2 = Xi U45 890 2 from w493.x _ _ rfl))
              have w510 : 0 ≤ Xi U45 890 2 ∧ Xi U45 890 2 ≤ 20 := hHU45.c _ _
              exact ⟨hHT47, hFT47, _, rfl, ⟨by omega, by omega⟩, (by first | assumption | omega)⟩
            · refine l_aload_n rfl rfl ?_
              refine l_bipush rfl rfl ?_
              have w511 : Xi T47 876 7 = Xi S 876 7 := (show Xi T47 876 7 = Xi T46 876 7 from w506.x _ _ rfl).trans ( (show Xi T46 876 7 = Xi U45 876 7 from w493.x _ _ rfl).trans ( (show Xi U45 876 7 = Xi U34 876 7 from by rw [eU45]; exact Xi_ne (by omega)).trans ( (show Xi U34 876 7 = Xi U33 876 7 from by rw [eU34]; exact Xi_ne (by omega)).trans ((show Xi U33 876 7 = Xi S 876 7 from by rw [eU33]; exact Xi_ne (by omega))))))
              have w512 : 0 ≤ Xi S 876 7 ∧ Xi S 876 7 ≤ 5125 := hH.c _ _
              have w513 : 0 ≤ Xi T47 890 1 ∧ Xi T47 890 1 ≤ 5126 := hHT47.c _ _
              refine l_callV rfl rfl rfl (t_gr_take hHT47 14 ⟨by omega, by omega⟩ (by first | assumption | omega) (by first | assumption | omega) (by first | assumption | omega) _) ?_
              rintro _ T48 ⟨hHT48, w519, z518, rfl, w518, w514, w515, w516, w517⟩
              have hFT48 : FR md_gr_checkOthers S T48 := FR.tr hFT47 w519 rfl
              show Rl _ _ _ _ _ [iv z518] _ _
              refine l_if_eq rfl rfl (by unfold rg; omega) (fun w520 => ?_) (fun w521 => ?_)
              · refine l_iconst rfl ?_
                refine l_ireturn rfl rfl ?_
                have w522 : Xi T48 890 2 = Xi U45 890 2 := (show Xi T48 890 2 = Xi T47 890 2 from w519.x _ _ rfl).trans ( (show Xi T47 890 2 = Xi T46 890 2 from w506.x _ _ rfl).trans ((show Xi T46 890 2 = Xi U45 890 2 from w493.x _ _ rfl)))
                have w523 : 0 ≤ Xi U45 890 2 ∧ Xi U45 890 2 ≤ 20 := hHU45.c _ _
                exact ⟨hHT48, hFT48, _, rfl, ⟨by omega, by omega⟩, (by first | assumption | omega)⟩
              · refine l_aload_n rfl rfl ?_
                have w524 : Xi T48 876 7 = Xi S 876 7 := (show Xi T48 876 7 = Xi T47 876 7 from w519.x _ _ rfl).trans ( (show Xi T47 876 7 = Xi T46 876 7 from w506.x _ _ rfl).trans ( (show Xi T46 876 7 = Xi U45 876 7 from w493.x _ _ rfl).trans ( (show Xi U45 876 7 = Xi U34 876 7 from by rw [eU45]; exact Xi_ne (by omega)).trans ( (show Xi U34 876 7 = Xi U33 876 7 from by rw [eU34]; exact Xi_ne (by omega)).trans ((show Xi U33 876 7 = Xi S 876 7 from by rw [eU33]; exact Xi_ne (by omega)))))))
                have w525 : 0 ≤ Xi S 876 7 ∧ Xi S 876 7 ≤ 5125 := hH.c _ _
                have w526 : 0 ≤ Xi T48 890 1 ∧ Xi T48 890 1 ≤ 5126 := hHT48.c _ _
                refine l_callV rfl rfl rfl (t_gr_takeRun hHT48 (by first | assumption | omega) (by first | assumption | omega) _) ?_
                rintro _ T49 ⟨hHT49, w531, z530, rfl, w530, w527, w528, w529⟩
                have hFT49 : FR md_gr_checkOthers S T49 := FR.tr hFT48 w531 rfl
                show Rl _ _ _ _ _ [iv z530] _ _
                refine l_if_eq rfl rfl (by unfold rg; omega) (fun w532 => ?_) (fun w533 => ?_)
                · refine l_iconst rfl ?_
                  refine l_ireturn rfl rfl ?_
                  have w534 : Xi T49 890 2 = Xi U45 890 2 := (show Xi T49 890 2 = Xi T48 890 2 from w531.x _ _ rfl).trans ( (show Xi T48 890 2 = Xi T47 890 2 from w519.x _ _ rfl).trans ( (show Xi T47 890 2 = Xi T46 890 2 from w506.x _ _ rfl).trans ((show Xi T46 890 2 = Xi U45 890 2 from w493.x _ _ rfl))))
                  have w535 : 0 ≤ Xi U45 890 2 ∧ Xi U45 890 2 ≤ 20 := hHU45.c _ _
                  exact ⟨hHT49, hFT49, _, rfl, ⟨by omega, by omega⟩, (by first | assumption | omega)⟩
                · refine l_aload_n rfl rfl ?_
                  refine l_bipush rfl rfl ?_
                  have w536 : Xi T49 876 7 = Xi S 876 7 := (show Xi T49 876 7 = Xi T48 876 7 from w531.x _ _ rfl).trans ( (show Xi T48 876 7 = Xi T47 876 7 from w519.x _ _ rfl).trans ( (show Xi T47 876 7 = Xi T46 876 7 from w506.x _ _ rfl).trans ( (show Xi T46 876 7 = Xi U45 876 7 from w493.x _ _ rfl).trans ( (show Xi U45 876 7 = Xi U34 876 7 from by rw [eU45]; exact Xi_ne (by omega)).trans ( (show Xi U34 876 7 = Xi U33 876 7 from by rw [eU34]; exact Xi_ne (by omega)).trans ((show Xi U33 876 7 = Xi S 876 7 from by rw [eU33]; exact Xi_ne (by omega))))))))
                  have w537 : 0 ≤ Xi S 876 7 ∧ Xi S 876 7 ≤ 5125 := hH.c _ _
                  have w538 : 0 ≤ Xi T49 890 1 ∧ Xi T49 890 1 ≤ 5126 := hHT49.c _ _
                  refine l_callV rfl rfl rfl (t_gr_take hHT49 15 ⟨by omega, by omega⟩ (by first | assumption | omega) (by first | assumption | omega) (by first | assumption | omega) _) ?_
                  rintro _ T50 ⟨hHT50, w544, z543, rfl, w543, w539, w540, w541, w542⟩
                  have hFT50 : FR md_gr_checkOthers S T50 := FR.tr hFT49 w544 rfl
                  show Rl _ _ _ _ _ [iv z543] _ _
                  refine l_if_eq rfl rfl (by unfold rg; omega) (fun w545 => ?_) (fun w546 => ?_)
                  · refine l_iconst rfl ?_
                    refine l_ireturn rfl rfl ?_
                    have w547 : Xi T50 890 2 = Xi U45 890 2 := (show Xi T50 890 2 = Xi T49 890 2 from w544.x _ _ rfl).trans ( (show Xi T49 890 2 = Xi T48 890 2 from w531.x _ _ rfl).trans ( (show Xi T48 890 2 = Xi T47 890 2 from w519.x _ _ rfl).trans ( (show Xi T47 890 2 = Xi T46 890 2 from w506.x _ _ rfl).trans ((show Xi T46 890 2 = Xi U45 890 2 from w493.x _ _ rfl)))))
                    have w548 : 0 ≤ Xi U45 890 2 ∧ Xi U45 890 2 ≤ 20 := hHU45.c _ _
                    exact ⟨hHT50, hFT50, _, rfl, ⟨by omega, by omega⟩, (by first | assumption | omega)⟩
                  · refine l_aload_n rfl rfl ?_
                    have w549 : Xi T50 876 7 = Xi S 876 7 := (show Xi T50 876 7 = Xi T49 876 7 from w544.x _ _ rfl).trans ( (show Xi T49 876 7 = Xi T48 876 7 from w531.x _ _ rfl).trans ( (show Xi T48 876 7 = Xi T47 876 7 from w519.x _ _ rfl).trans ( (show Xi T47 876 7 = Xi T46 876 7 from w506.x _ _ rfl).trans ( (show Xi T46 876 7 = Xi U45 876 7 from w493.x _ _ rfl).trans ( (show Xi U45 876 7 = Xi U34 876 7 from by rw [eU45]; exact Xi_ne (by omega)).trans ( (show Xi U34 876 7 = Xi U33 876 7 from by rw [eU34]; exact Xi_ne (by omega)).trans ((show Xi U33 876 7 = Xi S 876 7 from by rw [eU33]; exact Xi_ne (by omega)))))))))
                    have w550 : 0 ≤ Xi S 876 7 ∧ Xi S 876 7 ≤ 5125 := hH.c _ _
                    have w551 : 0 ≤ Xi T50 890 1 ∧ Xi T50 890 1 ≤ 5126 := hHT50.c _ _
                    refine l_callV rfl rfl rfl (t_gr_takeRun hHT50 (by first | assumption | omega) (by first | assumption | omega) _) ?_
                    rintro _ T51 ⟨hHT51, w556, z555, rfl, w555, w552, w553, w554⟩
                    have hFT51 : FR md_gr_checkOthers S T51 := FR.tr hFT50 w556 rfl
                    show Rl _ _ _ _ _ [iv z555] _ _
                    refine l_if_eq rfl rfl (by unfold rg; omega) (fun w557 => ?_) (fun w558 => ?_)
                    · refine l_iconst rfl ?_
                      refine l_ireturn rfl rfl ?_
                      have w559 : Xi T51 890 2 = Xi U45 890 2 := (show Xi T51 890 2 = Xi T50 890 2 from w556.x _ _ rfl).trans ( (show Xi T50 890 2 = Xi T49 890 2 from w544.x _ _ rfl).trans ( (show Xi T49 890 2 = Xi T48 890 2 from w531.x _ _ rfl).trans ( (show Xi T48 890 2 = Xi T47 890 2 from w519.x _ _ rfl).trans ( (show Xi T47 890 2 = Xi T46 890 2 from w506.x _ _ rfl).trans ((show Xi T46 890 2 = Xi U45 890 2 from w493.x _ _ rfl))))))
                      have w560 : 0 ≤ Xi U45 890 2 ∧ Xi U45 890 2 ≤ 20 := hHU45.c _ _
                      exact ⟨hHT51, hFT51, _, rfl, ⟨by omega, by omega⟩, (by first | assumption | omega)⟩
                    · refine l_aload_n rfl rfl ?_
                      refine l_bipush rfl rfl ?_
                      have w561 : Xi T51 876 7 = Xi S 876 7 := (show Xi T51 876 7 = Xi T50 876 7 from w556.x _ _ rfl).trans ( (show Xi T50 876 7 = Xi T49 876 7 from w544.x _ _ rfl).trans ( (show Xi T49 876 7 = Xi T48 876 7 from w531.x _ _ rfl).trans ( (show Xi T48 876 7 = Xi T47 876 7 from w519.x _ _ rfl).trans ( (show Xi T47 876 7 = Xi T46 876 7 from w506.x _ _ rfl).trans ( (show Xi T46 876 7 = Xi U45 876 7 from w493.x _ _ rfl).trans ( (show Xi U45 876 7 = Xi U34 876 7 from by rw [eU45]; exact Xi_ne (by omega)).trans ( (show Xi U34 876 7 = Xi U33 876 7 from by rw [eU34]; exact Xi_ne (by omega)).trans ((show Xi U33 876 7 = Xi S 876 7 from by rw [eU33]; exact Xi_ne (by omega))))))))))
                      have w562 : 0 ≤ Xi S 876 7 ∧ Xi S 876 7 ≤ 5125 := hH.c _ _
                      have w563 : 0 ≤ Xi T51 890 1 ∧ Xi T51 890 1 ≤ 5126 := hHT51.c _ _
                      refine l_callV rfl rfl rfl (t_gr_take hHT51 103 ⟨by omega, by omega⟩ (by first | assumption | omega) (by first | assumption | omega) (by first | assumption | omega) _) ?_
                      rintro _ T52 ⟨hHT52, w569, z568, rfl, w568, w564, w565, w566, w567⟩
                      have hFT52 : FR md_gr_checkOthers S T52 := FR.tr hFT51 w569 rfl
                      show Rl _ _ _ _ _ [iv z568] _ _
                      refine l_if_eq rfl rfl (by unfold rg; omega) (fun w570 => ?_) (fun w571 => ?_)
                      · refine l_iconst rfl ?_
                        refine l_ireturn rfl rfl ?_
                        have w572 : Xi T52 890 2 = Xi U45 890 2 := (show Xi T52 890 2 = Xi T51 890 2 from w569.x _ _ rfl).trans ( (show Xi T51 890 2 = Xi T50 890 2 from w556.x _ _ rfl).trans ( (show Xi T50 890 2 = Xi T49 890 2 from w544.x _ _ rfl).trans ( (show Xi T49 890 2 = Xi T48 890 2 from w531.x _ _ rfl).trans ( (show Xi T48 890 2 = Xi T47 890 2 from w519.x _ _ rfl).trans ( (show Xi T47 890 2 = Xi T46 890 2 from w506.x _ _ rfl).trans ((show Xi T46 890 2 = Xi U45 890 2 from w493.x _ _ rfl)))))))
                        have w573 : 0 ≤ Xi U45 890 2 ∧ Xi U45 890 2 ≤ 20 := hHU45.c _ _
                        exact ⟨hHT52, hFT52, _, rfl, ⟨by omega, by omega⟩, (by first | assumption | omega)⟩
                      · refine l_iconst rfl ?_
                        refine l_goto rfl rfl ?_
                        refine l_ireturn rfl rfl ?_
                        have w574 : Xi T52 890 2 = Xi U45 890 2 := (show Xi T52 890 2 = Xi T51 890 2 from w569.x _ _ rfl).trans ( (show Xi T51 890 2 = Xi T50 890 2 from w556.x _ _ rfl).trans ( (show Xi T50 890 2 = Xi T49 890 2 from w544.x _ _ rfl).trans ( (show Xi T49 890 2 = Xi T48 890 2 from w531.x _ _ rfl).trans ( (show Xi T48 890 2 = Xi T47 890 2 from w519.x _ _ rfl).trans ( (show Xi T47 890 2 = Xi T46 890 2 from w506.x _ _ rfl).trans ((show Xi T46 890 2 = Xi U45 890 2 from w493.x _ _ rfl)))))))
                        have w575 : 0 ≤ Xi U45 890 2 ∧ Xi U45 890 2 ≤ 20 := hHU45.c _ _
                        exact ⟨hHT52, hFT52, _, rfl, ⟨by omega, by omega⟩, (by first | assumption | omega)⟩
        refine And.intro (fun w576 => ⟨_, rfl, ?_⟩) (fun w577 => ?_)
        · refine l_aload_n rfl rfl ?_
          refine l_bipush rfl rfl ?_
          refine l_pfi rfl rfl rfl rfl ?_
          obtain ⟨U53, eU53⟩ : ∃ T : sS, T = uI U34 890 2 (Int32.ofInt 19) := ⟨_, rfl⟩
          rw [← eU53]
          have hHU53 : HI U53 := by rw [eU53]; exact HI_w hHU34 (show 0 ≤ 19 by omega) (show 19 ≤ 20 by omega)
          have hFU53 : FR md_gr_checkOthers S U53 := by rw [eU53]; exact FR.wI hFU34 (mdf_i (r := (890, 891, 2, 3)) (List.mem_of_getElem? (i := 1) rfl) (inR_i (by omega) (by omega) (by omega) (by omega)))
          have w578 : Xi U53 890 2 = 19 := by rw [eU53]; exact Xi_same (by unfold rg; omega)
          have hso404 : SAY U53 (Xi U53 890 1) := SAY_sort eU53 (by assumption) (by decide)
          refine l_aload_n rfl rfl ?_
          have w579 : Xi U53 876 7 = Xi S 876 7 := (show Xi U53 876 7 = Xi U34 876 7 from by rw [eU53]; exact Xi_ne (by omega)).trans ( (show Xi U34 876 7 = Xi U33 876 7 from by rw [eU34]; exact Xi_ne (by omega)).trans ((show Xi U33 876 7 = Xi S 876 7 from by rw [eU33]; exact Xi_ne (by omega))))
          have w580 : 0 ≤ Xi S 876 7 ∧ Xi S 876 7 ≤ 5125 := hH.c _ _
          have w581 : Xi U53 890 1 = Xi U33 890 1 := (show Xi U53 890 1 = Xi U34 890 1 from by rw [eU53]; exact Xi_ne (by omega)).trans ((show Xi U34 890 1 = Xi U33 890 1 from by rw [eU34]; exact Xi_ne (by omega)))
          have w582 : 0 ≤ Xi U33 890 1 ∧ Xi U33 890 1 ≤ 5126 := hHU33.c _ _
          refine l_callV rfl rfl rfl (t_gr_takeName hHU53 (by first | assumption | omega) (by first | assumption | omega) _) ?_
          rintro _ T54 ⟨hHT54, w586, z585, rfl, w585, w583, w584⟩
          have hFT54 : FR md_gr_checkOthers S T54 := FR.tr hFU53 w586 rfl
          show Rl _ _ _ _ _ [iv z585] _ _
          refine l_if_eq rfl rfl (by unfold rg; omega) (fun w587 => ?_) (fun w588 => ?_)
          · refine l_iconst rfl ?_
            refine l_ireturn rfl rfl ?_
            have w589 : Xi T54 890 2 = Xi U53 890 2 := (show Xi T54 890 2 = Xi U53 890 2 from w586.x _ _ rfl)
            have w590 : 0 ≤ Xi U53 890 2 ∧ Xi U53 890 2 ≤ 20 := hHU53.c _ _
            exact ⟨hHT54, hFT54, _, rfl, ⟨by omega, by omega⟩, (by first | assumption | omega)⟩
          · refine l_aload_n rfl rfl ?_
            refine l_bipush rfl rfl ?_
            have w591 : Xi T54 876 7 = Xi S 876 7 := (show Xi T54 876 7 = Xi U53 876 7 from w586.x _ _ rfl).trans ( (show Xi U53 876 7 = Xi U34 876 7 from by rw [eU53]; exact Xi_ne (by omega)).trans ( (show Xi U34 876 7 = Xi U33 876 7 from by rw [eU34]; exact Xi_ne (by omega)).trans ((show Xi U33 876 7 = Xi S 876 7 from by rw [eU33]; exact Xi_ne (by omega)))))
            have w592 : 0 ≤ Xi S 876 7 ∧ Xi S 876 7 ≤ 5125 := hH.c _ _
            have w593 : 0 ≤ Xi T54 890 1 ∧ Xi T54 890 1 ≤ 5126 := hHT54.c _ _
            refine l_callV rfl rfl rfl (t_gr_take hHT54 21 ⟨by omega, by omega⟩ (by first | assumption | omega) (by first | assumption | omega) (by first | assumption | omega) _) ?_
            rintro _ T55 ⟨hHT55, w599, z598, rfl, w598, w594, w595, w596, w597⟩
            have hFT55 : FR md_gr_checkOthers S T55 := FR.tr hFT54 w599 rfl
            show Rl _ _ _ _ _ [iv z598] _ _
            refine l_if_eq rfl rfl (by unfold rg; omega) (fun w600 => ?_) (fun w601 => ?_)
            · refine l_iconst rfl ?_
              refine l_ireturn rfl rfl ?_
              have w602 : Xi T55 890 2 = Xi U53 890 2 := (show Xi T55 890 2 = Xi T54 890 2 from w599.x _ _ rfl).trans ((show Xi T54 890 2 = Xi U53 890 2 from w586.x _ _ rfl))
              have w603 : 0 ≤ Xi U53 890 2 ∧ Xi U53 890 2 ≤ 20 := hHU53.c _ _
              exact ⟨hHT55, hFT55, _, rfl, ⟨by omega, by omega⟩, (by first | assumption | omega)⟩
            · refine l_aload_n rfl rfl ?_
              have w604 : Xi T55 876 7 = Xi S 876 7 := (show Xi T55 876 7 = Xi T54 876 7 from w599.x _ _ rfl).trans ( (show Xi T54 876 7 = Xi U53 876 7 from w586.x _ _ rfl).trans ( (show Xi U53 876 7 = Xi U34 876 7 from by rw [eU53]; exact Xi_ne (by omega)).trans ( (show Xi U34 876 7 = Xi U33 876 7 from by rw [eU34]; exact Xi_ne (by omega)).trans ((show Xi U33 876 7 = Xi S 876 7 from by rw [eU33]; exact Xi_ne (by omega))))))
              have w605 : 0 ≤ Xi S 876 7 ∧ Xi S 876 7 ≤ 5125 := hH.c _ _
              have w606 : 0 ≤ Xi T55 890 1 ∧ Xi T55 890 1 ≤ 5126 := hHT55.c _ _
              refine l_callV rfl rfl rfl (t_gr_takeHowMany hHT55 (by first | assumption | omega) (by first | assumption | omega) _) ?_
              rintro _ T56 ⟨hHT56, w610, z609, rfl, w609, w607, w608⟩
              have hFT56 : FR md_gr_checkOthers S T56 := FR.tr hFT55 w610 rfl
              show Rl _ _ _ _ _ [iv z609] _ _
              refine l_if_eq rfl rfl (by unfold rg; omega) (fun w611 => ?_) (fun w612 => ?_)
              · refine l_iconst rfl ?_
                refine l_ireturn rfl rfl ?_
                have w613 : Xi T56 890 2 = Xi U53 890 2 := (show Xi T56 890 2 = Xi T55 890 2 from w610.x _ _ rfl).trans ( (show Xi T55 890 2 = Xi T54 890 2 from w599.x _ _ rfl).trans ((show Xi T54 890 2 = Xi U53 890 2 from w586.x _ _ rfl)))
                have w614 : 0 ≤ Xi U53 890 2 ∧ Xi U53 890 2 ≤ 20 := hHU53.c _ _
                exact ⟨hHT56, hFT56, _, rfl, ⟨by omega, by omega⟩, (by first | assumption | omega)⟩
              · refine l_aload_n rfl rfl ?_
                have w615 : Xi T56 876 7 = Xi S 876 7 := (show Xi T56 876 7 = Xi T55 876 7 from w610.x _ _ rfl).trans ( (show Xi T55 876 7 = Xi T54 876 7 from w599.x _ _ rfl).trans ( (show Xi T54 876 7 = Xi U53 876 7 from w586.x _ _ rfl).trans ( (show Xi U53 876 7 = Xi U34 876 7 from by rw [eU53]; exact Xi_ne (by omega)).trans ( (show Xi U34 876 7 = Xi U33 876 7 from by rw [eU34]; exact Xi_ne (by omega)).trans ((show Xi U33 876 7 = Xi S 876 7 from by rw [eU33]; exact Xi_ne (by omega)))))))
                have w616 : 0 ≤ Xi S 876 7 ∧ Xi S 876 7 ≤ 5125 := hH.c _ _
                have w617 : 0 ≤ Xi T56 890 1 ∧ Xi T56 890 1 ≤ 5126 := hHT56.c _ _
                refine l_callV rfl rfl rfl (t_gr_takeRun hHT56 (by first | assumption | omega) (by first | assumption | omega) _) ?_
                rintro _ T57 ⟨hHT57, w622, z621, rfl, w621, w618, w619, w620⟩
                have hFT57 : FR md_gr_checkOthers S T57 := FR.tr hFT56 w622 rfl
                show Rl _ _ _ _ _ [iv z621] _ _
                refine l_if_eq rfl rfl (by unfold rg; omega) (fun w623 => ?_) (fun w624 => ?_)
                · refine l_iconst rfl ?_
                  refine l_ireturn rfl rfl ?_
                  have w625 : Xi T57 890 2 = Xi U53 890 2 := (show Xi T57 890 2 = Xi T56 890 2 from w622.x _ _ rfl).trans ( (show Xi T56 890 2 = Xi T55 890 2 from w610.x _ _ rfl).trans ( (show Xi T55 890 2 = Xi T54 890 2 from w599.x _ _ rfl).trans ((show Xi T54 890 2 = Xi U53 890 2 from w586.x _ _ rfl))))
                  have w626 : 0 ≤ Xi U53 890 2 ∧ Xi U53 890 2 ≤ 20 := hHU53.c _ _
                  exact ⟨hHT57, hFT57, _, rfl, ⟨by omega, by omega⟩, (by first | assumption | omega)⟩
                · refine l_aload_n rfl rfl ?_
                  refine l_bipush rfl rfl ?_
                  have w627 : Xi T57 876 7 = Xi S 876 7 := (show Xi T57 876 7 = Xi T56 876 7 from w622.x _ _ rfl).trans ( (show Xi T56 876 7 = Xi T55 876 7 from w610.x _ _ rfl).trans ( (show Xi T55 876 7 = Xi T54 876 7 from w599.x _ _ rfl).trans ( (show Xi T54 876 7 = Xi U53 876 7 from w586.x _ _ rfl).trans ( (show Xi U53 876 7 = Xi U34 876 7 from by rw [eU53]; exact Xi_ne (by omega)).trans ( (show Xi U34 876 7 = Xi U33 876 7 from by rw [eU34]; exact Xi_ne (by omega)).trans ((show Xi U33 876 7 = Xi S 876 7 from by rw [eU33]; exact Xi_ne (by omega))))))))
                  have w628 : 0 ≤ Xi S 876 7 ∧ Xi S 876 7 ≤ 5125 := hH.c _ _
                  have w629 : 0 ≤ Xi T57 890 1 ∧ Xi T57 890 1 ≤ 5126 := hHT57.c _ _
                  refine l_callV rfl rfl rfl (t_gr_take hHT57 11 ⟨by omega, by omega⟩ (by first | assumption | omega) (by first | assumption | omega) (by first | assumption | omega) _) ?_
                  rintro _ T58 ⟨hHT58, w635, z634, rfl, w634, w630, w631, w632, w633⟩
                  have hFT58 : FR md_gr_checkOthers S T58 := FR.tr hFT57 w635 rfl
                  show Rl _ _ _ _ _ [iv z634] _ _
                  refine l_if_eq rfl rfl (by unfold rg; omega) (fun w636 => ?_) (fun w637 => ?_)
                  · refine l_iconst rfl ?_
                    refine l_ireturn rfl rfl ?_
                    have w638 : Xi T58 890 2 = Xi U53 890 2 := (show Xi T58 890 2 = Xi T57 890 2 from w635.x _ _ rfl).trans ( (show Xi T57 890 2 = Xi T56 890 2 from w622.x _ _ rfl).trans ( (show Xi T56 890 2 = Xi T55 890 2 from w610.x _ _ rfl).trans ( (show Xi T55 890 2 = Xi T54 890 2 from w599.x _ _ rfl).trans ((show Xi T54 890 2 = Xi U53 890 2 from w586.x _ _ rfl)))))
                    have w639 : 0 ≤ Xi U53 890 2 ∧ Xi U53 890 2 ≤ 20 := hHU53.c _ _
                    exact ⟨hHT58, hFT58, _, rfl, ⟨by omega, by omega⟩, (by first | assumption | omega)⟩
                  · refine l_aload_n rfl rfl ?_
                    have w640 : Xi T58 876 7 = Xi S 876 7 := (show Xi T58 876 7 = Xi T57 876 7 from w635.x _ _ rfl).trans ( (show Xi T57 876 7 = Xi T56 876 7 from w622.x _ _ rfl).trans ( (show Xi T56 876 7 = Xi T55 876 7 from w610.x _ _ rfl).trans ( (show Xi T55 876 7 = Xi T54 876 7 from w599.x _ _ rfl).trans ( (show Xi T54 876 7 = Xi U53 876 7 from w586.x _ _ rfl).trans ( (show Xi U53 876 7 = Xi U34 876 7 from by rw [eU53]; exact Xi_ne (by omega)).trans ( (show Xi U34 876 7 = Xi U33 876 7 from by rw [eU34]; exact Xi_ne (by omega)).trans ((show Xi U33 876 7 = Xi S 876 7 from by rw [eU33]; exact Xi_ne (by omega)))))))))
                    have w641 : 0 ≤ Xi S 876 7 ∧ Xi S 876 7 ≤ 5125 := hH.c _ _
                    have w642 : 0 ≤ Xi T58 890 1 ∧ Xi T58 890 1 ≤ 5126 := hHT58.c _ _
                    refine l_callV rfl rfl rfl (t_gr_takeHowMany hHT58 (by first | assumption | omega) (by first | assumption | omega) _) ?_
                    rintro _ T59 ⟨hHT59, w646, z645, rfl, w645, w643, w644⟩
                    have hFT59 : FR md_gr_checkOthers S T59 := FR.tr hFT58 w646 rfl
                    show Rl _ _ _ _ _ [iv z645] _ _
                    refine l_if_eq rfl rfl (by unfold rg; omega) (fun w647 => ?_) (fun w648 => ?_)
                    · refine l_iconst rfl ?_
                      refine l_ireturn rfl rfl ?_
                      have w649 : Xi T59 890 2 = Xi U53 890 2 := (show Xi T59 890 2 = Xi T58 890 2 from w646.x _ _ rfl).trans ( (show Xi T58 890 2 = Xi T57 890 2 from w635.x _ _ rfl).trans ( (show Xi T57 890 2 = Xi T56 890 2 from w622.x _ _ rfl).trans ( (show Xi T56 890 2 = Xi T55 890 2 from w610.x _ _ rfl).trans ( (show Xi T55 890 2 = Xi T54 890 2 from w599.x _ _ rfl).trans ((show Xi T54 890 2 = Xi U53 890 2 from w586.x _ _ rfl))))))
                      have w650 : 0 ≤ Xi U53 890 2 ∧ Xi U53 890 2 ≤ 20 := hHU53.c _ _
                      exact ⟨hHT59, hFT59, _, rfl, ⟨by omega, by omega⟩, (by first | assumption | omega)⟩
                    · refine l_aload_n rfl rfl ?_
                      have w651 : Xi T59 876 7 = Xi S 876 7 := (show Xi T59 876 7 = Xi T58 876 7 from w646.x _ _ rfl).trans ( (show Xi T58 876 7 = Xi T57 876 7 from w635.x _ _ rfl).trans ( (show Xi T57 876 7 = Xi T56 876 7 from w622.x _ _ rfl).trans ( (show Xi T56 876 7 = Xi T55 876 7 from w610.x _ _ rfl).trans ( (show Xi T55 876 7 = Xi T54 876 7 from w599.x _ _ rfl).trans ( (show Xi T54 876 7 = Xi U53 876 7 from w586.x _ _ rfl).trans ( (show Xi U53 876 7 = Xi U34 876 7 from by rw [eU53]; exact Xi_ne (by omega)).trans ( (show Xi U34 876 7 = Xi U33 876 7 from by rw [eU34]; exact Xi_ne (by omega)).trans ((show Xi U33 876 7 = Xi S 876 7 from by rw [eU33]; exact Xi_ne (by omega))))))))))
                      have w652 : 0 ≤ Xi S 876 7 ∧ Xi S 876 7 ≤ 5125 := hH.c _ _
                      have w653 : 0 ≤ Xi T59 890 1 ∧ Xi T59 890 1 ≤ 5126 := hHT59.c _ _
                      refine l_callV rfl rfl rfl (t_gr_takeRun hHT59 (by first | assumption | omega) (by first | assumption | omega) _) ?_
                      rintro _ T60 ⟨hHT60, w658, z657, rfl, w657, w654, w655, w656⟩
                      have hFT60 : FR md_gr_checkOthers S T60 := FR.tr hFT59 w658 rfl
                      show Rl _ _ _ _ _ [iv z657] _ _
                      refine l_if_eq rfl rfl (by unfold rg; omega) (fun w659 => ?_) (fun w660 => ?_)
                      · refine l_iconst rfl ?_
                        refine l_ireturn rfl rfl ?_
                        have w661 : Xi T60 890 2 = Xi U53 890 2 := (show Xi T60 890 2 = Xi T59 890 2 from w658.x _ _ rfl).trans ( (show Xi T59 890 2 = Xi T58 890 2 from w646.x _ _ rfl).trans ( (show Xi T58 890 2 = Xi T57 890 2 from w635.x _ _ rfl).trans ( (show Xi T57 890 2 = Xi T56 890 2 from w622.x _ _ rfl).trans ( (show Xi T56 890 2 = Xi T55 890 2 from w610.x _ _ rfl).trans ( (show Xi T55 890 2 = Xi T54 890 2 from w599.x _ _ rfl).trans ((show Xi T54 890 2 = Xi U53 890 2 from w586.x _ _ rfl)))))))
                        have w662 : 0 ≤ Xi U53 890 2 ∧ Xi U53 890 2 ≤ 20 := hHU53.c _ _
                        exact ⟨hHT60, hFT60, _, rfl, ⟨by omega, by omega⟩, (by first | assumption | omega)⟩
                      · refine l_aload_n rfl rfl ?_
                        refine l_bipush rfl rfl ?_
                        have w663 : Xi T60 876 7 = Xi S 876 7 := (show Xi T60 876 7 = Xi T59 876 7 from w658.x _ _ rfl).trans ( (show Xi T59 876 7 = Xi T58 876 7 from w646.x _ _ rfl).trans ( (show Xi T58 876 7 = Xi T57 876 7 from w635.x _ _ rfl).trans ( (show Xi T57 876 7 = Xi T56 876 7 from w622.x _ _ rfl).trans ( (show Xi T56 876 7 = Xi T55 876 7 from w610.x _ _ rfl).trans ( (show Xi T55 876 7 = Xi T54 876 7 from w599.x _ _ rfl).trans ( (show Xi T54 876 7 = Xi U53 876 7 from w586.x _ _ rfl).trans ( (show Xi U53 876 7 = Xi U34 876 7 from by rw [eU53]; exact Xi_ne (by omega)).trans ( (show Xi U34 876 7 = Xi U33 876 7 from by rw [eU34]; exact Xi_ne (by omega)).trans ((show Xi U33 876 7 = Xi S 876 7 from by rw [eU33]; exact Xi_ne (by omega)))))))))))
                        have w664 : 0 ≤ Xi S 876 7 ∧ Xi S 876 7 ≤ 5125 := hH.c _ _
                        have w665 : 0 ≤ Xi T60 890 1 ∧ Xi T60 890 1 ≤ 5126 := hHT60.c _ _
                        refine l_callV rfl rfl rfl (t_gr_take hHT60 103 ⟨by omega, by omega⟩ (by first | assumption | omega) (by first | assumption | omega) (by first | assumption | omega) _) ?_
                        rintro _ T61 ⟨hHT61, w671, z670, rfl, w670, w666, w667, w668, w669⟩
                        have hFT61 : FR md_gr_checkOthers S T61 := FR.tr hFT60 w671 rfl
                        show Rl _ _ _ _ _ [iv z670] _ _
                        refine l_if_eq rfl rfl (by unfold rg; omega) (fun w672 => ?_) (fun w673 => ?_)
                        · refine l_iconst rfl ?_
                          refine l_ireturn rfl rfl ?_
                          have w674 : Xi T61 890 2 = Xi U53 890 2 := (show Xi T61 890 2 = Xi T60 890 2 from w671.x _ _ rfl).trans ( (show Xi T60 890 2 = Xi T59 890 2 from w658.x _ _ rfl).trans ( (show Xi T59 890 2 = Xi T58 890 2 from w646.x _ _ rfl).trans ( (show Xi T58 890 2 = Xi T57 890 2 from w635.x _ _ rfl).trans ( (show Xi T57 890 2 = Xi T56 890 2 from w622.x _ _ rfl).trans ( (show Xi T56 890 2 = Xi T55 890 2 from w610.x _ _ rfl).trans ( (show Xi T55 890 2 = Xi T54 890 2 from w599.x _ _ rfl).trans ((show Xi T54 890 2 = Xi U53 890 2 from w586.x _ _ rfl))))))))
                          have w675 : 0 ≤ Xi U53 890 2 ∧ Xi U53 890 2 ≤ 20 := hHU53.c _ _
                          exact ⟨hHT61, hFT61, _, rfl, ⟨by omega, by omega⟩, (by first | assumption | omega)⟩
                        · refine l_iconst rfl ?_
                          refine l_goto rfl rfl ?_
                          refine l_ireturn rfl rfl ?_
                          have w676 : Xi T61 890 2 = Xi U53 890 2 := (show Xi T61 890 2 = Xi T60 890 2 from w671.x _ _ rfl).trans ( (show Xi T60 890 2 = Xi T59 890 2 from w658.x _ _ rfl).trans ( (show Xi T59 890 2 = Xi T58 890 2 from w646.x _ _ rfl).trans ( (show Xi T58 890 2 = Xi T57 890 2 from w635.x _ _ rfl).trans ( (show Xi T57 890 2 = Xi T56 890 2 from w622.x _ _ rfl).trans ( (show Xi T56 890 2 = Xi T55 890 2 from w610.x _ _ rfl).trans ( (show Xi T55 890 2 = Xi T54 890 2 from w599.x _ _ rfl).trans ((show Xi T54 890 2 = Xi U53 890 2 from w586.x _ _ rfl))))))))
                          have w677 : 0 ≤ Xi U53 890 2 ∧ Xi U53 890 2 ≤ 20 := hHU53.c _ _
                          exact ⟨hHT61, hFT61, _, rfl, ⟨by omega, by omega⟩, (by first | assumption | omega)⟩
        refine ⟨_, rfl, ?_⟩
        refine l_aload_n rfl rfl ?_
        refine l_bipush rfl rfl ?_
        refine l_pfi rfl rfl rfl rfl ?_
        obtain ⟨U62, eU62⟩ : ∃ T : sS, T = uI U34 890 2 (Int32.ofInt 20) := ⟨_, rfl⟩
        rw [← eU62]
        have hHU62 : HI U62 := by rw [eU62]; exact HI_w hHU34 (show 0 ≤ 20 by omega) (show 20 ≤ 20 by omega)
        have hFU62 : FR md_gr_checkOthers S U62 := by rw [eU62]; exact FR.wI hFU34 (mdf_i (r := (890, 891, 2, 3)) (List.mem_of_getElem? (i := 1) rfl) (inR_i (by omega) (by omega) (by omega) (by omega)))
        have w678 : Xi U62 890 2 = 20 := by rw [eU62]; exact Xi_same (by unfold rg; omega)
        have hso478 : SAY U62 (Xi U62 890 1) := SAY_sort eU62 (by assumption) (by decide)
        refine l_aload_n rfl rfl ?_
        refine l_bipush rfl rfl ?_
        refine l_bipush rfl rfl ?_
        have w679 : Xi U62 876 7 = Xi S 876 7 := (show Xi U62 876 7 = Xi U34 876 7 from by rw [eU62]; exact Xi_ne (by omega)).trans ( (show Xi U34 876 7 = Xi U33 876 7 from by rw [eU34]; exact Xi_ne (by omega)).trans ((show Xi U33 876 7 = Xi S 876 7 from by rw [eU33]; exact Xi_ne (by omega))))
        have w680 : 0 ≤ Xi S 876 7 ∧ Xi S 876 7 ≤ 5125 := hH.c _ _
        have w681 : Xi U62 890 1 = Xi U33 890 1 := (show Xi U62 890 1 = Xi U34 890 1 from by rw [eU62]; exact Xi_ne (by omega)).trans ((show Xi U34 890 1 = Xi U33 890 1 from by rw [eU34]; exact Xi_ne (by omega)))
        have w682 : 0 ≤ Xi U33 890 1 ∧ Xi U33 890 1 ≤ 5126 := hHU33.c _ _
        refine l_callV rfl rfl rfl (t_gr_takeLoose hHU62 16 104 ⟨by omega, by omega⟩ ⟨by omega, by omega⟩ (by first | assumption | omega) (by first | assumption | omega) (by first | assumption | omega) (by first | assumption | omega) _) ?_
        rintro _ T63 ⟨hHT63, w686, z685, rfl, w685, w683, w684⟩
        have hFT63 : FR md_gr_checkOthers S T63 := FR.tr hFU62 w686 rfl
        show Rl _ _ _ _ _ [iv z685] _ _
        refine l_if_eq rfl rfl (by unfold rg; omega) (fun w687 => ?_) (fun w688 => ?_)
        · refine l_iconst rfl ?_
          refine l_ireturn rfl rfl ?_
          have w689 : Xi T63 890 2 = Xi U62 890 2 := (show Xi T63 890 2 = Xi U62 890 2 from w686.x _ _ rfl)
          have w690 : 0 ≤ Xi U62 890 2 ∧ Xi U62 890 2 ≤ 20 := hHU62.c _ _
          exact ⟨hHT63, hFT63, _, rfl, ⟨by omega, by omega⟩, (by first | assumption | omega)⟩
        · refine l_aload_n rfl rfl ?_
          refine l_bipush rfl rfl ?_
          have w691 : Xi T63 876 7 = Xi S 876 7 := (show Xi T63 876 7 = Xi U62 876 7 from w686.x _ _ rfl).trans ( (show Xi U62 876 7 = Xi U34 876 7 from by rw [eU62]; exact Xi_ne (by omega)).trans ( (show Xi U34 876 7 = Xi U33 876 7 from by rw [eU34]; exact Xi_ne (by omega)).trans ((show Xi U33 876 7 = Xi S 876 7 from by rw [eU33]; exact Xi_ne (by omega)))))
          have w692 : 0 ≤ Xi S 876 7 ∧ Xi S 876 7 ≤ 5125 := hH.c _ _
          have w693 : 0 ≤ Xi T63 890 1 ∧ Xi T63 890 1 ≤ 5126 := hHT63.c _ _
          refine l_callV rfl rfl rfl (t_gr_take hHT63 103 ⟨by omega, by omega⟩ (by first | assumption | omega) (by first | assumption | omega) (by first | assumption | omega) _) ?_
          rintro _ T64 ⟨hHT64, w699, z698, rfl, w698, w694, w695, w696, w697⟩
          have hFT64 : FR md_gr_checkOthers S T64 := FR.tr hFT63 w699 rfl
          show Rl _ _ _ _ _ [iv z698] _ _
          refine l_if_eq rfl rfl (by unfold rg; omega) (fun w700 => ?_) (fun w701 => ?_)
          · refine l_iconst rfl ?_
            refine l_ireturn rfl rfl ?_
            have w702 : Xi T64 890 2 = Xi U62 890 2 := (show Xi T64 890 2 = Xi T63 890 2 from w699.x _ _ rfl).trans ((show Xi T63 890 2 = Xi U62 890 2 from w686.x _ _ rfl))
            have w703 : 0 ≤ Xi U62 890 2 ∧ Xi U62 890 2 ≤ 20 := hHU62.c _ _
            exact ⟨hHT64, hFT64, _, rfl, ⟨by omega, by omega⟩, (by first | assumption | omega)⟩
          · refine l_iconst rfl ?_
            refine l_goto rfl rfl ?_
            refine l_ireturn rfl rfl ?_
            have w704 : Xi T64 890 2 = Xi U62 890 2 := (show Xi T64 890 2 = Xi T63 890 2 from w699.x _ _ rfl).trans ((show Xi T63 890 2 = Xi U62 890 2 from w686.x _ _ rfl))
            have w705 : 0 ≤ Xi U62 890 2 ∧ Xi U62 890 2 ≤ 20 := hHU62.c _ _
            exact ⟨hHT64, hFT64, _, rfl, ⟨by omega, by omega⟩, (by first | assumption | omega)⟩
      · refine l_aload_n rfl rfl ?_
        refine l_bipush rfl rfl ?_
        refine l_pfi rfl rfl rfl rfl ?_
        obtain ⟨U65, eU65⟩ : ∃ T : sS, T = uI S 890 2 (Int32.ofInt 8) := ⟨_, rfl⟩
        rw [← eU65]
        have hHU65 : HI U65 := by rw [eU65]; exact HI_w hH (show 0 ≤ 8 by omega) (show 8 ≤ 20 by omega)
        have hFU65 : FR md_gr_checkOthers S U65 := by rw [eU65]; exact FR.wI hF (mdf_i (r := (890, 891, 2, 3)) (List.mem_of_getElem? (i := 1) rfl) (inR_i (by omega) (by omega) (by omega) (by omega)))
        have w706 : Xi U65 890 2 = 8 := by rw [eU65]; exact Xi_same (by unfold rg; omega)
        refine l_aload_n rfl rfl ?_
        refine l_iconst rfl ?_
        refine l_pfi rfl rfl rfl rfl ?_
        obtain ⟨U66, eU66⟩ : ∃ T : sS, T = uI U65 890 1 (Int32.ofInt 2) := ⟨_, rfl⟩
        rw [← eU66]
        have hHU66 : HI U66 := by rw [eU66]; exact HI_w hHU65 (show 0 ≤ 2 by omega) (show 2 ≤ 5126 by omega)
        have hFU66 : FR md_gr_checkOthers S U66 := by rw [eU66]; exact FR.wI hFU65 (mdf_i (r := (890, 891, 1, 2)) (List.mem_of_getElem? (i := 0) rfl) (inR_i (by omega) (by omega) (by omega) (by omega)))
        have w707 : Xi U66 890 1 = 2 := by rw [eU66]; exact Xi_same (by unfold rg; omega)
        have hs133 : SAY U66 (Xi U66 890 1) := SAY_v2 (by omega) (m877 hFU66 rfl) (by omega) (by omega)
        refine l_aload_n rfl rfl ?_
        refine l_bipush rfl rfl ?_
        have w708 : Xi U66 876 7 = Xi S 876 7 := (show Xi U66 876 7 = Xi U65 876 7 from by rw [eU66]; exact Xi_ne (by omega)).trans ((show Xi U65 876 7 = Xi S 876 7 from by rw [eU65]; exact Xi_ne (by omega)))
        have w709 : 0 ≤ Xi S 876 7 ∧ Xi S 876 7 ≤ 5125 := hH.c _ _
        have w710 : 0 ≤ Xi U66 890 1 ∧ Xi U66 890 1 ≤ 5126 := hHU66.c _ _
        refine l_callV rfl rfl rfl (t_gr_take hHU66 7 ⟨by omega, by omega⟩ (by first | assumption | omega) (by first | assumption | omega) (by first | assumption | omega) _) ?_
        rintro _ T67 ⟨hHT67, w716, z715, rfl, w715, w711, w712, w713, w714⟩
        have hFT67 : FR md_gr_checkOthers S T67 := FR.tr hFU66 w716 rfl
        show Rl _ _ _ _ _ [iv z715] _ _
        refine l_if_eq rfl rfl (by unfold rg; omega) (fun w717 => ?_) (fun w718 => ?_)
        · refine l_iconst rfl ?_
          refine l_ireturn rfl rfl ?_
          have w719 : Xi T67 890 2 = Xi U65 890 2 := (show Xi T67 890 2 = Xi U66 890 2 from w716.x _ _ rfl).trans ((show Xi U66 890 2 = Xi U65 890 2 from by rw [eU66]; exact Xi_ne (by omega)))
          have w720 : 0 ≤ Xi U65 890 2 ∧ Xi U65 890 2 ≤ 20 := hHU65.c _ _
          exact ⟨hHT67, hFT67, _, rfl, ⟨by omega, by omega⟩, (by first | assumption | omega)⟩
        · refine l_aload_n rfl rfl ?_
          have w721 : Xi T67 876 7 = Xi S 876 7 := (show Xi T67 876 7 = Xi U66 876 7 from w716.x _ _ rfl).trans ( (show Xi U66 876 7 = Xi U65 876 7 from by rw [eU66]; exact Xi_ne (by omega)).trans ((show Xi U65 876 7 = Xi S 876 7 from by rw [eU65]; exact Xi_ne (by omega))))
          have w722 : 0 ≤ Xi S 876 7 ∧ Xi S 876 7 ≤ 5125 := hH.c _ _
          have w723 : 0 ≤ Xi T67 890 1 ∧ Xi T67 890 1 ≤ 5126 := hHT67.c _ _
          refine l_callV rfl rfl rfl (t_gr_takeName hHT67 (by first | assumption | omega) (by first | assumption | omega) _) ?_
          rintro _ T68 ⟨hHT68, w727, z726, rfl, w726, w724, w725⟩
          have hFT68 : FR md_gr_checkOthers S T68 := FR.tr hFT67 w727 rfl
          show Rl _ _ _ _ _ [iv z726] _ _
          refine l_if_eq rfl rfl (by unfold rg; omega) (fun w728 => ?_) (fun w729 => ?_)
          · refine l_iconst rfl ?_
            refine l_ireturn rfl rfl ?_
            have w730 : Xi T68 890 2 = Xi U65 890 2 := (show Xi T68 890 2 = Xi T67 890 2 from w727.x _ _ rfl).trans ( (show Xi T67 890 2 = Xi U66 890 2 from w716.x _ _ rfl).trans ((show Xi U66 890 2 = Xi U65 890 2 from by rw [eU66]; exact Xi_ne (by omega))))
            have w731 : 0 ≤ Xi U65 890 2 ∧ Xi U65 890 2 ≤ 20 := hHU65.c _ _
            exact ⟨hHT68, hFT68, _, rfl, ⟨by omega, by omega⟩, (by first | assumption | omega)⟩
          · refine l_aload_n rfl rfl ?_
            have w732 : Xi T68 876 7 = Xi S 876 7 := (show Xi T68 876 7 = Xi T67 876 7 from w727.x _ _ rfl).trans ( (show Xi T67 876 7 = Xi U66 876 7 from w716.x _ _ rfl).trans ( (show Xi U66 876 7 = Xi U65 876 7 from by rw [eU66]; exact Xi_ne (by omega)).trans ((show Xi U65 876 7 = Xi S 876 7 from by rw [eU65]; exact Xi_ne (by omega)))))
            have w733 : 0 ≤ Xi S 876 7 ∧ Xi S 876 7 ≤ 5125 := hH.c _ _
            have w734 : 0 ≤ Xi T68 890 1 ∧ Xi T68 890 1 ≤ 5126 := hHT68.c _ _
            refine l_callV rfl rfl rfl (t_gr_takeBe hHT68 (by first | assumption | omega) (by first | assumption | omega) _) ?_
            rintro _ T69 ⟨hHT69, w738, z737, rfl, w737, w735, w736⟩
            have hFT69 : FR md_gr_checkOthers S T69 := FR.tr hFT68 w738 rfl
            show Rl _ _ _ _ _ [iv z737] _ _
            refine l_if_eq rfl rfl (by unfold rg; omega) (fun w739 => ?_) (fun w740 => ?_)
            · refine l_iconst rfl ?_
              refine l_ireturn rfl rfl ?_
              have w741 : Xi T69 890 2 = Xi U65 890 2 := (show Xi T69 890 2 = Xi T68 890 2 from w738.x _ _ rfl).trans ( (show Xi T68 890 2 = Xi T67 890 2 from w727.x _ _ rfl).trans ( (show Xi T67 890 2 = Xi U66 890 2 from w716.x _ _ rfl).trans ((show Xi U66 890 2 = Xi U65 890 2 from by rw [eU66]; exact Xi_ne (by omega)))))
              have w742 : 0 ≤ Xi U65 890 2 ∧ Xi U65 890 2 ≤ 20 := hHU65.c _ _
              exact ⟨hHT69, hFT69, _, rfl, ⟨by omega, by omega⟩, (by first | assumption | omega)⟩
            · refine l_aload_n rfl rfl ?_
              have w743 : Xi T69 876 7 = Xi S 876 7 := (show Xi T69 876 7 = Xi T68 876 7 from w738.x _ _ rfl).trans ( (show Xi T68 876 7 = Xi T67 876 7 from w727.x _ _ rfl).trans ( (show Xi T67 876 7 = Xi U66 876 7 from w716.x _ _ rfl).trans ( (show Xi U66 876 7 = Xi U65 876 7 from by rw [eU66]; exact Xi_ne (by omega)).trans ((show Xi U65 876 7 = Xi S 876 7 from by rw [eU65]; exact Xi_ne (by omega))))))
              have w744 : 0 ≤ Xi S 876 7 ∧ Xi S 876 7 ≤ 5125 := hH.c _ _
              have w745 : 0 ≤ Xi T69 890 1 ∧ Xi T69 890 1 ≤ 5126 := hHT69.c _ _
              refine l_callV rfl rfl rfl (t_gr_takeRun hHT69 (by first | assumption | omega) (by first | assumption | omega) _) ?_
              rintro _ T70 ⟨hHT70, w750, z749, rfl, w749, w746, w747, w748⟩
              have hFT70 : FR md_gr_checkOthers S T70 := FR.tr hFT69 w750 rfl
              show Rl _ _ _ _ _ [iv z749] _ _
              refine l_if_eq rfl rfl (by unfold rg; omega) (fun w751 => ?_) (fun w752 => ?_)
              · refine l_iconst rfl ?_
                refine l_ireturn rfl rfl ?_
                have w753 : Xi T70 890 2 = Xi U65 890 2 := (show Xi T70 890 2 = Xi T69 890 2 from w750.x _ _ rfl).trans ( (show Xi T69 890 2 = Xi T68 890 2 from w738.x _ _ rfl).trans ( (show Xi T68 890 2 = Xi T67 890 2 from w727.x _ _ rfl).trans ( (show Xi T67 890 2 = Xi U66 890 2 from w716.x _ _ rfl).trans ((show Xi U66 890 2 = Xi U65 890 2 from by rw [eU66]; exact Xi_ne (by omega))))))
                have w754 : 0 ≤ Xi U65 890 2 ∧ Xi U65 890 2 ≤ 20 := hHU65.c _ _
                exact ⟨hHT70, hFT70, _, rfl, ⟨by omega, by omega⟩, (by first | assumption | omega)⟩
              · refine l_aload_n rfl rfl ?_
                refine l_bipush rfl rfl ?_
                have w755 : Xi T70 876 7 = Xi S 876 7 := (show Xi T70 876 7 = Xi T69 876 7 from w750.x _ _ rfl).trans ( (show Xi T69 876 7 = Xi T68 876 7 from w738.x _ _ rfl).trans ( (show Xi T68 876 7 = Xi T67 876 7 from w727.x _ _ rfl).trans ( (show Xi T67 876 7 = Xi U66 876 7 from w716.x _ _ rfl).trans ( (show Xi U66 876 7 = Xi U65 876 7 from by rw [eU66]; exact Xi_ne (by omega)).trans ((show Xi U65 876 7 = Xi S 876 7 from by rw [eU65]; exact Xi_ne (by omega)))))))
                have w756 : 0 ≤ Xi S 876 7 ∧ Xi S 876 7 ≤ 5125 := hH.c _ _
                have w757 : 0 ≤ Xi T70 890 1 ∧ Xi T70 890 1 ≤ 5126 := hHT70.c _ _
                refine l_callV rfl rfl rfl (t_gr_take hHT70 103 ⟨by omega, by omega⟩ (by first | assumption | omega) (by first | assumption | omega) (by first | assumption | omega) _) ?_
                rintro _ T71 ⟨hHT71, w763, z762, rfl, w762, w758, w759, w760, w761⟩
                have hFT71 : FR md_gr_checkOthers S T71 := FR.tr hFT70 w763 rfl
                show Rl _ _ _ _ _ [iv z762] _ _
                refine l_if_eq rfl rfl (by unfold rg; omega) (fun w764 => ?_) (fun w765 => ?_)
                · refine l_iconst rfl ?_
                  refine l_ireturn rfl rfl ?_
                  have w766 : Xi T71 890 2 = Xi U65 890 2 := (show Xi T71 890 2 = Xi T70 890 2 from w763.x _ _ rfl).trans ( (show Xi T70 890 2 = Xi T69 890 2 from w750.x _ _ rfl).trans ( (show Xi T69 890 2 = Xi T68 890 2 from w738.x _ _ rfl).trans ( (show Xi T68 890 2 = Xi T67 890 2 from w727.x _ _ rfl).trans ( (show Xi T67 890 2 = Xi U66 890 2 from w716.x _ _ rfl).trans ((show Xi U66 890 2 = Xi U65 890 2 from by rw [eU66]; exact Xi_ne (by omega)))))))
                  have w767 : 0 ≤ Xi U65 890 2 ∧ Xi U65 890 2 ≤ 20 := hHU65.c _ _
                  exact ⟨hHT71, hFT71, _, rfl, ⟨by omega, by omega⟩, (by first | assumption | omega)⟩
                · refine l_iconst rfl ?_
                  refine l_goto rfl rfl ?_
                  refine l_ireturn rfl rfl ?_
                  have w768 : Xi T71 890 2 = Xi U65 890 2 := (show Xi T71 890 2 = Xi T70 890 2 from w763.x _ _ rfl).trans ( (show Xi T70 890 2 = Xi T69 890 2 from w750.x _ _ rfl).trans ( (show Xi T69 890 2 = Xi T68 890 2 from w738.x _ _ rfl).trans ( (show Xi T68 890 2 = Xi T67 890 2 from w727.x _ _ rfl).trans ( (show Xi T67 890 2 = Xi U66 890 2 from w716.x _ _ rfl).trans ((show Xi U66 890 2 = Xi U65 890 2 from by rw [eU66]; exact Xi_ne (by omega)))))))
                  have w769 : 0 ≤ Xi U65 890 2 ∧ Xi U65 890 2 ≤ 20 := hHU65.c _ _
                  exact ⟨hHT71, hFT71, _, rfl, ⟨by omega, by omega⟩, (by first | assumption | omega)⟩
  · refine l_aload_n rfl rfl ?_
    refine l_gfr rfl rfl rfl rfl rfl (hH.r 890 0 876 rfl) ?_
    refine l_iconst rfl ?_
    have w770 : 0 ≤ Xi S 876 7 ∧ Xi S 876 7 ≤ 5125 := hH.c _ _
    refine l_callV rfl rfl rfl (t_to_typeAt hH 1 ⟨by omega, by omega⟩ _) ?_
    rintro _ _ ⟨rfl, z772, rfl, w772, w771⟩
    show Rl _ _ _ _ _ [iv z772] _ _
    refine l_bipush rfl rfl ?_
    refine l_icmp_ne rfl rfl (by unfold rg; omega) (by unfold rg; omega) (fun w773 => ?_) (fun w774 => ?_)
    · refine l_aload_n rfl rfl ?_
      refine l_gfr rfl rfl rfl rfl rfl (hH.r 890 0 876 rfl) ?_
      refine l_iconst rfl ?_
      have w775 : 0 ≤ Xi S 876 7 ∧ Xi S 876 7 ≤ 5125 := hH.c _ _
      refine l_callV rfl rfl rfl (t_to_typeAt hH 0 ⟨by omega, by omega⟩ _) ?_
      rintro _ _ ⟨rfl, z777, rfl, w777, w776⟩
      show Rl _ _ _ _ _ [iv z777] _ _
      refine l_iconst rfl ?_
      refine l_icmp_ne rfl rfl (by unfold rg; omega) (by unfold rg; omega) (fun w778 => ?_) (fun w779 => ?_)
      · refine l_aload_n rfl rfl ?_
        refine l_iconst rfl ?_
        refine l_pfi rfl rfl rfl rfl ?_
        obtain ⟨U72, eU72⟩ : ∃ T : sS, T = uI S 890 1 (Int32.ofInt 0) := ⟨_, rfl⟩
        rw [← eU72]
        have hHU72 : HI U72 := by rw [eU72]; exact HI_w hH (show 0 ≤ 0 by omega) (show 0 ≤ 5126 by omega)
        have hFU72 : FR md_gr_checkOthers S U72 := by rw [eU72]; exact FR.wI hF (mdf_i (r := (890, 891, 1, 2)) (List.mem_of_getElem? (i := 0) rfl) (inR_i (by omega) (by omega) (by omega) (by omega)))
        have w780 : Xi U72 890 1 = 0 := by rw [eU72]; exact Xi_same (by unfold rg; omega)
        have hs183 : SAY U72 (Xi U72 890 1) := SAY_v0 (by omega)
        refine l_aload_n rfl rfl ?_
        refine l_aload_n rfl rfl ?_
        refine l_gfr rfl rfl rfl rfl rfl (hHU72.r 890 0 876 rfl) ?_
        have w781 : Xi U72 876 7 = Xi S 876 7 := (show Xi U72 876 7 = Xi S 876 7 from by rw [eU72]; exact Xi_ne (by omega))
        have w782 : 0 ≤ Xi S 876 7 ∧ Xi S 876 7 ≤ 5125 := hH.c _ _
        refine l_callV rfl rfl rfl (t_to_tellingKey hHU72 _) ?_
        rintro _ _ ⟨rfl, z784, rfl, w784, w783⟩
        show Rl _ _ _ _ _ [iv z784, .ref 890] _ _
        refine l_pfi rfl rfl rfl rfl ?_
        obtain ⟨U73, eU73⟩ : ∃ T : sS, T = uI U72 890 3 (Int32.ofInt z784) := ⟨_, rfl⟩
        rw [← eU73]
        have hHU73 : HI U73 := by rw [eU73]; exact HI_w hHU72 (show -1 ≤ z784 by omega) (show z784 ≤ 5124 by omega)
        have hFU73 : FR md_gr_checkOthers S U73 := by rw [eU73]; exact FR.wI hFU72 (mdf_i (r := (890, 891, 3, 4)) (List.mem_of_getElem? (i := 2) rfl) (inR_i (by omega) (by omega) (by omega) (by omega)))
        have w785 : Xi U73 890 3 = z784 := by rw [eU73]; exact Xi_same (by unfold rg; omega)
        have hso194 : SAY U73 (Xi U73 890 1) := SAY_sort eU73 (by assumption) (by decide)
        refine l_aload_n rfl rfl ?_
        refine l_gfr rfl rfl rfl rfl rfl (hHU73.r 890 0 876 rfl) ?_
        refine l_aload_n rfl rfl ?_
        refine l_gfi rfl rfl rfl rfl rfl ?_
        have w786 : Xi U73 876 7 = Xi S 876 7 := (show Xi U73 876 7 = Xi U72 876 7 from by rw [eU73]; exact Xi_ne (by omega)).trans ((show Xi U72 876 7 = Xi S 876 7 from by rw [eU72]; exact Xi_ne (by omega)))
        have w787 : 0 ≤ Xi S 876 7 ∧ Xi S 876 7 ≤ 5125 := hH.c _ _
        refine l_callV rfl rfl rfl (t_to_typeAt hHU73 (Xi U73 890 3) ⟨by omega, by omega⟩ _) ?_
        rintro _ _ ⟨rfl, z789, rfl, w789, w788⟩
        show Rl _ _ _ _ _ [iv z789] _ _
        refine l_lsw rfl rfl (by unfold rg; omega) ?_
        refine And.intro (fun w790 => ⟨_, rfl, ?_⟩) (fun w791 => ?_)
        · refine l_aload_n rfl rfl ?_
          have w792 : Xi U73 876 7 = Xi S 876 7 := (show Xi U73 876 7 = Xi U72 876 7 from by rw [eU73]; exact Xi_ne (by omega)).trans ((show Xi U72 876 7 = Xi S 876 7 from by rw [eU72]; exact Xi_ne (by omega)))
          have w793 : 0 ≤ Xi S 876 7 ∧ Xi S 876 7 ≤ 5125 := hH.c _ _
          have w794 : Xi U73 890 1 = Xi U72 890 1 := (show Xi U73 890 1 = Xi U72 890 1 from by rw [eU73]; exact Xi_ne (by omega))
          have w795 : 0 ≤ Xi U72 890 1 ∧ Xi U72 890 1 ≤ 5126 := hHU72.c _ _
          refine l_callV rfl rfl rfl (t_gr_checkBe hHU73 (by first | assumption | omega) (by first | assumption | omega) (by first | assumption | omega) _) ?_
          rintro _ T74 ⟨hHT74, w798, z797, rfl, w797, w796⟩
          have hFT74 : FR md_gr_checkOthers S T74 := FR.tr hFU73 w798 rfl
          show Rl _ _ _ _ _ [iv z797] _ _
          refine l_ireturn rfl (retI_z (by omega)) ?_
          have w799 : 0 ≤ Xi T74 890 2 ∧ Xi T74 890 2 ≤ 20 := hHT74.c _ _
          exact ⟨hHT74, hFT74, _, rfl, ⟨by omega, by omega⟩, (by first | assumption | omega)⟩
        refine And.intro (fun w800 => ⟨_, rfl, ?_⟩) (fun w801 => ?_)
        · refine l_aload_n rfl rfl ?_
          have w802 : Xi U73 876 7 = Xi S 876 7 := (show Xi U73 876 7 = Xi U72 876 7 from by rw [eU73]; exact Xi_ne (by omega)).trans ((show Xi U72 876 7 = Xi S 876 7 from by rw [eU72]; exact Xi_ne (by omega)))
          have w803 : 0 ≤ Xi S 876 7 ∧ Xi S 876 7 ≤ 5125 := hH.c _ _
          have w804 : Xi U73 890 1 = Xi U72 890 1 := (show Xi U73 890 1 = Xi U72 890 1 from by rw [eU73]; exact Xi_ne (by omega))
          have w805 : 0 ≤ Xi U72 890 1 ∧ Xi U72 890 1 ≤ 5126 := hHU72.c _ _
          refine l_callV rfl rfl rfl (t_gr_checkBe hHU73 (by first | assumption | omega) (by first | assumption | omega) (by first | assumption | omega) _) ?_
          rintro _ T75 ⟨hHT75, w808, z807, rfl, w807, w806⟩
          have hFT75 : FR md_gr_checkOthers S T75 := FR.tr hFU73 w808 rfl
          show Rl _ _ _ _ _ [iv z807] _ _
          refine l_ireturn rfl (retI_z (by omega)) ?_
          have w809 : 0 ≤ Xi T75 890 2 ∧ Xi T75 890 2 ≤ 20 := hHT75.c _ _
          exact ⟨hHT75, hFT75, _, rfl, ⟨by omega, by omega⟩, (by first | assumption | omega)⟩
        refine And.intro (fun w810 => ⟨_, rfl, ?_⟩) (fun w811 => ?_)
        · refine l_aload_n rfl rfl ?_
          refine l_bipush rfl rfl ?_
          refine l_pfi rfl rfl rfl rfl ?_
          obtain ⟨U76, eU76⟩ : ∃ T : sS, T = uI U73 890 2 (Int32.ofInt 17) := ⟨_, rfl⟩
          rw [← eU76]
          have hHU76 : HI U76 := by rw [eU76]; exact HI_w hHU73 (show 0 ≤ 17 by omega) (show 17 ≤ 20 by omega)
          have hFU76 : FR md_gr_checkOthers S U76 := by rw [eU76]; exact FR.wI hFU73 (mdf_i (r := (890, 891, 2, 3)) (List.mem_of_getElem? (i := 1) rfl) (inR_i (by omega) (by omega) (by omega) (by omega)))
          have w812 : Xi U76 890 2 = 17 := by rw [eU76]; exact Xi_same (by unfold rg; omega)
          have hso268 : SAY U76 (Xi U76 890 1) := SAY_sort eU76 (by assumption) (by decide)
          refine l_aload_n rfl rfl ?_
          have w813 : Xi U76 876 7 = Xi S 876 7 := (show Xi U76 876 7 = Xi U73 876 7 from by rw [eU76]; exact Xi_ne (by omega)).trans ( (show Xi U73 876 7 = Xi U72 876 7 from by rw [eU73]; exact Xi_ne (by omega)).trans ((show Xi U72 876 7 = Xi S 876 7 from by rw [eU72]; exact Xi_ne (by omega))))
          have w814 : 0 ≤ Xi S 876 7 ∧ Xi S 876 7 ≤ 5125 := hH.c _ _
          have w815 : Xi U76 890 1 = Xi U72 890 1 := (show Xi U76 890 1 = Xi U73 890 1 from by rw [eU76]; exact Xi_ne (by omega)).trans ((show Xi U73 890 1 = Xi U72 890 1 from by rw [eU73]; exact Xi_ne (by omega)))
          have w816 : 0 ≤ Xi U72 890 1 ∧ Xi U72 890 1 ≤ 5126 := hHU72.c _ _
          refine l_callV rfl rfl rfl (t_gr_takeName hHU76 (by first | assumption | omega) (by first | assumption | omega) _) ?_
          rintro _ T77 ⟨hHT77, w820, z819, rfl, w819, w817, w818⟩
          have hFT77 : FR md_gr_checkOthers S T77 := FR.tr hFU76 w820 rfl
          show Rl _ _ _ _ _ [iv z819] _ _
          refine l_if_eq rfl rfl (by unfold rg; omega) (fun w821 => ?_) (fun w822 => ?_)
          · refine l_iconst rfl ?_
            refine l_ireturn rfl rfl ?_
            have w823 : Xi T77 890 2 = Xi U76 890 2 := (show Xi T77 890 2 = Xi U76 890 2 from w820.x _ _ rfl)
            have w824 : 0 ≤ Xi U76 890 2 ∧ Xi U76 890 2 ≤ 20 := hHU76.c _ _
            exact ⟨hHT77, hFT77, _, rfl, ⟨by omega, by omega⟩, (by first | assumption | omega)⟩
          · refine l_aload_n rfl rfl ?_
            refine l_bipush rfl rfl ?_
            have w825 : Xi T77 876 7 = Xi S 876 7 := (show Xi T77 876 7 = Xi U76 876 7 from w820.x _ _ rfl).trans ( (show Xi U76 876 7 = Xi U73 876 7 from by rw [eU76]; exact Xi_ne (by omega)).trans ( (show Xi U73 876 7 = Xi U72 876 7 from by rw [eU73]; exact Xi_ne (by omega)).trans ((show Xi U72 876 7 = Xi S 876 7 from by rw [eU72]; exact Xi_ne (by omega)))))
            have w826 : 0 ≤ Xi S 876 7 ∧ Xi S 876 7 ≤ 5125 := hH.c _ _
            have w827 : 0 ≤ Xi T77 890 1 ∧ Xi T77 890 1 ≤ 5126 := hHT77.c _ _
            refine l_callV rfl rfl rfl (t_gr_take hHT77 12 ⟨by omega, by omega⟩ (by first | assumption | omega) (by first | assumption | omega) (by first | assumption | omega) _) ?_
            rintro _ T78 ⟨hHT78, w833, z832, rfl, w832, w828, w829, w830, w831⟩
            have hFT78 : FR md_gr_checkOthers S T78 := FR.tr hFT77 w833 rfl
            show Rl _ _ _ _ _ [iv z832] _ _
            refine l_if_eq rfl rfl (by unfold rg; omega) (fun w834 => ?_) (fun w835 => ?_)
            · refine l_iconst rfl ?_
              refine l_ireturn rfl rfl ?_
              have w836 : Xi T78 890 2 = Xi U76 890 2 := (show Xi T78 890 2 = Xi T77 890 2 from w833.x _ _ rfl).trans ((show Xi T77 890 2 = Xi U76 890 2 from w820.x _ _ rfl))
              have w837 : 0 ≤ Xi U76 890 2 ∧ Xi U76 890 2 ≤ 20 := hHU76.c _ _
              exact ⟨hHT78, hFT78, _, rfl, ⟨by omega, by omega⟩, (by first | assumption | omega)⟩
            · refine l_aload_n rfl rfl ?_
              have w838 : Xi T78 876 7 = Xi S 876 7 := (show Xi T78 876 7 = Xi T77 876 7 from w833.x _ _ rfl).trans ( (show Xi T77 876 7 = Xi U76 876 7 from w820.x _ _ rfl).trans ( (show Xi U76 876 7 = Xi U73 876 7 from by rw [eU76]; exact Xi_ne (by omega)).trans ( (show Xi U73 876 7 = Xi U72 876 7 from by rw [eU73]; exact Xi_ne (by omega)).trans ((show Xi U72 876 7 = Xi S 876 7 from by rw [eU72]; exact Xi_ne (by omega))))))
              have w839 : 0 ≤ Xi S 876 7 ∧ Xi S 876 7 ≤ 5125 := hH.c _ _
              have w840 : 0 ≤ Xi T78 890 1 ∧ Xi T78 890 1 ≤ 5126 := hHT78.c _ _
              refine l_callV rfl rfl rfl (t_gr_takeArt hHT78 (by first | assumption | omega) (by first | assumption | omega) _) ?_
              rintro _ T79 ⟨hHT79, w845, z844, rfl, w844, w841, w842, w843⟩
              have hFT79 : FR md_gr_checkOthers S T79 := FR.tr hFT78 w845 rfl
              show Rl _ _ _ _ _ [iv z844] _ _
              refine l_if_eq rfl rfl (by unfold rg; omega) (fun w846 => ?_) (fun w847 => ?_)
              · refine l_iconst rfl ?_
                refine l_ireturn rfl rfl ?_
                have w848 : Xi T79 890 2 = Xi U76 890 2 := (show Xi T79 890 2 = Xi T78 890 2 from w845.x _ _ rfl).trans ( (show Xi T78 890 2 = Xi T77 890 2 from w833.x _ _ rfl).trans ((show Xi T77 890 2 = Xi U76 890 2 from w820.x _ _ rfl)))
                have w849 : 0 ≤ Xi U76 890 2 ∧ Xi U76 890 2 ≤ 20 := hHU76.c _ _
                exact ⟨hHT79, hFT79, _, rfl, ⟨by omega, by omega⟩, (by first | assumption | omega)⟩
              · refine l_aload_n rfl rfl ?_
                have w850 : Xi T79 876 7 = Xi S 876 7 := (show Xi T79 876 7 = Xi T78 876 7 from w845.x _ _ rfl).trans ( (show Xi T78 876 7 = Xi T77 876 7 from w833.x _ _ rfl).trans ( (show Xi T77 876 7 = Xi U76 876 7 from w820.x _ _ rfl).trans ( (show Xi U76 876 7 = Xi U73 876 7 from by rw [eU76]; exact Xi_ne (by omega)).trans ( (show Xi U73 876 7 = Xi U72 876 7 from by rw [eU73]; exact Xi_ne (by omega)).trans ((show Xi U72 876 7 = Xi S 876 7 from by rw [eU72]; exact Xi_ne (by omega)))))))
                have w851 : 0 ≤ Xi S 876 7 ∧ Xi S 876 7 ≤ 5125 := hH.c _ _
                have w852 : 0 ≤ Xi T79 890 1 ∧ Xi T79 890 1 ≤ 5126 := hHT79.c _ _
                refine l_callV rfl rfl rfl (t_gr_takeRun hHT79 (by first | assumption | omega) (by first | assumption | omega) _) ?_
                rintro _ T80 ⟨hHT80, w857, z856, rfl, w856, w853, w854, w855⟩
                have hFT80 : FR md_gr_checkOthers S T80 := FR.tr hFT79 w857 rfl
                show Rl _ _ _ _ _ [iv z856] _ _
                refine l_if_eq rfl rfl (by unfold rg; omega) (fun w858 => ?_) (fun w859 => ?_)
                · refine l_iconst rfl ?_
                  refine l_ireturn rfl rfl ?_
                  have w860 : Xi T80 890 2 = Xi U76 890 2 := (show Xi T80 890 2 = Xi T79 890 2 from w857.x _ _ rfl).trans ( (show Xi T79 890 2 = Xi T78 890 2 from w845.x _ _ rfl).trans ( (show Xi T78 890 2 = Xi T77 890 2 from w833.x _ _ rfl).trans ((show Xi T77 890 2 = Xi U76 890 2 from w820.x _ _ rfl))))
                  have w861 : 0 ≤ Xi U76 890 2 ∧ Xi U76 890 2 ≤ 20 := hHU76.c _ _
                  exact ⟨hHT80, hFT80, _, rfl, ⟨by omega, by omega⟩, (by first | assumption | omega)⟩
                · refine l_aload_n rfl rfl ?_
                  refine l_bipush rfl rfl ?_
                  have w862 : Xi T80 876 7 = Xi S 876 7 := (show Xi T80 876 7 = Xi T79 876 7 from w857.x _ _ rfl).trans ( (show Xi T79 876 7 = Xi T78 876 7 from w845.x _ _ rfl).trans ( (show Xi T78 876 7 = Xi T77 876 7 from w833.x _ _ rfl).trans ( (show Xi T77 876 7 = Xi U76 876 7 from w820.x _ _ rfl).trans ( (show Xi U76 876 7 = Xi U73 876 7 from by rw [eU76]; exact Xi_ne (by omega)).trans ( (show Xi U73 876 7 = Xi U72 876 7 from by rw [eU73]; exact Xi_ne (by omega)).trans ((show Xi U72 876 7 = Xi S 876 7 from by rw [eU72]; exact Xi_ne (by omega))))))))
                  have w863 : 0 ≤ Xi S 876 7 ∧ Xi S 876 7 ≤ 5125 := hH.c _ _
                  have w864 : 0 ≤ Xi T80 890 1 ∧ Xi T80 890 1 ≤ 5126 := hHT80.c _ _
                  refine l_callV rfl rfl rfl (t_gr_take hHT80 17 ⟨by omega, by omega⟩ (by first | assumption | omega) (by first | assumption | omega) (by first | assumption | omega) _) ?_
                  rintro _ T81 ⟨hHT81, w870, z869, rfl, w869, w865, w866, w867, w868⟩
                  have hFT81 : FR md_gr_checkOthers S T81 := FR.tr hFT80 w870 rfl
                  show Rl _ _ _ _ _ [iv z869] _ _
                  refine l_if_eq rfl rfl (by unfold rg; omega) (fun w871 => ?_) (fun w872 => ?_)
                  · refine l_iconst rfl ?_
                    refine l_ireturn rfl rfl ?_
                    have w873 : Xi T81 890 2 = Xi U76 890 2 := (show Xi T81 890 2 = Xi T80 890 2 from w870.x _ _ rfl).trans ( (show Xi T80 890 2 = Xi T79 890 2 from w857.x _ _ rfl).trans ( (show Xi T79 890 2 = Xi T78 890 2 from w845.x _ _ rfl).trans ( (show Xi T78 890 2 = Xi T77 890 2 from w833.x _ _ rfl).trans ((show Xi T77 890 2 = Xi U76 890 2 from w820.x _ _ rfl)))))
                    have w874 : 0 ≤ Xi U76 890 2 ∧ Xi U76 890 2 ≤ 20 := hHU76.c _ _
                    exact ⟨hHT81, hFT81, _, rfl, ⟨by omega, by omega⟩, (by first | assumption | omega)⟩
                  · refine l_aload_n rfl rfl ?_
                    have w875 : Xi T81 876 7 = Xi S 876 7 := (show Xi T81 876 7 = Xi T80 876 7 from w870.x _ _ rfl).trans ( (show Xi T80 876 7 = Xi T79 876 7 from w857.x _ _ rfl).trans ( (show Xi T79 876 7 = Xi T78 876 7 from w845.x _ _ rfl).trans ( (show Xi T78 876 7 = Xi T77 876 7 from w833.x _ _ rfl).trans ( (show Xi T77 876 7 = Xi U76 876 7 from w820.x _ _ rfl).trans ( (show Xi U76 876 7 = Xi U73 876 7 from by rw [eU76]; exact Xi_ne (by omega)).trans ( (show Xi U73 876 7 = Xi U72 876 7 from by rw [eU73]; exact Xi_ne (by omega)).trans ((show Xi U72 876 7 = Xi S 876 7 from by rw [eU72]; exact Xi_ne (by omega)))))))))
                    have w876 : 0 ≤ Xi S 876 7 ∧ Xi S 876 7 ≤ 5125 := hH.c _ _
                    have w877 : 0 ≤ Xi T81 890 1 ∧ Xi T81 890 1 ≤ 5126 := hHT81.c _ _
                    refine l_callV rfl rfl rfl (t_gr_takeRun hHT81 (by first | assumption | omega) (by first | assumption | omega) _) ?_
                    rintro _ T82 ⟨hHT82, w882, z881, rfl, w881, w878, w879, w880⟩
                    have hFT82 : FR md_gr_checkOthers S T82 := FR.tr hFT81 w882 rfl
                    show Rl _ _ _ _ _ [iv z881] _ _
                    refine l_if_eq rfl rfl (by unfold rg; omega) (fun w883 => ?_) (fun w884 => ?_)
                    · refine l_iconst rfl ?_
                      refine l_ireturn rfl rfl ?_
                      have w885 : Xi T82 890 2 = Xi U76 890 2 := (show Xi T82 890 2 = Xi T81 890 2 from w882.x _ _ rfl).trans ( (show Xi T81 890 2 = Xi T80 890 2 from w870.x _ _ rfl).trans ( (show Xi T80 890 2 = Xi T79 890 2 from w857.x _ _ rfl).trans ( (show Xi T79 890 2 = Xi T78 890 2 from w845.x _ _ rfl).trans ( (show Xi T78 890 2 = Xi T77 890 2 from w833.x _ _ rfl).trans ((show Xi T77 890 2 = Xi U76 890 2 from w820.x _ _ rfl))))))
                      have w886 : 0 ≤ Xi U76 890 2 ∧ Xi U76 890 2 ≤ 20 := hHU76.c _ _
                      exact ⟨hHT82, hFT82, _, rfl, ⟨by omega, by omega⟩, (by first | assumption | omega)⟩
                    · refine l_aload_n rfl rfl ?_
                      refine l_bipush rfl rfl ?_
                      have w887 : Xi T82 876 7 = Xi S 876 7 := (show Xi T82 876 7 = Xi T81 876 7 from w882.x _ _ rfl).trans ( (show Xi T81 876 7 = Xi T80 876 7 from w870.x _ _ rfl).trans ( (show Xi T80 876 7 = Xi T79 876 7 from w857.x _ _ rfl).trans ( (show Xi T79 876 7 = Xi T78 876 7 from w845.x _ _ rfl).trans ( (show Xi T78 876 7 = Xi T77 876 7 from w833.x _ _ rfl).trans ( (show Xi T77 876 7 = Xi U76 876 7 from w820.x _ _ rfl).trans ( (show Xi U76 876 7 = Xi U73 876 7 from by rw [eU76]; exact Xi_ne (by omega)).trans ( (show Xi U73 876 7 = Xi U72 876 7 from by rw [eU73]; exact Xi_ne (by omega)).trans ((show Xi U72 876 7 = Xi S 876 7 from by rw [eU72]; exact Xi_ne (by omega))))))))))
                      have w888 : 0 ≤ Xi S 876 7 ∧ Xi S 876 7 ≤ 5125 := hH.c _ _
                      have w889 : 0 ≤ Xi T82 890 1 ∧ Xi T82 890 1 ≤ 5126 := hHT82.c _ _
                      refine l_callV rfl rfl rfl (t_gr_take hHT82 103 ⟨by omega, by omega⟩ (by first | assumption | omega) (by first | assumption | omega) (by first | assumption | omega) _) ?_
                      rintro _ T83 ⟨hHT83, w895, z894, rfl, w894, w890, w891, w892, w893⟩
                      have hFT83 : FR md_gr_checkOthers S T83 := FR.tr hFT82 w895 rfl
                      show Rl _ _ _ _ _ [iv z894] _ _
                      refine l_if_eq rfl rfl (by unfold rg; omega) (fun w896 => ?_) (fun w897 => ?_)
                      · refine l_iconst rfl ?_
                        refine l_ireturn rfl rfl ?_
                        have w898 : Xi T83 890 2 = Xi U76 890 2 := (show Xi T83 890 2 = Xi T82 890 2 from w895.x _ _ rfl).trans ( (show Xi T82 890 2 = Xi T81 890 2 from w882.x _ _ rfl).trans ( (show Xi T81 890 2 = Xi T80 890 2 from w870.x _ _ rfl).trans ( (show Xi T80 890 2 = Xi T79 890 2 from w857.x _ _ rfl).trans ( (show Xi T79 890 2 = Xi T78 890 2 from w845.x _ _ rfl).trans ( (show Xi T78 890 2 = Xi T77 890 2 from w833.x _ _ rfl).trans ((show Xi T77 890 2 = Xi U76 890 2 from w820.x _ _ rfl)))))))
                        have w899 : 0 ≤ Xi U76 890 2 ∧ Xi U76 890 2 ≤ 20 := hHU76.c _ _
                        exact ⟨hHT83, hFT83, _, rfl, ⟨by omega, by omega⟩, (by first | assumption | omega)⟩
                      · refine l_iconst rfl ?_
                        refine l_goto rfl rfl ?_
                        refine l_ireturn rfl rfl ?_
                        have w900 : Xi T83 890 2 = Xi U76 890 2 := (show Xi T83 890 2 = Xi T82 890 2 from w895.x _ _ rfl).trans ( (show Xi T82 890 2 = Xi T81 890 2 from w882.x _ _ rfl).trans ( (show Xi T81 890 2 = Xi T80 890 2 from w870.x _ _ rfl).trans ( (show Xi T80 890 2 = Xi T79 890 2 from w857.x _ _ rfl).trans ( (show Xi T79 890 2 = Xi T78 890 2 from w845.x _ _ rfl).trans ( (show Xi T78 890 2 = Xi T77 890 2 from w833.x _ _ rfl).trans ((show Xi T77 890 2 = Xi U76 890 2 from w820.x _ _ rfl)))))))
                        have w901 : 0 ≤ Xi U76 890 2 ∧ Xi U76 890 2 ≤ 20 := hHU76.c _ _
                        exact ⟨hHT83, hFT83, _, rfl, ⟨by omega, by omega⟩, (by first | assumption | omega)⟩
        refine And.intro (fun w902 => ⟨_, rfl, ?_⟩) (fun w903 => ?_)
        · refine l_aload_n rfl rfl ?_
          refine l_bipush rfl rfl ?_
          refine l_pfi rfl rfl rfl rfl ?_
          obtain ⟨U84, eU84⟩ : ∃ T : sS, T = uI U73 890 2 (Int32.ofInt 18) := ⟨_, rfl⟩
          rw [← eU84]
          have hHU84 : HI U84 := by rw [eU84]; exact HI_w hHU73 (show 0 ≤ 18 by omega) (show 18 ≤ 20 by omega)
          have hFU84 : FR md_gr_checkOthers S U84 := by rw [eU84]; exact FR.wI hFU73 (mdf_i (r := (890, 891, 2, 3)) (List.mem_of_getElem? (i := 1) rfl) (inR_i (by omega) (by omega) (by omega) (by omega)))
          have w904 : Xi U84 890 2 = 18 := by rw [eU84]; exact Xi_same (by unfold rg; omega)
          have hso335 : SAY U84 (Xi U84 890 1) := SAY_sort eU84 (by assumption) (by decide)
          refine l_aload_n rfl rfl ?_
          have w905 : Xi U84 876 7 = Xi S 876 7 := (show Xi U84 876 7 = Xi U73 876 7 from by rw [eU84]; exact Xi_ne (by omega)).trans ( (show Xi U73 876 7 = Xi U72 876 7 from by rw [eU73]; exact Xi_ne (by omega)).trans ((show Xi U72 876 7 = Xi S 876 7 from by rw [eU72]; exact Xi_ne (by omega))))
          have w906 : 0 ≤ Xi S 876 7 ∧ Xi S 876 7 ≤ 5125 := hH.c _ _
          have w907 : Xi U84 890 1 = Xi U72 890 1 := (show Xi U84 890 1 = Xi U73 890 1 from by rw [eU84]; exact Xi_ne (by omega)).trans ((show Xi U73 890 1 = Xi U72 890 1 from by rw [eU73]; exact Xi_ne (by omega)))
          have w908 : 0 ≤ Xi U72 890 1 ∧ Xi U72 890 1 ≤ 5126 := hHU72.c _ _
          refine l_callV rfl rfl rfl (t_gr_takeName hHU84 (by first | assumption | omega) (by first | assumption | omega) _) ?_
          rintro _ T85 ⟨hHT85, w912, z911, rfl, w911, w909, w910⟩
          have hFT85 : FR md_gr_checkOthers S T85 := FR.tr hFU84 w912 rfl
          show Rl _ _ _ _ _ [iv z911] _ _
          refine l_if_eq rfl rfl (by unfold rg; omega) (fun w913 => ?_) (fun w914 => ?_)
          · refine l_iconst rfl ?_
            refine l_ireturn rfl rfl ?_
            have w915 : Xi T85 890 2 = Xi U84 890 2 := (show Xi T85 890 2 = Xi U84 890 2 from w912.x _ _ rfl)
            have w916 : 0 ≤ Xi U84 890 2 ∧ Xi U84 890 2 ≤ 20 := hHU84.c _ _
            exact ⟨hHT85, hFT85, _, rfl, ⟨by omega, by omega⟩, (by first | assumption | omega)⟩
          · refine l_aload_n rfl rfl ?_
            refine l_bipush rfl rfl ?_
            have w917 : Xi T85 876 7 = Xi S 876 7 := (show Xi T85 876 7 = Xi U84 876 7 from w912.x _ _ rfl).trans ( (show Xi U84 876 7 = Xi U73 876 7 from by rw [eU84]; exact Xi_ne (by omega)).trans ( (show Xi U73 876 7 = Xi U72 876 7 from by rw [eU73]; exact Xi_ne (by omega)).trans ((show Xi U72 876 7 = Xi S 876 7 from by rw [eU72]; exact Xi_ne (by omega)))))
            have w918 : 0 ≤ Xi S 876 7 ∧ Xi S 876 7 ≤ 5125 := hH.c _ _
            have w919 : 0 ≤ Xi T85 890 1 ∧ Xi T85 890 1 ≤ 5126 := hHT85.c _ _
            refine l_callV rfl rfl rfl (t_gr_take hHT85 13 ⟨by omega, by omega⟩ (by first | assumption | omega) (by first | assumption | omega) (by first | assumption | omega) _) ?_
            rintro _ T86 ⟨hHT86, w925, z924, rfl, w924, w920, w921, w922, w923⟩
            have hFT86 : FR md_gr_checkOthers S T86 := FR.tr hFT85 w925 rfl
            show Rl _ _ _ _ _ [iv z924] _ _
            refine l_if_eq rfl rfl (by unfold rg; omega) (fun w926 => ?_) (fun w927 => ?_)
            · refine l_iconst rfl ?_
              refine l_ireturn rfl rfl ?_
              have w928 : Xi T86 890 2 = Xi U84 890 2 := (show Xi T86 890 2 = Xi T85 890 2 from w925.x _ _ rfl).trans ((show Xi T85 890 2 = Xi U84 890 2 from w912.x _ _ rfl))
              have w929 : 0 ≤ Xi U84 890 2 ∧ Xi U84 890 2 ≤ 20 := hHU84.c _ _
              exact ⟨hHT86, hFT86, _, rfl, ⟨by omega, by omega⟩, (by first | assumption | omega)⟩
            · refine l_aload_n rfl rfl ?_
              refine l_bipush rfl rfl ?_
              have w930 : Xi T86 876 7 = Xi S 876 7 := (show Xi T86 876 7 = Xi T85 876 7 from w925.x _ _ rfl).trans ( (show Xi T85 876 7 = Xi U84 876 7 from w912.x _ _ rfl).trans ( (show Xi U84 876 7 = Xi U73 876 7 from by rw [eU84]; exact Xi_ne (by omega)).trans ( (show Xi U73 876 7 = Xi U72 876 7 from by rw [eU73]; exact Xi_ne (by omega)).trans ((show Xi U72 876 7 = Xi S 876 7 from by rw [eU72]; exact Xi_ne (by omega))))))
              have w931 : 0 ≤ Xi S 876 7 ∧ Xi S 876 7 ≤ 5125 := hH.c _ _
              have w932 : 0 ≤ Xi T86 890 1 ∧ Xi T86 890 1 ≤ 5126 := hHT86.c _ _
              refine l_callV rfl rfl rfl (t_gr_take hHT86 14 ⟨by omega, by omega⟩ (by first | assumption | omega) (by first | assumption | omega) (by first | assumption | omega) _) ?_
              rintro _ T87 ⟨hHT87, w938, z937, rfl, w937, w933, w934, w935, w936⟩
              have hFT87 : FR md_gr_checkOthers S T87 := FR.tr hFT86 w938 rfl
              show Rl _ _ _ _ _ [iv z937] _ _
              refine l_if_eq rfl rfl (by unfold rg; omega) (fun w939 => ?_) (fun w940 => ?_)
              · refine l_iconst rfl ?_
                refine l_ireturn rfl rfl ?_
                have w941 : Xi T87 890 2 = Xi U84 890 2 := (show Xi T87 890 2 = Xi T86 890 2 from w938.x _ _ rfl).trans ( (show Xi T86 890 2 = Xi T85 890 2 from w925.x _ _ rfl).trans ((show Xi T85 890 2 = Xi U84 890 2 from w912.x _ _ rfl)))
                have w942 : 0 ≤ Xi U84 890 2 ∧ Xi U84 890 2 ≤ 20 := hHU84.c _ _
                exact ⟨hHT87, hFT87, _, rfl, ⟨by omega, by omega⟩, (by first | assumption | omega)⟩
              · refine l_aload_n rfl rfl ?_
                have w943 : Xi T87 876 7 = Xi S 876 7 := (show Xi T87 876 7 = Xi T86 876 7 from w938.x _ _ rfl).trans ( (show Xi T86 876 7 = Xi T85 876 7 from w925.x _ _ rfl).trans ( (show Xi T85 876 7 = Xi U84 876 7 from w912.x _ _ rfl).trans ( (show Xi U84 876 7 = Xi U73 876 7 from by rw [eU84]; exact Xi_ne (by omega)).trans ( (show Xi U73 876 7 = Xi U72 876 7 from by rw [eU73]; exact Xi_ne (by omega)).trans ((show Xi U72 876 7 = Xi S 876 7 from by rw [eU72]; exact Xi_ne (by omega)))))))
                have w944 : 0 ≤ Xi S 876 7 ∧ Xi S 876 7 ≤ 5125 := hH.c _ _
                have w945 : 0 ≤ Xi T87 890 1 ∧ Xi T87 890 1 ≤ 5126 := hHT87.c _ _
                refine l_callV rfl rfl rfl (t_gr_takeRun hHT87 (by first | assumption | omega) (by first | assumption | omega) _) ?_
                rintro _ T88 ⟨hHT88, w950, z949, rfl, w949, w946, w947, w948⟩
                have hFT88 : FR md_gr_checkOthers S T88 := FR.tr hFT87 w950 rfl
                show Rl _ _ _ _ _ [iv z949] _ _
                refine l_if_eq rfl rfl (by unfold rg; omega) (fun w951 => ?_) (fun w952 => ?_)
                · refine l_iconst rfl ?_
                  refine l_ireturn rfl rfl ?_
                  have w953 : Xi T88 890 2 = Xi U84 890 2 := (show Xi T88 890 2 = Xi T87 890 2 from w950.x _ _ rfl).trans ( (show Xi T87 890 2 = Xi T86 890 2 from w938.x _ _ rfl).trans ( (show Xi T86 890 2 = Xi T85 890 2 from w925.x _ _ rfl).trans ((show Xi T85 890 2 = Xi U84 890 2 from w912.x _ _ rfl))))
                  have w954 : 0 ≤ Xi U84 890 2 ∧ Xi U84 890 2 ≤ 20 := hHU84.c _ _
                  exact ⟨hHT88, hFT88, _, rfl, ⟨by omega, by omega⟩, (by first | assumption | omega)⟩
                · refine l_aload_n rfl rfl ?_
                  refine l_bipush rfl rfl ?_
                  have w955 : Xi T88 876 7 = Xi S 876 7 := (show Xi T88 876 7 = Xi T87 876 7 from w950.x _ _ rfl).trans ( (show Xi T87 876 7 = Xi T86 876 7 from w938.x _ _ rfl).trans ( (show Xi T86 876 7 = Xi T85 876 7 from w925.x _ _ rfl).trans ( (show Xi T85 876 7 = Xi U84 876 7 from w912.x _ _ rfl).trans ( (show Xi U84 876 7 = Xi U73 876 7 from by rw [eU84]; exact Xi_ne (by omega)).trans ( (show Xi U73 876 7 = Xi U72 876 7 from by rw [eU73]; exact Xi_ne (by omega)).trans ((show Xi U72 876 7 = Xi S 876 7 from by rw [eU72]; exact Xi_ne (by omega))))))))
                  have w956 : 0 ≤ Xi S 876 7 ∧ Xi S 876 7 ≤ 5125 := hH.c _ _
                  have w957 : 0 ≤ Xi T88 890 1 ∧ Xi T88 890 1 ≤ 5126 := hHT88.c _ _
                  refine l_callV rfl rfl rfl (t_gr_take hHT88 15 ⟨by omega, by omega⟩ (by first | assumption | omega) (by first | assumption | omega) (by first | assumption | omega) _) ?_
                  rintro _ T89 ⟨hHT89, w963, z962, rfl, w962, w958, w959, w960, w961⟩
                  have hFT89 : FR md_gr_checkOthers S T89 := FR.tr hFT88 w963 rfl
                  show Rl _ _ _ _ _ [iv z962] _ _
                  refine l_if_eq rfl rfl (by unfold rg; omega) (fun w964 => ?_) (fun w965 => ?_)
                  · refine l_iconst rfl ?_
                    refine l_ireturn rfl rfl ?_
                    have w966 : Xi T89 890 2 = Xi U84 890 2 := (show Xi T89 890 2 = Xi T88 890 2 from w963.x _ _ rfl).trans ( (show Xi T88 890 2 = Xi T87 890 2 from w950.x _ _ rfl).trans ( (show Xi T87 890 2 = Xi T86 890 2 from w938.x _ _ rfl).trans ( (show Xi T86 890 2 = Xi T85 890 2 from w925.x _ _ rfl).trans ((show Xi T85 890 2 = Xi U84 890 2 from w912.x _ _ rfl)))))
                    have w967 : 0 ≤ Xi U84 890 2 ∧ Xi U84 890 2 ≤ 20 := hHU84.c _ _
                    exact ⟨hHT89, hFT89, _, rfl, ⟨by omega, by omega⟩, (by first | assumption | omega)⟩
                  · refine l_aload_n rfl rfl ?_
                    have w968 : Xi T89 876 7 = Xi S 876 7 := (show Xi T89 876 7 = Xi T88 876 7 from w963.x _ _ rfl).trans ( (show Xi T88 876 7 = Xi T87 876 7 from w950.x _ _ rfl).trans ( (show Xi T87 876 7 = Xi T86 876 7 from w938.x _ _ rfl).trans ( (show Xi T86 876 7 = Xi T85 876 7 from w925.x _ _ rfl).trans ( (show Xi T85 876 7 = Xi U84 876 7 from w912.x _ _ rfl).trans ( (show Xi U84 876 7 = Xi U73 876 7 from by rw [eU84]; exact Xi_ne (by omega)).trans ( (show Xi U73 876 7 = Xi U72 876 7 from by rw [eU73]; exact Xi_ne (by omega)).trans ((show Xi U72 876 7 = Xi S 876 7 from by rw [eU72]; exact Xi_ne (by omega)))))))))
                    have w969 : 0 ≤ Xi S 876 7 ∧ Xi S 876 7 ≤ 5125 := hH.c _ _
                    have w970 : 0 ≤ Xi T89 890 1 ∧ Xi T89 890 1 ≤ 5126 := hHT89.c _ _
                    refine l_callV rfl rfl rfl (t_gr_takeRun hHT89 (by first | assumption | omega) (by first | assumption | omega) _) ?_
                    rintro _ T90 ⟨hHT90, w975, z974, rfl, w974, w971, w972, w973⟩
                    have hFT90 : FR md_gr_checkOthers S T90 := FR.tr hFT89 w975 rfl
                    show Rl _ _ _ _ _ [iv z974] _ _
                    refine l_if_eq rfl rfl (by unfold rg; omega) (fun w976 => ?_) (fun w977 => ?_)
                    · refine l_iconst rfl ?_
                      refine l_ireturn rfl rfl ?_
                      have w978 : Xi T90 890 2 = Xi U84 890 2 := (show Xi T90 890 2 = Xi T89 890 2 from w975.x _ _ rfl).trans ( (show Xi T89 890 2 = Xi T88 890 2 from w963.x _ _ rfl).trans ( (show Xi T88 890 2 = Xi T87 890 2 from w950.x _ _ rfl).trans ( (show Xi T87 890 2 = Xi T86 890 2 from w938.x _ _ rfl).trans ( (show Xi T86 890 2 = Xi T85 890 2 from w925.x _ _ rfl).trans ((show Xi T85 890 2 = Xi U84 890 2 from w912.x _ _ rfl))))))
                      have w979 : 0 ≤ Xi U84 890 2 ∧ Xi U84 890 2 ≤ 20 := hHU84.c _ _
                      exact ⟨hHT90, hFT90, _, rfl, ⟨by omega, by omega⟩, (by first | assumption | omega)⟩
                    · refine l_aload_n rfl rfl ?_
                      refine l_bipush rfl rfl ?_
                      have w980 : Xi T90 876 7 = Xi S 876 7 := (show Xi T90 876 7 = Xi T89 876 7 from w975.x _ _ rfl).trans ( (show Xi T89 876 7 = Xi T88 876 7 from w963.x _ _ rfl).trans ( (show Xi T88 876 7 = Xi T87 876 7 from w950.x _ _ rfl).trans ( (show Xi T87 876 7 = Xi T86 876 7 from w938.x _ _ rfl).trans ( (show Xi T86 876 7 = Xi T85 876 7 from w925.x _ _ rfl).trans ( (show Xi T85 876 7 = Xi U84 876 7 from w912.x _ _ rfl).trans ( (show Xi U84 876 7 = Xi U73 876 7 from by rw [eU84]; exact Xi_ne (by omega)).trans ( (show Xi U73 876 7 = Xi U72 876 7 from by rw [eU73]; exact Xi_ne (by omega)).trans ((show Xi U72 876 7 = Xi S 876 7 from by rw [eU72]; exact Xi_ne (by omega))))))))))
                      have w981 : 0 ≤ Xi S 876 7 ∧ Xi S 876 7 ≤ 5125 := hH.c _ _
                      have w982 : 0 ≤ Xi T90 890 1 ∧ Xi T90 890 1 ≤ 5126 := hHT90.c _ _
                      refine l_callV rfl rfl rfl (t_gr_take hHT90 103 ⟨by omega, by omega⟩ (by first | assumption | omega) (by first | assumption | omega) (by first | assumption | omega) _) ?_
                      rintro _ T91 ⟨hHT91, w988, z987, rfl, w987, w983, w984, w985, w986⟩
                      have hFT91 : FR md_gr_checkOthers S T91 := FR.tr hFT90 w988 rfl
                      show Rl _ _ _ _ _ [iv z987] _ _
                      refine l_if_eq rfl rfl (by unfold rg; omega) (fun w989 => ?_) (fun w990 => ?_)
                      · refine l_iconst rfl ?_
                        refine l_ireturn rfl rfl ?_
                        have w991 : Xi T91 890 2 = Xi U84 890 2 := (show Xi T91 890 2 = Xi T90 890 2 from w988.x _ _ rfl).trans ( (show Xi T90 890 2 = Xi T89 890 2 from w975.x _ _ rfl).trans ( (show Xi T89 890 2 = Xi T88 890 2 from w963.x _ _ rfl).trans ( (show Xi T88 890 2 = Xi T87 890 2 from w950.x _ _ rfl).trans ( (show Xi T87 890 2 = Xi T86 890 2 from w938.x _ _ rfl).trans ( (show Xi T86 890 2 = Xi T85 890 2 from w925.x _ _ rfl).trans ((show Xi T85 890 2 = Xi U84 890 2 from w912.x _ _ rfl)))))))
                        have w992 : 0 ≤ Xi U84 890 2 ∧ Xi U84 890 2 ≤ 20 := hHU84.c _ _
                        exact ⟨hHT91, hFT91, _, rfl, ⟨by omega, by omega⟩, (by first | assumption | omega)⟩
                      · refine l_iconst rfl ?_
                        refine l_goto rfl rfl ?_
                        refine l_ireturn rfl rfl ?_
                        have w993 : Xi T91 890 2 = Xi U84 890 2 := (show Xi T91 890 2 = Xi T90 890 2 from w988.x _ _ rfl).trans ( (show Xi T90 890 2 = Xi T89 890 2 from w975.x _ _ rfl).trans ( (show Xi T89 890 2 = Xi T88 890 2 from w963.x _ _ rfl).trans ( (show Xi T88 890 2 = Xi T87 890 2 from w950.x _ _ rfl).trans ( (show Xi T87 890 2 = Xi T86 890 2 from w938.x _ _ rfl).trans ( (show Xi T86 890 2 = Xi T85 890 2 from w925.x _ _ rfl).trans ((show Xi T85 890 2 = Xi U84 890 2 from w912.x _ _ rfl)))))))
                        have w994 : 0 ≤ Xi U84 890 2 ∧ Xi U84 890 2 ≤ 20 := hHU84.c _ _
                        exact ⟨hHT91, hFT91, _, rfl, ⟨by omega, by omega⟩, (by first | assumption | omega)⟩
        refine And.intro (fun w995 => ⟨_, rfl, ?_⟩) (fun w996 => ?_)
        · refine l_aload_n rfl rfl ?_
          refine l_bipush rfl rfl ?_
          refine l_pfi rfl rfl rfl rfl ?_
          obtain ⟨U92, eU92⟩ : ∃ T : sS, T = uI U73 890 2 (Int32.ofInt 19) := ⟨_, rfl⟩
          rw [← eU92]
          have hHU92 : HI U92 := by rw [eU92]; exact HI_w hHU73 (show 0 ≤ 19 by omega) (show 19 ≤ 20 by omega)
          have hFU92 : FR md_gr_checkOthers S U92 := by rw [eU92]; exact FR.wI hFU73 (mdf_i (r := (890, 891, 2, 3)) (List.mem_of_getElem? (i := 1) rfl) (inR_i (by omega) (by omega) (by omega) (by omega)))
          have w997 : Xi U92 890 2 = 19 := by rw [eU92]; exact Xi_same (by unfold rg; omega)
          have hso404 : SAY U92 (Xi U92 890 1) := SAY_sort eU92 (by assumption) (by decide)
          refine l_aload_n rfl rfl ?_
          have w998 : Xi U92 876 7 = Xi S 876 7 := (show Xi U92 876 7 = Xi U73 876 7 from by rw [eU92]; exact Xi_ne (by omega)).trans ( (show Xi U73 876 7 = Xi U72 876 7 from by rw [eU73]; exact Xi_ne (by omega)).trans ((show Xi U72 876 7 = Xi S 876 7 from by rw [eU72]; exact Xi_ne (by omega))))
          have w999 : 0 ≤ Xi S 876 7 ∧ Xi S 876 7 ≤ 5125 := hH.c _ _
          have w1000 : Xi U92 890 1 = Xi U72 890 1 := (show Xi U92 890 1 = Xi U73 890 1 from by rw [eU92]; exact Xi_ne (by omega)).trans ((show Xi U73 890 1 = Xi U72 890 1 from by rw [eU73]; exact Xi_ne (by omega)))
          have w1001 : 0 ≤ Xi U72 890 1 ∧ Xi U72 890 1 ≤ 5126 := hHU72.c _ _
          refine l_callV rfl rfl rfl (t_gr_takeName hHU92 (by first | assumption | omega) (by first | assumption | omega) _) ?_
          rintro _ T93 ⟨hHT93, w1005, z1004, rfl, w1004, w1002, w1003⟩
          have hFT93 : FR md_gr_checkOthers S T93 := FR.tr hFU92 w1005 rfl
          show Rl _ _ _ _ _ [iv z1004] _ _
          refine l_if_eq rfl rfl (by unfold rg; omega) (fun w1006 => ?_) (fun w1007 => ?_)
          · refine l_iconst rfl ?_
            refine l_ireturn rfl rfl ?_
            have w1008 : Xi T93 890 2 = Xi U92 890 2 := (show Xi T93 890 2 = Xi U92 890 2 from w1005.x _ _ rfl)
            have w1009 : 0 ≤ Xi U92 890 2 ∧ Xi U92 890 2 ≤ 20 := hHU92.c _ _
            exact ⟨hHT93, hFT93, _, rfl, ⟨by omega, by omega⟩, (by first | assumption | omega)⟩
          · refine l_aload_n rfl rfl ?_
            refine l_bipush rfl rfl ?_
            have w1010 : Xi T93 876 7 = Xi S 876 7 := (show Xi T93 876 7 = Xi U92 876 7 from w1005.x _ _ rfl).trans ( (show Xi U92 876 7 = Xi U73 876 7 from by rw [eU92]; exact Xi_ne (by omega)).trans ( (show Xi U73 876 7 = Xi U72 876 7 from by rw [eU73]; exact Xi_ne (by omega)).trans ((show Xi U72 876 7 = Xi S 876 7 from by rw [eU72]; exact Xi_ne (by omega)))))
            have w1011 : 0 ≤ Xi S 876 7 ∧ Xi S 876 7 ≤ 5125 := hH.c _ _
            have w1012 : 0 ≤ Xi T93 890 1 ∧ Xi T93 890 1 ≤ 5126 := hHT93.c _ _
            refine l_callV rfl rfl rfl (t_gr_take hHT93 21 ⟨by omega, by omega⟩ (by first | assumption | omega) (by first | assumption | omega) (by first | assumption | omega) _) ?_
            rintro _ T94 ⟨hHT94, w1018, z1017, rfl, w1017, w1013, w1014, w1015, w1016⟩
            have hFT94 : FR md_gr_checkOthers S T94 := FR.tr hFT93 w1018 rfl
            show Rl _ _ _ _ _ [iv z1017] _ _
            refine l_if_eq rfl rfl (by unfold rg; omega) (fun w1019 => ?_) (fun w1020 => ?_)
            · refine l_iconst rfl ?_
              refine l_ireturn rfl rfl ?_
              have w1021 : Xi T94 890 2 = Xi U92 890 2 := (show Xi T94 890 2 = Xi T93 890 2 from w1018.x _ _ rfl).trans ((show Xi T93 890 2 = Xi U92 890 2 from w1005.x _ _ rfl))
              have w1022 : 0 ≤ Xi U92 890 2 ∧ Xi U92 890 2 ≤ 20 := hHU92.c _ _
              exact ⟨hHT94, hFT94, _, rfl, ⟨by omega, by omega⟩, (by first | assumption | omega)⟩
            · refine l_aload_n rfl rfl ?_
              have w1023 : Xi T94 876 7 = Xi S 876 7 := (show Xi T94 876 7 = Xi T93 876 7 from w1018.x _ _ rfl).trans ( (show Xi T93 876 7 = Xi U92 876 7 from w1005.x _ _ rfl).trans ( (show Xi U92 876 7 = Xi U73 876 7 from by rw [eU92]; exact Xi_ne (by omega)).trans ( (show Xi U73 876 7 = Xi U72 876 7 from by rw [eU73]; exact Xi_ne (by omega)).trans ((show Xi U72 876 7 = Xi S 876 7 from by rw [eU72]; exact Xi_ne (by omega))))))
              have w1024 : 0 ≤ Xi S 876 7 ∧ Xi S 876 7 ≤ 5125 := hH.c _ _
              have w1025 : 0 ≤ Xi T94 890 1 ∧ Xi T94 890 1 ≤ 5126 := hHT94.c _ _
              refine l_callV rfl rfl rfl (t_gr_takeHowMany hHT94 (by first | assumption | omega) (by first | assumption | omega) _) ?_
              rintro _ T95 ⟨hHT95, w1029, z1028, rfl, w1028, w1026, w1027⟩
              have hFT95 : FR md_gr_checkOthers S T95 := FR.tr hFT94 w1029 rfl
              show Rl _ _ _ _ _ [iv z1028] _ _
              refine l_if_eq rfl rfl (by unfold rg; omega) (fun w1030 => ?_) (fun w1031 => ?_)
              · refine l_iconst rfl ?_
                refine l_ireturn rfl rfl ?_
                have w1032 : Xi T95 890 2 = Xi U92 890 2 := (show Xi T95 890 2 = Xi T94 890 2 from w1029.x _ _ rfl).trans ( (show Xi T94 890 2 = Xi T93 890 2 from w1018.x _ _ rfl).trans ((show Xi T93 890 2 = Xi U92 890 2 from w1005.x _ _ rfl)))
                have w1033 : 0 ≤ Xi U92 890 2 ∧ Xi U92 890 2 ≤ 20 := hHU92.c _ _
                exact ⟨hHT95, hFT95, _, rfl, ⟨by omega, by omega⟩, (by first | assumption | omega)⟩
              · refine l_aload_n rfl rfl ?_
                have w1034 : Xi T95 876 7 = Xi S 876 7 := (show Xi T95 876 7 = Xi T94 876 7 from w1029.x _ _ rfl).trans ( (show Xi T94 876 7 = Xi T93 876 7 from w1018.x _ _ rfl).trans ( (show Xi T93 876 7 = Xi U92 876 7 from w1005.x _ _ rfl).trans ( (show Xi U92 876 7 = Xi U73 876 7 from by rw [eU92]; exact Xi_ne (by omega)).trans ( (show Xi U73 876 7 = Xi U72 876 7 from by rw [eU73]; exact Xi_ne (by omega)).trans ((show Xi U72 876 7 = Xi S 876 7 from by rw [eU72]; exact Xi_ne (by omega)))))))
                have w1035 : 0 ≤ Xi S 876 7 ∧ Xi S 876 7 ≤ 5125 := hH.c _ _
                have w1036 : 0 ≤ Xi T95 890 1 ∧ Xi T95 890 1 ≤ 5126 := hHT95.c _ _
                refine l_callV rfl rfl rfl (t_gr_takeRun hHT95 (by first | assumption | omega) (by first | assumption | omega) _) ?_
                rintro _ T96 ⟨hHT96, w1041, z1040, rfl, w1040, w1037, w1038, w1039⟩
                have hFT96 : FR md_gr_checkOthers S T96 := FR.tr hFT95 w1041 rfl
                show Rl _ _ _ _ _ [iv z1040] _ _
                refine l_if_eq rfl rfl (by unfold rg; omega) (fun w1042 => ?_) (fun w1043 => ?_)
                · refine l_iconst rfl ?_
                  refine l_ireturn rfl rfl ?_
                  have w1044 : Xi T96 890 2 = Xi U92 890 2 := (show Xi T96 890 2 = Xi T95 890 2 from w1041.x _ _ rfl).trans ( (show Xi T95 890 2 = Xi T94 890 2 from w1029.x _ _ rfl).trans ( (show Xi T94 890 2 = Xi T93 890 2 from w1018.x _ _ rfl).trans ((show Xi T93 890 2 = Xi U92 890 2 from w1005.x _ _ rfl))))
                  have w1045 : 0 ≤ Xi U92 890 2 ∧ Xi U92 890 2 ≤ 20 := hHU92.c _ _
                  exact ⟨hHT96, hFT96, _, rfl, ⟨by omega, by omega⟩, (by first | assumption | omega)⟩
                · refine l_aload_n rfl rfl ?_
                  refine l_bipush rfl rfl ?_
                  have w1046 : Xi T96 876 7 = Xi S 876 7 := (show Xi T96 876 7 = Xi T95 876 7 from w1041.x _ _ rfl).trans ( (show Xi T95 876 7 = Xi T94 876 7 from w1029.x _ _ rfl).trans ( (show Xi T94 876 7 = Xi T93 876 7 from w1018.x _ _ rfl).trans ( (show Xi T93 876 7 = Xi U92 876 7 from w1005.x _ _ rfl).trans ( (show Xi U92 876 7 = Xi U73 876 7 from by rw [eU92]; exact Xi_ne (by omega)).trans ( (show Xi U73 876 7 = Xi U72 876 7 from by rw [eU73]; exact Xi_ne (by omega)).trans ((show Xi U72 876 7 = Xi S 876 7 from by rw [eU72]; exact Xi_ne (by omega))))))))
                  have w1047 : 0 ≤ Xi S 876 7 ∧ Xi S 876 7 ≤ 5125 := hH.c _ _
                  have w1048 : 0 ≤ Xi T96 890 1 ∧ Xi T96 890 1 ≤ 5126 := hHT96.c _ _
                  refine l_callV rfl rfl rfl (t_gr_take hHT96 11 ⟨by omega, by omega⟩ (by first | assumption | omega) (by first | assumption | omega) (by first | assumption | omega) _) ?_
                  rintro _ T97 ⟨hHT97, w1054, z1053, rfl, w1053, w1049, w1050, w1051, w1052⟩
                  have hFT97 : FR md_gr_checkOthers S T97 := FR.tr hFT96 w1054 rfl
                  show Rl _ _ _ _ _ [iv z1053] _ _
                  refine l_if_eq rfl rfl (by unfold rg; omega) (fun w1055 => ?_) (fun w1056 => ?_)
                  · refine l_iconst rfl ?_
                    refine l_ireturn rfl rfl ?_
                    have w1057 : Xi T97 890 2 = Xi U92 890 2 := (show Xi T97 890 2 = Xi T96 890 2 from w1054.x _ _ rfl).trans ( (show Xi T96 890 2 = Xi T95 890 2 from w1041.x _ _ rfl).trans ( (show Xi T95 890 2 = Xi T94 890 2 from w1029.x _ _ rfl).trans ( (show Xi T94 890 2 = Xi T93 890 2 from w1018.x _ _ rfl).trans ((show Xi T93 890 2 = Xi U92 890 2 from w1005.x _ _ rfl)))))
                    have w1058 : 0 ≤ Xi U92 890 2 ∧ Xi U92 890 2 ≤ 20 := hHU92.c _ _
                    exact ⟨hHT97, hFT97, _, rfl, ⟨by omega, by omega⟩, (by first | assumption | omega)⟩
                  · refine l_aload_n rfl rfl ?_
                    have w1059 : Xi T97 876 7 = Xi S 876 7 := (show Xi T97 876 7 = Xi T96 876 7 from w1054.x _ _ rfl).trans ( (show Xi T96 876 7 = Xi T95 876 7 from w1041.x _ _ rfl).trans ( (show Xi T95 876 7 = Xi T94 876 7 from w1029.x _ _ rfl).trans ( (show Xi T94 876 7 = Xi T93 876 7 from w1018.x _ _ rfl).trans ( (show Xi T93 876 7 = Xi U92 876 7 from w1005.x _ _ rfl).trans ( (show Xi U92 876 7 = Xi U73 876 7 from by rw [eU92]; exact Xi_ne (by omega)).trans ( (show Xi U73 876 7 = Xi U72 876 7 from by rw [eU73]; exact Xi_ne (by omega)).trans ((show Xi U72 876 7 = Xi S 876 7 from by rw [eU72]; exact Xi_ne (by omega)))))))))
                    have w1060 : 0 ≤ Xi S 876 7 ∧ Xi S 876 7 ≤ 5125 := hH.c _ _
                    have w1061 : 0 ≤ Xi T97 890 1 ∧ Xi T97 890 1 ≤ 5126 := hHT97.c _ _
                    refine l_callV rfl rfl rfl (t_gr_takeHowMany hHT97 (by first | assumption | omega) (by first | assumption | omega) _) ?_
                    rintro _ T98 ⟨hHT98, w1065, z1064, rfl, w1064, w1062, w1063⟩
                    have hFT98 : FR md_gr_checkOthers S T98 := FR.tr hFT97 w1065 rfl
                    show Rl _ _ _ _ _ [iv z1064] _ _
                    refine l_if_eq rfl rfl (by unfold rg; omega) (fun w1066 => ?_) (fun w1067 => ?_)
                    · refine l_iconst rfl ?_
                      refine l_ireturn rfl rfl ?_
                      have w1068 : Xi T98 890 2 = Xi U92 890 2 := (show Xi T98 890 2 = Xi T97 890 2 from w1065.x _ _ rfl).trans ( (show Xi T97 890 2 = Xi T96 890 2 from w1054.x _ _ rfl).trans ( (show Xi T96 890 2 = Xi T95 890 2 from w1041.x _ _ rfl).trans ( (show Xi T95 890 2 = Xi T94 890 2 from w1029.x _ _ rfl).trans ( (show Xi T94 890 2 = Xi T93 890 2 from w1018.x _ _ rfl).trans ((show Xi T93 890 2 = Xi U92 890 2 from w1005.x _ _ rfl))))))
                      have w1069 : 0 ≤ Xi U92 890 2 ∧ Xi U92 890 2 ≤ 20 := hHU92.c _ _
                      exact ⟨hHT98, hFT98, _, rfl, ⟨by omega, by omega⟩, (by first | assumption | omega)⟩
                    · refine l_aload_n rfl rfl ?_
                      have w1070 : Xi T98 876 7 = Xi S 876 7 := (show Xi T98 876 7 = Xi T97 876 7 from w1065.x _ _ rfl).trans ( (show Xi T97 876 7 = Xi T96 876 7 from w1054.x _ _ rfl).trans ( (show Xi T96 876 7 = Xi T95 876 7 from w1041.x _ _ rfl).trans ( (show Xi T95 876 7 = Xi T94 876 7 from w1029.x _ _ rfl).trans ( (show Xi T94 876 7 = Xi T93 876 7 from w1018.x _ _ rfl).trans ( (show Xi T93 876 7 = Xi U92 876 7 from w1005.x _ _ rfl).trans ( (show Xi U92 876 7 = Xi U73 876 7 from by rw [eU92]; exact Xi_ne (by omega)).trans ( (show Xi U73 876 7 = Xi U72 876 7 from by rw [eU73]; exact Xi_ne (by omega)).trans ((show Xi U72 876 7 = Xi S 876 7 from by rw [eU72]; exact Xi_ne (by omega))))))))))
                      have w1071 : 0 ≤ Xi S 876 7 ∧ Xi S 876 7 ≤ 5125 := hH.c _ _
                      have w1072 : 0 ≤ Xi T98 890 1 ∧ Xi T98 890 1 ≤ 5126 := hHT98.c _ _
                      refine l_callV rfl rfl rfl (t_gr_takeRun hHT98 (by first | assumption | omega) (by first | assumption | omega) _) ?_
                      rintro _ T99 ⟨hHT99, w1077, z1076, rfl, w1076, w1073, w1074, w1075⟩
                      have hFT99 : FR md_gr_checkOthers S T99 := FR.tr hFT98 w1077 rfl
                      show Rl _ _ _ _ _ [iv z1076] _ _
                      refine l_if_eq rfl rfl (by unfold rg; omega) (fun w1078 => ?_) (fun w1079 => ?_)
                      · refine l_iconst rfl ?_
                        refine l_ireturn rfl rfl ?_
                        have w1080 : Xi T99 890 2 = Xi U92 890 2 := (show Xi T99 890 2 = Xi T98 890 2 from w1077.x _ _ rfl).trans ( (show Xi T98 890 2 = Xi T97 890 2 from w1065.x _ _ rfl).trans ( (show Xi T97 890 2 = Xi T96 890 2 from w1054.x _ _ rfl).trans ( (show Xi T96 890 2 = Xi T95 890 2 from w1041.x _ _ rfl).trans ( (show Xi T95 890 2 = Xi T94 890 2 from w1029.x _ _ rfl).trans ( (show Xi T94 890 2 = Xi T93 890 2 from w1018.x _ _ rfl).trans ((show Xi T93 890 2 = Xi U92 890 2 from w1005.x _ _ rfl)))))))
                        have w1081 : 0 ≤ Xi U92 890 2 ∧ Xi U92 890 2 ≤ 20 := hHU92.c _ _
                        exact ⟨hHT99, hFT99, _, rfl, ⟨by omega, by omega⟩, (by first | assumption | omega)⟩
                      · refine l_aload_n rfl rfl ?_
                        refine l_bipush rfl rfl ?_
                        have w1082 : Xi T99 876 7 = Xi S 876 7 := (show Xi T99 876 7 = Xi T98 876 7 from w1077.x _ _ rfl).trans ( (show Xi T98 876 7 = Xi T97 876 7 from w1065.x _ _ rfl).trans ( (show Xi T97 876 7 = Xi T96 876 7 from w1054.x _ _ rfl).trans ( (show Xi T96 876 7 = Xi T95 876 7 from w1041.x _ _ rfl).trans ( (show Xi T95 876 7 = Xi T94 876 7 from w1029.x _ _ rfl).trans ( (show Xi T94 876 7 = Xi T93 876 7 from w1018.x _ _ rfl).trans ( (show Xi T93 876 7 = Xi U92 876 7 from w1005.x _ _ rfl).trans ( (show Xi U92 876 7 = Xi U73 876 7 from by rw [eU92]; exact Xi_ne (by omega)).trans ( (show Xi U73 876 7 = Xi U72 876 7 from by rw [eU73]; exact Xi_ne (by omega)).trans ((show Xi U72 876 7 = Xi S 876 7 from by rw [eU72]; exact Xi_ne (by omega)))))))))))
                        have w1083 : 0 ≤ Xi S 876 7 ∧ Xi S 876 7 ≤ 5125 := hH.c _ _
                        have w1084 : 0 ≤ Xi T99 890 1 ∧ Xi T99 890 1 ≤ 5126 := hHT99.c _ _
                        refine l_callV rfl rfl rfl (t_gr_take hHT99 103 ⟨by omega, by omega⟩ (by first | assumption | omega) (by first | assumption | omega) (by first | assumption | omega) _) ?_
                        rintro _ T100 ⟨hHT100, w1090, z1089, rfl, w1089, w1085, w1086, w1087, w1088⟩
                        have hFT100 : FR md_gr_checkOthers S T100 := FR.tr hFT99 w1090 rfl
                        show Rl _ _ _ _ _ [iv z1089] _ _
                        refine l_if_eq rfl rfl (by unfold rg; omega) (fun w1091 => ?_) (fun w1092 => ?_)
                        · refine l_iconst rfl ?_
                          refine l_ireturn rfl rfl ?_
                          have w1093 : Xi T100 890 2 = Xi U92 890 2 := (show Xi T100 890 2 = Xi T99 890 2 from w1090.x _ _ rfl).trans ( (show Xi T99 890 2 = Xi T98 890 2 from w1077.x _ _ rfl).trans ( (show Xi T98 890 2 = Xi T97 890 2 from w1065.x _ _ rfl).trans ( (show Xi T97 890 2 = Xi T96 890 2 from w1054.x _ _ rfl).trans ( (show Xi T96 890 2 = Xi T95 890 2 from w1041.x _ _ rfl).trans ( (show Xi T95 890 2 = Xi T94 890 2 from w1029.x _ _ rfl).trans ( (show Xi T94 890 2 = Xi T93 890 2 from w1018.x _ _ rfl).trans ((show Xi T93 890 2 = Xi U92 890 2 from w1005.x _ _ rfl))))))))
                          have w1094 : 0 ≤ Xi U92 890 2 ∧ Xi U92 890 2 ≤ 20 := hHU92.c _ _
                          exact ⟨hHT100, hFT100, _, rfl, ⟨by omega, by omega⟩, (by first | assumption | omega)⟩
                        · refine l_iconst rfl ?_
                          refine l_goto rfl rfl ?_
                          refine l_ireturn rfl rfl ?_
                          have w1095 : Xi T100 890 2 = Xi U92 890 2 := (show Xi T100 890 2 = Xi T99 890 2 from w1090.x _ _ rfl).trans ( (show Xi T99 890 2 = Xi T98 890 2 from w1077.x _ _ rfl).trans ( (show Xi T98 890 2 = Xi T97 890 2 from w1065.x _ _ rfl).trans ( (show Xi T97 890 2 = Xi T96 890 2 from w1054.x _ _ rfl).trans ( (show Xi T96 890 2 = Xi T95 890 2 from w1041.x _ _ rfl).trans ( (show Xi T95 890 2 = Xi T94 890 2 from w1029.x _ _ rfl).trans ( (show Xi T94 890 2 = Xi T93 890 2 from w1018.x _ _ rfl).trans ((show Xi T93 890 2 = Xi U92 890 2 from w1005.x _ _ rfl))))))))
                          have w1096 : 0 ≤ Xi U92 890 2 ∧ Xi U92 890 2 ≤ 20 := hHU92.c _ _
                          exact ⟨hHT100, hFT100, _, rfl, ⟨by omega, by omega⟩, (by first | assumption | omega)⟩
        refine ⟨_, rfl, ?_⟩
        refine l_aload_n rfl rfl ?_
        refine l_bipush rfl rfl ?_
        refine l_pfi rfl rfl rfl rfl ?_
        obtain ⟨U101, eU101⟩ : ∃ T : sS, T = uI U73 890 2 (Int32.ofInt 20) := ⟨_, rfl⟩
        rw [← eU101]
        have hHU101 : HI U101 := by rw [eU101]; exact HI_w hHU73 (show 0 ≤ 20 by omega) (show 20 ≤ 20 by omega)
        have hFU101 : FR md_gr_checkOthers S U101 := by rw [eU101]; exact FR.wI hFU73 (mdf_i (r := (890, 891, 2, 3)) (List.mem_of_getElem? (i := 1) rfl) (inR_i (by omega) (by omega) (by omega) (by omega)))
        have w1097 : Xi U101 890 2 = 20 := by rw [eU101]; exact Xi_same (by unfold rg; omega)
        have hso478 : SAY U101 (Xi U101 890 1) := SAY_sort eU101 (by assumption) (by decide)
        refine l_aload_n rfl rfl ?_
        refine l_bipush rfl rfl ?_
        refine l_bipush rfl rfl ?_
        have w1098 : Xi U101 876 7 = Xi S 876 7 := (show Xi U101 876 7 = Xi U73 876 7 from by rw [eU101]; exact Xi_ne (by omega)).trans ( (show Xi U73 876 7 = Xi U72 876 7 from by rw [eU73]; exact Xi_ne (by omega)).trans ((show Xi U72 876 7 = Xi S 876 7 from by rw [eU72]; exact Xi_ne (by omega))))
        have w1099 : 0 ≤ Xi S 876 7 ∧ Xi S 876 7 ≤ 5125 := hH.c _ _
        have w1100 : Xi U101 890 1 = Xi U72 890 1 := (show Xi U101 890 1 = Xi U73 890 1 from by rw [eU101]; exact Xi_ne (by omega)).trans ((show Xi U73 890 1 = Xi U72 890 1 from by rw [eU73]; exact Xi_ne (by omega)))
        have w1101 : 0 ≤ Xi U72 890 1 ∧ Xi U72 890 1 ≤ 5126 := hHU72.c _ _
        refine l_callV rfl rfl rfl (t_gr_takeLoose hHU101 16 104 ⟨by omega, by omega⟩ ⟨by omega, by omega⟩ (by first | assumption | omega) (by first | assumption | omega) (by first | assumption | omega) (by first | assumption | omega) _) ?_
        rintro _ T102 ⟨hHT102, w1105, z1104, rfl, w1104, w1102, w1103⟩
        have hFT102 : FR md_gr_checkOthers S T102 := FR.tr hFU101 w1105 rfl
        show Rl _ _ _ _ _ [iv z1104] _ _
        refine l_if_eq rfl rfl (by unfold rg; omega) (fun w1106 => ?_) (fun w1107 => ?_)
        · refine l_iconst rfl ?_
          refine l_ireturn rfl rfl ?_
          have w1108 : Xi T102 890 2 = Xi U101 890 2 := (show Xi T102 890 2 = Xi U101 890 2 from w1105.x _ _ rfl)
          have w1109 : 0 ≤ Xi U101 890 2 ∧ Xi U101 890 2 ≤ 20 := hHU101.c _ _
          exact ⟨hHT102, hFT102, _, rfl, ⟨by omega, by omega⟩, (by first | assumption | omega)⟩
        · refine l_aload_n rfl rfl ?_
          refine l_bipush rfl rfl ?_
          have w1110 : Xi T102 876 7 = Xi S 876 7 := (show Xi T102 876 7 = Xi U101 876 7 from w1105.x _ _ rfl).trans ( (show Xi U101 876 7 = Xi U73 876 7 from by rw [eU101]; exact Xi_ne (by omega)).trans ( (show Xi U73 876 7 = Xi U72 876 7 from by rw [eU73]; exact Xi_ne (by omega)).trans ((show Xi U72 876 7 = Xi S 876 7 from by rw [eU72]; exact Xi_ne (by omega)))))
          have w1111 : 0 ≤ Xi S 876 7 ∧ Xi S 876 7 ≤ 5125 := hH.c _ _
          have w1112 : 0 ≤ Xi T102 890 1 ∧ Xi T102 890 1 ≤ 5126 := hHT102.c _ _
          refine l_callV rfl rfl rfl (t_gr_take hHT102 103 ⟨by omega, by omega⟩ (by first | assumption | omega) (by first | assumption | omega) (by first | assumption | omega) _) ?_
          rintro _ T103 ⟨hHT103, w1118, z1117, rfl, w1117, w1113, w1114, w1115, w1116⟩
          have hFT103 : FR md_gr_checkOthers S T103 := FR.tr hFT102 w1118 rfl
          show Rl _ _ _ _ _ [iv z1117] _ _
          refine l_if_eq rfl rfl (by unfold rg; omega) (fun w1119 => ?_) (fun w1120 => ?_)
          · refine l_iconst rfl ?_
            refine l_ireturn rfl rfl ?_
            have w1121 : Xi T103 890 2 = Xi U101 890 2 := (show Xi T103 890 2 = Xi T102 890 2 from w1118.x _ _ rfl).trans ((show Xi T102 890 2 = Xi U101 890 2 from w1105.x _ _ rfl))
            have w1122 : 0 ≤ Xi U101 890 2 ∧ Xi U101 890 2 ≤ 20 := hHU101.c _ _
            exact ⟨hHT103, hFT103, _, rfl, ⟨by omega, by omega⟩, (by first | assumption | omega)⟩
          · refine l_iconst rfl ?_
            refine l_goto rfl rfl ?_
            refine l_ireturn rfl rfl ?_
            have w1123 : Xi T103 890 2 = Xi U101 890 2 := (show Xi T103 890 2 = Xi T102 890 2 from w1118.x _ _ rfl).trans ((show Xi T102 890 2 = Xi U101 890 2 from w1105.x _ _ rfl))
            have w1124 : 0 ≤ Xi U101 890 2 ∧ Xi U101 890 2 ≤ 20 := hHU101.c _ _
            exact ⟨hHT103, hFT103, _, rfl, ⟨by omega, by omega⟩, (by first | assumption | omega)⟩
      · refine l_aload_n rfl rfl ?_
        refine l_gfr rfl rfl rfl rfl rfl (hH.r 890 0 876 rfl) ?_
        refine l_iconst rfl ?_
        have w1125 : 0 ≤ Xi S 876 7 ∧ Xi S 876 7 ≤ 5125 := hH.c _ _
        refine l_callV rfl rfl rfl (t_to_typeAt hH 1 ⟨by omega, by omega⟩ _) ?_
        rintro _ _ ⟨rfl, z1127, rfl, w1127, w1126⟩
        show Rl _ _ _ _ _ [iv z1127] _ _
        refine l_bipush rfl rfl ?_
        refine l_icmp_ne rfl rfl (by unfold rg; omega) (by unfold rg; omega) (fun w1128 => ?_) (fun w1129 => ?_)
        · refine l_aload_n rfl rfl ?_
          refine l_iconst rfl ?_
          refine l_pfi rfl rfl rfl rfl ?_
          obtain ⟨U104, eU104⟩ : ∃ T : sS, T = uI S 890 1 (Int32.ofInt 0) := ⟨_, rfl⟩
          rw [← eU104]
          have hHU104 : HI U104 := by rw [eU104]; exact HI_w hH (show 0 ≤ 0 by omega) (show 0 ≤ 5126 by omega)
          have hFU104 : FR md_gr_checkOthers S U104 := by rw [eU104]; exact FR.wI hF (mdf_i (r := (890, 891, 1, 2)) (List.mem_of_getElem? (i := 0) rfl) (inR_i (by omega) (by omega) (by omega) (by omega)))
          have w1130 : Xi U104 890 1 = 0 := by rw [eU104]; exact Xi_same (by unfold rg; omega)
          have hs183 : SAY U104 (Xi U104 890 1) := SAY_v0 (by omega)
          refine l_aload_n rfl rfl ?_
          refine l_aload_n rfl rfl ?_
          refine l_gfr rfl rfl rfl rfl rfl (hHU104.r 890 0 876 rfl) ?_
          have w1131 : Xi U104 876 7 = Xi S 876 7 := (show Xi U104 876 7 = Xi S 876 7 from by rw [eU104]; exact Xi_ne (by omega))
          have w1132 : 0 ≤ Xi S 876 7 ∧ Xi S 876 7 ≤ 5125 := hH.c _ _
          refine l_callV rfl rfl rfl (t_to_tellingKey hHU104 _) ?_
          rintro _ _ ⟨rfl, z1134, rfl, w1134, w1133⟩
          show Rl _ _ _ _ _ [iv z1134, .ref 890] _ _
          refine l_pfi rfl rfl rfl rfl ?_
          obtain ⟨U105, eU105⟩ : ∃ T : sS, T = uI U104 890 3 (Int32.ofInt z1134) := ⟨_, rfl⟩
          rw [← eU105]
          have hHU105 : HI U105 := by rw [eU105]; exact HI_w hHU104 (show -1 ≤ z1134 by omega) (show z1134 ≤ 5124 by omega)
          have hFU105 : FR md_gr_checkOthers S U105 := by rw [eU105]; exact FR.wI hFU104 (mdf_i (r := (890, 891, 3, 4)) (List.mem_of_getElem? (i := 2) rfl) (inR_i (by omega) (by omega) (by omega) (by omega)))
          have w1135 : Xi U105 890 3 = z1134 := by rw [eU105]; exact Xi_same (by unfold rg; omega)
          have hso194 : SAY U105 (Xi U105 890 1) := SAY_sort eU105 (by assumption) (by decide)
          refine l_aload_n rfl rfl ?_
          refine l_gfr rfl rfl rfl rfl rfl (hHU105.r 890 0 876 rfl) ?_
          refine l_aload_n rfl rfl ?_
          refine l_gfi rfl rfl rfl rfl rfl ?_
          have w1136 : Xi U105 876 7 = Xi S 876 7 := (show Xi U105 876 7 = Xi U104 876 7 from by rw [eU105]; exact Xi_ne (by omega)).trans ((show Xi U104 876 7 = Xi S 876 7 from by rw [eU104]; exact Xi_ne (by omega)))
          have w1137 : 0 ≤ Xi S 876 7 ∧ Xi S 876 7 ≤ 5125 := hH.c _ _
          refine l_callV rfl rfl rfl (t_to_typeAt hHU105 (Xi U105 890 3) ⟨by omega, by omega⟩ _) ?_
          rintro _ _ ⟨rfl, z1139, rfl, w1139, w1138⟩
          show Rl _ _ _ _ _ [iv z1139] _ _
          refine l_lsw rfl rfl (by unfold rg; omega) ?_
          refine And.intro (fun w1140 => ⟨_, rfl, ?_⟩) (fun w1141 => ?_)
          · refine l_aload_n rfl rfl ?_
            have w1142 : Xi U105 876 7 = Xi S 876 7 := (show Xi U105 876 7 = Xi U104 876 7 from by rw [eU105]; exact Xi_ne (by omega)).trans ((show Xi U104 876 7 = Xi S 876 7 from by rw [eU104]; exact Xi_ne (by omega)))
            have w1143 : 0 ≤ Xi S 876 7 ∧ Xi S 876 7 ≤ 5125 := hH.c _ _
            have w1144 : Xi U105 890 1 = Xi U104 890 1 := (show Xi U105 890 1 = Xi U104 890 1 from by rw [eU105]; exact Xi_ne (by omega))
            have w1145 : 0 ≤ Xi U104 890 1 ∧ Xi U104 890 1 ≤ 5126 := hHU104.c _ _
            refine l_callV rfl rfl rfl (t_gr_checkBe hHU105 (by first | assumption | omega) (by first | assumption | omega) (by first | assumption | omega) _) ?_
            rintro _ T106 ⟨hHT106, w1148, z1147, rfl, w1147, w1146⟩
            have hFT106 : FR md_gr_checkOthers S T106 := FR.tr hFU105 w1148 rfl
            show Rl _ _ _ _ _ [iv z1147] _ _
            refine l_ireturn rfl (retI_z (by omega)) ?_
            have w1149 : 0 ≤ Xi T106 890 2 ∧ Xi T106 890 2 ≤ 20 := hHT106.c _ _
            exact ⟨hHT106, hFT106, _, rfl, ⟨by omega, by omega⟩, (by first | assumption | omega)⟩
          refine And.intro (fun w1150 => ⟨_, rfl, ?_⟩) (fun w1151 => ?_)
          · refine l_aload_n rfl rfl ?_
            have w1152 : Xi U105 876 7 = Xi S 876 7 := (show Xi U105 876 7 = Xi U104 876 7 from by rw [eU105]; exact Xi_ne (by omega)).trans ((show Xi U104 876 7 = Xi S 876 7 from by rw [eU104]; exact Xi_ne (by omega)))
            have w1153 : 0 ≤ Xi S 876 7 ∧ Xi S 876 7 ≤ 5125 := hH.c _ _
            have w1154 : Xi U105 890 1 = Xi U104 890 1 := (show Xi U105 890 1 = Xi U104 890 1 from by rw [eU105]; exact Xi_ne (by omega))
            have w1155 : 0 ≤ Xi U104 890 1 ∧ Xi U104 890 1 ≤ 5126 := hHU104.c _ _
            refine l_callV rfl rfl rfl (t_gr_checkBe hHU105 (by first | assumption | omega) (by first | assumption | omega) (by first | assumption | omega) _) ?_
            rintro _ T107 ⟨hHT107, w1158, z1157, rfl, w1157, w1156⟩
            have hFT107 : FR md_gr_checkOthers S T107 := FR.tr hFU105 w1158 rfl
            show Rl _ _ _ _ _ [iv z1157] _ _
            refine l_ireturn rfl (retI_z (by omega)) ?_
            have w1159 : 0 ≤ Xi T107 890 2 ∧ Xi T107 890 2 ≤ 20 := hHT107.c _ _
            exact ⟨hHT107, hFT107, _, rfl, ⟨by omega, by omega⟩, (by first | assumption | omega)⟩
          refine And.intro (fun w1160 => ⟨_, rfl, ?_⟩) (fun w1161 => ?_)
          · refine l_aload_n rfl rfl ?_
            refine l_bipush rfl rfl ?_
            refine l_pfi rfl rfl rfl rfl ?_
            obtain ⟨U108, eU108⟩ : ∃ T : sS, T = uI U105 890 2 (Int32.ofInt 17) := ⟨_, rfl⟩
            rw [← eU108]
            have hHU108 : HI U108 := by rw [eU108]; exact HI_w hHU105 (show 0 ≤ 17 by omega) (show 17 ≤ 20 by omega)
            have hFU108 : FR md_gr_checkOthers S U108 := by rw [eU108]; exact FR.wI hFU105 (mdf_i (r := (890, 891, 2, 3)) (List.mem_of_getElem? (i := 1) rfl) (inR_i (by omega) (by omega) (by omega) (by omega)))
            have w1162 : Xi U108 890 2 = 17 := by rw [eU108]; exact Xi_same (by unfold rg; omega)
            have hso268 : SAY U108 (Xi U108 890 1) := SAY_sort eU108 (by assumption) (by decide)
            refine l_aload_n rfl rfl ?_
            have w1163 : Xi U108 876 7 = Xi S 876 7 := (show Xi U108 876 7 = Xi U105 876 7 from by rw [eU108]; exact Xi_ne (by omega)).trans ( (show Xi U105 876 7 = Xi U104 876 7 from by rw [eU105]; exact Xi_ne (by omega)).trans ((show Xi U104 876 7 = Xi S 876 7 from by rw [eU104]; exact Xi_ne (by omega))))
            have w1164 : 0 ≤ Xi S 876 7 ∧ Xi S 876 7 ≤ 5125 := hH.c _ _
            have w1165 : Xi U108 890 1 = Xi U104 890 1 := (show Xi U108 890 1 = Xi U105 890 1 from by rw [eU108]; exact Xi_ne (by omega)).trans ((show Xi U105 890 1 = Xi U104 890 1 from by rw [eU105]; exact Xi_ne (by omega)))
            have w1166 : 0 ≤ Xi U104 890 1 ∧ Xi U104 890 1 ≤ 5126 := hHU104.c _ _
            refine l_callV rfl rfl rfl (t_gr_takeName hHU108 (by first | assumption | omega) (by first | assumption | omega) _) ?_
            rintro _ T109 ⟨hHT109, w1170, z1169, rfl, w1169, w1167, w1168⟩
            have hFT109 : FR md_gr_checkOthers S T109 := FR.tr hFU108 w1170 rfl
            show Rl _ _ _ _ _ [iv z1169] _ _
            refine l_if_eq rfl rfl (by unfold rg; omega) (fun w1171 => ?_) (fun w1172 => ?_)
            · refine l_iconst rfl ?_
              refine l_ireturn rfl rfl ?_
              have w1173 : Xi T109 890 2 = Xi U108 890 2 := (show Xi T109 890 2 = Xi U108 890 2 from w1170.x _ _ rfl)
              have w1174 : 0 ≤ Xi U108 890 2 ∧ Xi U108 890 2 ≤ 20 := hHU108.c _ _
              exact ⟨hHT109, hFT109, _, rfl, ⟨by omega, by omega⟩, (by first | assumption | omega)⟩
            · refine l_aload_n rfl rfl ?_
              refine l_bipush rfl rfl ?_
              have w1175 : Xi T109 876 7 = Xi S 876 7 := (show Xi T109 876 7 = Xi U108 876 7 from w1170.x _ _ rfl).trans ( (show Xi U108 876 7 = Xi U105 876 7 from by rw [eU108]; exact Xi_ne (by omega)).trans ( (show Xi U105 876 7 = Xi U104 876 7 from by rw [eU105]; exact Xi_ne (by omega)).trans ((show Xi U104 876 7 = Xi S 876 7 from by rw [eU104]; exact Xi_ne (by omega)))))
              have w1176 : 0 ≤ Xi S 876 7 ∧ Xi S 876 7 ≤ 5125 := hH.c _ _
              have w1177 : 0 ≤ Xi T109 890 1 ∧ Xi T109 890 1 ≤ 5126 := hHT109.c _ _
              refine l_callV rfl rfl rfl (t_gr_take hHT109 12 ⟨by omega, by omega⟩ (by first | assumption | omega) (by first | assumption | omega) (by first | assumption | omega) _) ?_
              rintro _ T110 ⟨hHT110, w1183, z1182, rfl, w1182, w1178, w1179, w1180, w1181⟩
              have hFT110 : FR md_gr_checkOthers S T110 := FR.tr hFT109 w1183 rfl
              show Rl _ _ _ _ _ [iv z1182] _ _
              refine l_if_eq rfl rfl (by unfold rg; omega) (fun w1184 => ?_) (fun w1185 => ?_)
              · refine l_iconst rfl ?_
                refine l_ireturn rfl rfl ?_
                have w1186 : Xi T110 890 2 = Xi U108 890 2 := (show Xi T110 890 2 = Xi T109 890 2 from w1183.x _ _ rfl).trans ((show Xi T109 890 2 = Xi U108 890 2 from w1170.x _ _ rfl))
                have w1187 : 0 ≤ Xi U108 890 2 ∧ Xi U108 890 2 ≤ 20 := hHU108.c _ _
                exact ⟨hHT110, hFT110, _, rfl, ⟨by omega, by omega⟩, (by first | assumption | omega)⟩
              · refine l_aload_n rfl rfl ?_
                have w1188 : Xi T110 876 7 = Xi S 876 7 := (show Xi T110 876 7 = Xi T109 876 7 from w1183.x _ _ rfl).trans ( (show Xi T109 876 7 = Xi U108 876 7 from w1170.x _ _ rfl).trans ( (show Xi U108 876 7 = Xi U105 876 7 from by rw [eU108]; exact Xi_ne (by omega)).trans ( (show Xi U105 876 7 = Xi U104 876 7 from by rw [eU105]; exact Xi_ne (by omega)).trans ((show Xi U104 876 7 = Xi S 876 7 from by rw [eU104]; exact Xi_ne (by omega))))))
                have w1189 : 0 ≤ Xi S 876 7 ∧ Xi S 876 7 ≤ 5125 := hH.c _ _
                have w1190 : 0 ≤ Xi T110 890 1 ∧ Xi T110 890 1 ≤ 5126 := hHT110.c _ _
                refine l_callV rfl rfl rfl (t_gr_takeArt hHT110 (by first | assumption | omega) (by first | assumption | omega) _) ?_
                rintro _ T111 ⟨hHT111, w1195, z1194, rfl, w1194, w1191, w1192, w1193⟩
                have hFT111 : FR md_gr_checkOthers S T111 := FR.tr hFT110 w1195 rfl
                show Rl _ _ _ _ _ [iv z1194] _ _
                refine l_if_eq rfl rfl (by unfold rg; omega) (fun w1196 => ?_) (fun w1197 => ?_)
                · refine l_iconst rfl ?_
                  refine l_ireturn rfl rfl ?_
                  have w1198 : Xi T111 890 2 = Xi U108 890 2 := (show Xi T111 890 2 = Xi T110 890 2 from w1195.x _ _ rfl).trans ( (show Xi T110 890 2 = Xi T109 890 2 from w1183.x _ _ rfl).trans ((show Xi T109 890 2 = Xi U108 890 2 from w1170.x _ _ rfl)))
                  have w1199 : 0 ≤ Xi U108 890 2 ∧ Xi U108 890 2 ≤ 20 := hHU108.c _ _
                  exact ⟨hHT111, hFT111, _, rfl, ⟨by omega, by omega⟩, (by first | assumption | omega)⟩
                · refine l_aload_n rfl rfl ?_
                  have w1200 : Xi T111 876 7 = Xi S 876 7 := (show Xi T111 876 7 = Xi T110 876 7 from w1195.x _ _ rfl).trans ( (show Xi T110 876 7 = Xi T109 876 7 from w1183.x _ _ rfl).trans ( (show Xi T109 876 7 = Xi U108 876 7 from w1170.x _ _ rfl).trans ( (show Xi U108 876 7 = Xi U105 876 7 from by rw [eU108]; exact Xi_ne (by omega)).trans ( (show Xi U105 876 7 = Xi U104 876 7 from by rw [eU105]; exact Xi_ne (by omega)).trans ((show Xi U104 876 7 = Xi S 876 7 from by rw [eU104]; exact Xi_ne (by omega)))))))
                  have w1201 : 0 ≤ Xi S 876 7 ∧ Xi S 876 7 ≤ 5125 := hH.c _ _
                  have w1202 : 0 ≤ Xi T111 890 1 ∧ Xi T111 890 1 ≤ 5126 := hHT111.c _ _
                  refine l_callV rfl rfl rfl (t_gr_takeRun hHT111 (by first | assumption | omega) (by first | assumption | omega) _) ?_
                  rintro _ T112 ⟨hHT112, w1207, z1206, rfl, w1206, w1203, w1204, w1205⟩
                  have hFT112 : FR md_gr_checkOthers S T112 := FR.tr hFT111 w1207 rfl
                  show Rl _ _ _ _ _ [iv z1206] _ _
                  refine l_if_eq rfl rfl (by unfold rg; omega) (fun w1208 => ?_) (fun w1209 => ?_)
                  · refine l_iconst rfl ?_
                    refine l_ireturn rfl rfl ?_
                    have w1210 : Xi T112 890 2 = Xi U108 890 2 := (show Xi T112 890 2 = Xi T111 890 2 from w1207.x _ _ rfl).trans ( (show Xi T111 890 2 = Xi T110 890 2 from w1195.x _ _ rfl).trans ( (show Xi T110 890 2 = Xi T109 890 2 from w1183.x _ _ rfl).trans ((show Xi T109 890 2 = Xi U108 890 2 from w1170.x _ _ rfl))))
                    have w1211 : 0 ≤ Xi U108 890 2 ∧ Xi U108 890 2 ≤ 20 := hHU108.c _ _
                    exact ⟨hHT112, hFT112, _, rfl, ⟨by omega, by omega⟩, (by first | assumption | omega)⟩
                  · refine l_aload_n rfl rfl ?_
                    refine l_bipush rfl rfl ?_
                    have w1212 : Xi T112 876 7 = Xi S 876 7 := (show Xi T112 876 7 = Xi T111 876 7 from w1207.x _ _ rfl).trans ( (show Xi T111 876 7 = Xi T110 876 7 from w1195.x _ _ rfl).trans ( (show Xi T110 876 7 = Xi T109 876 7 from w1183.x _ _ rfl).trans ( (show Xi T109 876 7 = Xi U108 876 7 from w1170.x _ _ rfl).trans ( (show Xi U108 876 7 = Xi U105 876 7 from by rw [eU108]; exact Xi_ne (by omega)).trans ( (show Xi U105 876 7 = Xi U104 876 7 from by rw [eU105]; exact Xi_ne (by omega)).trans ((show Xi U104 876 7 = Xi S 876 7 from by rw [eU104]; exact Xi_ne (by omega))))))))
                    have w1213 : 0 ≤ Xi S 876 7 ∧ Xi S 876 7 ≤ 5125 := hH.c _ _
                    have w1214 : 0 ≤ Xi T112 890 1 ∧ Xi T112 890 1 ≤ 5126 := hHT112.c _ _
                    refine l_callV rfl rfl rfl (t_gr_take hHT112 17 ⟨by omega, by omega⟩ (by first | assumption | omega) (by first | assumption | omega) (by first | assumption | omega) _) ?_
                    rintro _ T113 ⟨hHT113, w1220, z1219, rfl, w1219, w1215, w1216, w1217, w1218⟩
                    have hFT113 : FR md_gr_checkOthers S T113 := FR.tr hFT112 w1220 rfl
                    show Rl _ _ _ _ _ [iv z1219] _ _
                    refine l_if_eq rfl rfl (by unfold rg; omega) (fun w1221 => ?_) (fun w1222 => ?_)
                    · refine l_iconst rfl ?_
                      refine l_ireturn rfl rfl ?_
                      have w1223 : Xi T113 890 2 = Xi U108 890 2 := (show Xi T113 890 2 = Xi T112 890 2 from w1220.x _ _ rfl).trans ( (show Xi T112 890 2 = Xi T111 890 2 from w1207.x _ _ rfl).trans ( (show Xi T111 890 2 = Xi T110 890 2 from w1195.x _ _ rfl).trans ( (show Xi T110 890 2 = Xi T109 890 2 from w1183.x _ _ rfl).trans ((show Xi T109 890 2 = Xi U108 890 2 from w1170.x _ _ rfl)))))
                      have w1224 : 0 ≤ Xi U108 890 2 ∧ Xi U108 890 2 ≤ 20 := hHU108.c _ _
                      exact ⟨hHT113, hFT113, _, rfl, ⟨by omega, by omega⟩, (by first | assumption | omega)⟩
                    · refine l_aload_n rfl rfl ?_
                      have w1225 : Xi T113 876 7 = Xi S 876 7 := (show Xi T113 876 7 = Xi T112 876 7 from w1220.x _ _ rfl).trans ( (show Xi T112 876 7 = Xi T111 876 7 from w1207.x _ _ rfl).trans ( (show Xi T111 876 7 = Xi T110 876 7 from w1195.x _ _ rfl).trans ( (show Xi T110 876 7 = Xi T109 876 7 from w1183.x _ _ rfl).trans ( (show Xi T109 876 7 = Xi U108 876 7 from w1170.x _ _ rfl).trans ( (show Xi U108 876 7 = Xi U105 876 7 from by rw [eU108]; exact Xi_ne (by omega)).trans ( (show Xi U105 876 7 = Xi U104 876 7 from by rw [eU105]; exact Xi_ne (by omega)).trans ((show Xi U104 876 7 = Xi S 876 7 from by rw [eU104]; exact Xi_ne (by omega)))))))))
                      have w1226 : 0 ≤ Xi S 876 7 ∧ Xi S 876 7 ≤ 5125 := hH.c _ _
                      have w1227 : 0 ≤ Xi T113 890 1 ∧ Xi T113 890 1 ≤ 5126 := hHT113.c _ _
                      refine l_callV rfl rfl rfl (t_gr_takeRun hHT113 (by first | assumption | omega) (by first | assumption | omega) _) ?_
                      rintro _ T114 ⟨hHT114, w1232, z1231, rfl, w1231, w1228, w1229, w1230⟩
                      have hFT114 : FR md_gr_checkOthers S T114 := FR.tr hFT113 w1232 rfl
                      show Rl _ _ _ _ _ [iv z1231] _ _
                      refine l_if_eq rfl rfl (by unfold rg; omega) (fun w1233 => ?_) (fun w1234 => ?_)
                      · refine l_iconst rfl ?_
                        refine l_ireturn rfl rfl ?_
                        have w1235 : Xi T114 890 2 = Xi U108 890 2 := (show Xi T114 890 2 = Xi T113 890 2 from w1232.x _ _ rfl).trans ( (show Xi T113 890 2 = Xi T112 890 2 from w1220.x _ _ rfl).trans ( (show Xi T112 890 2 = Xi T111 890 2 from w1207.x _ _ rfl).trans ( (show Xi T111 890 2 = Xi T110 890 2 from w1195.x _ _ rfl).trans ( (show Xi T110 890 2 = Xi T109 890 2 from w1183.x _ _ rfl).trans ((show Xi T109 890 2 = Xi U108 890 2 from w1170.x _ _ rfl))))))
                        have w1236 : 0 ≤ Xi U108 890 2 ∧ Xi U108 890 2 ≤ 20 := hHU108.c _ _
                        exact ⟨hHT114, hFT114, _, rfl, ⟨by omega, by omega⟩, (by first | assumption | omega)⟩
                      · refine l_aload_n rfl rfl ?_
                        refine l_bipush rfl rfl ?_
                        have w1237 : Xi T114 876 7 = Xi S 876 7 := (show Xi T114 876 7 = Xi T113 876 7 from w1232.x _ _ rfl).trans ( (show Xi T113 876 7 = Xi T112 876 7 from w1220.x _ _ rfl).trans ( (show Xi T112 876 7 = Xi T111 876 7 from w1207.x _ _ rfl).trans ( (show Xi T111 876 7 = Xi T110 876 7 from w1195.x _ _ rfl).trans ( (show Xi T110 876 7 = Xi T109 876 7 from w1183.x _ _ rfl).trans ( (show Xi T109 876 7 = Xi U108 876 7 from w1170.x _ _ rfl).trans ( (show Xi U108 876 7 = Xi U105 876 7 from by rw [eU108]; exact Xi_ne (by omega)).trans ( (show Xi U105 876 7 = Xi U104 876 7 from by rw [eU105]; exact Xi_ne (by omega)).trans ((show Xi U104 876 7 = Xi S 876 7 from by rw [eU104]; exact Xi_ne (by omega))))))))))
                        have w1238 : 0 ≤ Xi S 876 7 ∧ Xi S 876 7 ≤ 5125 := hH.c _ _
                        have w1239 : 0 ≤ Xi T114 890 1 ∧ Xi T114 890 1 ≤ 5126 := hHT114.c _ _
                        refine l_callV rfl rfl rfl (t_gr_take hHT114 103 ⟨by omega, by omega⟩ (by first | assumption | omega) (by first | assumption | omega) (by first | assumption | omega) _) ?_
                        rintro _ T115 ⟨hHT115, w1245, z1244, rfl, w1244, w1240, w1241, w1242, w1243⟩
                        have hFT115 : FR md_gr_checkOthers S T115 := FR.tr hFT114 w1245 rfl
                        show Rl _ _ _ _ _ [iv z1244] _ _
                        refine l_if_eq rfl rfl (by unfold rg; omega) (fun w1246 => ?_) (fun w1247 => ?_)
                        · refine l_iconst rfl ?_
                          refine l_ireturn rfl rfl ?_
                          have w1248 : Xi T115 890 2 = Xi U108 890 2 := (show Xi T115 890 2 = Xi T114 890 2 from w1245.x _ _ rfl).trans ( (show Xi T114 890 2 = Xi T113 890 2 from w1232.x _ _ rfl).trans ( (show Xi T113 890 2 = Xi T112 890 2 from w1220.x _ _ rfl).trans ( (show Xi T112 890 2 = Xi T111 890 2 from w1207.x _ _ rfl).trans ( (show Xi T111 890 2 = Xi T110 890 2 from w1195.x _ _ rfl).trans ( (show Xi T110 890 2 = Xi T109 890 2 from w1183.x _ _ rfl).trans ((show Xi T109 890 2 = Xi U108 890 2 from w1170.x _ _ rfl)))))))
                          have w1249 : 0 ≤ Xi U108 890 2 ∧ Xi U108 890 2 ≤ 20 := hHU108.c _ _
                          exact ⟨hHT115, hFT115, _, rfl, ⟨by omega, by omega⟩, (by first | assumption | omega)⟩
                        · refine l_iconst rfl ?_
                          refine l_goto rfl rfl ?_
                          refine l_ireturn rfl rfl ?_
                          have w1250 : Xi T115 890 2 = Xi U108 890 2 := (show Xi T115 890 2 = Xi T114 890 2 from w1245.x _ _ rfl).trans ( (show Xi T114 890 2 = Xi T113 890 2 from w1232.x _ _ rfl).trans ( (show Xi T113 890 2 = Xi T112 890 2 from w1220.x _ _ rfl).trans ( (show Xi T112 890 2 = Xi T111 890 2 from w1207.x _ _ rfl).trans ( (show Xi T111 890 2 = Xi T110 890 2 from w1195.x _ _ rfl).trans ( (show Xi T110 890 2 = Xi T109 890 2 from w1183.x _ _ rfl).trans ((show Xi T109 890 2 = Xi U108 890 2 from w1170.x _ _ rfl)))))))
                          have w1251 : 0 ≤ Xi U108 890 2 ∧ Xi U108 890 2 ≤ 20 := hHU108.c _ _
                          exact ⟨hHT115, hFT115, _, rfl, ⟨by omega, by omega⟩, (by first | assumption | omega)⟩
          refine And.intro (fun w1252 => ⟨_, rfl, ?_⟩) (fun w1253 => ?_)
          · refine l_aload_n rfl rfl ?_
            refine l_bipush rfl rfl ?_
            refine l_pfi rfl rfl rfl rfl ?_
            obtain ⟨U116, eU116⟩ : ∃ T : sS, T = uI U105 890 2 (Int32.ofInt 18) := ⟨_, rfl⟩
            rw [← eU116]
            have hHU116 : HI U116 := by rw [eU116]; exact HI_w hHU105 (show 0 ≤ 18 by omega) (show 18 ≤ 20 by omega)
            have hFU116 : FR md_gr_checkOthers S U116 := by rw [eU116]; exact FR.wI hFU105 (mdf_i (r := (890, 891, 2, 3)) (List.mem_of_getElem? (i := 1) rfl) (inR_i (by omega) (by omega) (by omega) (by omega)))
            have w1254 : Xi U116 890 2 = 18 := by rw [eU116]; exact Xi_same (by unfold rg; omega)
            have hso335 : SAY U116 (Xi U116 890 1) := SAY_sort eU116 (by assumption) (by decide)
            refine l_aload_n rfl rfl ?_
            have w1255 : Xi U116 876 7 = Xi S 876 7 := (show Xi U116 876 7 = Xi U105 876 7 from by rw [eU116]; exact Xi_ne (by omega)).trans ( (show Xi U105 876 7 = Xi U104 876 7 from by rw [eU105]; exact Xi_ne (by omega)).trans ((show Xi U104 876 7 = Xi S 876 7 from by rw [eU104]; exact Xi_ne (by omega))))
            have w1256 : 0 ≤ Xi S 876 7 ∧ Xi S 876 7 ≤ 5125 := hH.c _ _
            have w1257 : Xi U116 890 1 = Xi U104 890 1 := (show Xi U116 890 1 = Xi U105 890 1 from by rw [eU116]; exact Xi_ne (by omega)).trans ((show Xi U105 890 1 = Xi U104 890 1 from by rw [eU105]; exact Xi_ne (by omega)))
            have w1258 : 0 ≤ Xi U104 890 1 ∧ Xi U104 890 1 ≤ 5126 := hHU104.c _ _
            refine l_callV rfl rfl rfl (t_gr_takeName hHU116 (by first | assumption | omega) (by first | assumption | omega) _) ?_
            rintro _ T117 ⟨hHT117, w1262, z1261, rfl, w1261, w1259, w1260⟩
            have hFT117 : FR md_gr_checkOthers S T117 := FR.tr hFU116 w1262 rfl
            show Rl _ _ _ _ _ [iv z1261] _ _
            refine l_if_eq rfl rfl (by unfold rg; omega) (fun w1263 => ?_) (fun w1264 => ?_)
            · refine l_iconst rfl ?_
              refine l_ireturn rfl rfl ?_
              have w1265 : Xi T117 890 2 = Xi U116 890 2 := (show Xi T117 890 2 = Xi U116 890 2 from w1262.x _ _ rfl)
              have w1266 : 0 ≤ Xi U116 890 2 ∧ Xi U116 890 2 ≤ 20 := hHU116.c _ _
              exact ⟨hHT117, hFT117, _, rfl, ⟨by omega, by omega⟩, (by first | assumption | omega)⟩
            · refine l_aload_n rfl rfl ?_
              refine l_bipush rfl rfl ?_
              have w1267 : Xi T117 876 7 = Xi S 876 7 := (show Xi T117 876 7 = Xi U116 876 7 from w1262.x _ _ rfl).trans ( (show Xi U116 876 7 = Xi U105 876 7 from by rw [eU116]; exact Xi_ne (by omega)).trans ( (show Xi U105 876 7 = Xi U104 876 7 from by rw [eU105]; exact Xi_ne (by omega)).trans ((show Xi U104 876 7 = Xi S 876 7 from by rw [eU104]; exact Xi_ne (by omega)))))
              have w1268 : 0 ≤ Xi S 876 7 ∧ Xi S 876 7 ≤ 5125 := hH.c _ _
              have w1269 : 0 ≤ Xi T117 890 1 ∧ Xi T117 890 1 ≤ 5126 := hHT117.c _ _
              refine l_callV rfl rfl rfl (t_gr_take hHT117 13 ⟨by omega, by omega⟩ (by first | assumption | omega) (by first | assumption | omega) (by first | assumption | omega) _) ?_
              rintro _ T118 ⟨hHT118, w1275, z1274, rfl, w1274, w1270, w1271, w1272, w1273⟩
              have hFT118 : FR md_gr_checkOthers S T118 := FR.tr hFT117 w1275 rfl
              show Rl _ _ _ _ _ [iv z1274] _ _
              refine l_if_eq rfl rfl (by unfold rg; omega) (fun w1276 => ?_) (fun w1277 => ?_)
              · refine l_iconst rfl ?_
                refine l_ireturn rfl rfl ?_
                have w1278 : Xi T118 890 2 = Xi U116 890 2 := (show Xi T118 890 2 = Xi T117 890 2 from w1275.x _ _ rfl).trans ((show Xi T117 890 2 = Xi U116 890 2 from w1262.x _ _ rfl))
                have w1279 : 0 ≤ Xi U116 890 2 ∧ Xi U116 890 2 ≤ 20 := hHU116.c _ _
                exact ⟨hHT118, hFT118, _, rfl, ⟨by omega, by omega⟩, (by first | assumption | omega)⟩
              · refine l_aload_n rfl rfl ?_
                refine l_bipush rfl rfl ?_
                have w1280 : Xi T118 876 7 = Xi S 876 7 := (show Xi T118 876 7 = Xi T117 876 7 from w1275.x _ _ rfl).trans ( (show Xi T117 876 7 = Xi U116 876 7 from w1262.x _ _ rfl).trans ( (show Xi U116 876 7 = Xi U105 876 7 from by rw [eU116]; exact Xi_ne (by omega)).trans ( (show Xi U105 876 7 = Xi U104 876 7 from by rw [eU105]; exact Xi_ne (by omega)).trans ((show Xi U104 876 7 = Xi S 876 7 from by rw [eU104]; exact Xi_ne (by omega))))))
                have w1281 : 0 ≤ Xi S 876 7 ∧ Xi S 876 7 ≤ 5125 := hH.c _ _
                have w1282 : 0 ≤ Xi T118 890 1 ∧ Xi T118 890 1 ≤ 5126 := hHT118.c _ _
                refine l_callV rfl rfl rfl (t_gr_take hHT118 14 ⟨by omega, by omega⟩ (by first | assumption | omega) (by first | assumption | omega) (by first | assumption | omega) _) ?_
                rintro _ T119 ⟨hHT119, w1288, z1287, rfl, w1287, w1283, w1284, w1285, w1286⟩
                have hFT119 : FR md_gr_checkOthers S T119 := FR.tr hFT118 w1288 rfl
                show Rl _ _ _ _ _ [iv z1287] _ _
                refine l_if_eq rfl rfl (by unfold rg; omega) (fun w1289 => ?_) (fun w1290 => ?_)
                · refine l_iconst rfl ?_
                  refine l_ireturn rfl rfl ?_
                  have w1291 : Xi T119 890 2 = Xi U116 890 2 := (show Xi T119 890 2 = Xi T118 890 2 from w1288.x _ _ rfl).trans ( (show Xi T118 890 2 = Xi T117 890 2 from w1275.x _ _ rfl).trans ((show Xi T117 890 2 = Xi U116 890 2 from w1262.x _ _ rfl)))
                  have w1292 : 0 ≤ Xi U116 890 2 ∧ Xi U116 890 2 ≤ 20 := hHU116.c _ _
                  exact ⟨hHT119, hFT119, _, rfl, ⟨by omega, by omega⟩, (by first | assumption | omega)⟩
                · refine l_aload_n rfl rfl ?_
                  have w1293 : Xi T119 876 7 = Xi S 876 7 := (show Xi T119 876 7 = Xi T118 876 7 from w1288.x _ _ rfl).trans ( (show Xi T118 876 7 = Xi T117 876 7 from w1275.x _ _ rfl).trans ( (show Xi T117 876 7 = Xi U116 876 7 from w1262.x _ _ rfl).trans ( (show Xi U116 876 7 = Xi U105 876 7 from by rw [eU116]; exact Xi_ne (by omega)).trans ( (show Xi U105 876 7 = Xi U104 876 7 from by rw [eU105]; exact Xi_ne (by omega)).trans ((show Xi U104 876 7 = Xi S 876 7 from by rw [eU104]; exact Xi_ne (by omega)))))))
                  have w1294 : 0 ≤ Xi S 876 7 ∧ Xi S 876 7 ≤ 5125 := hH.c _ _
                  have w1295 : 0 ≤ Xi T119 890 1 ∧ Xi T119 890 1 ≤ 5126 := hHT119.c _ _
                  refine l_callV rfl rfl rfl (t_gr_takeRun hHT119 (by first | assumption | omega) (by first | assumption | omega) _) ?_
                  rintro _ T120 ⟨hHT120, w1300, z1299, rfl, w1299, w1296, w1297, w1298⟩
                  have hFT120 : FR md_gr_checkOthers S T120 := FR.tr hFT119 w1300 rfl
                  show Rl _ _ _ _ _ [iv z1299] _ _
                  refine l_if_eq rfl rfl (by unfold rg; omega) (fun w1301 => ?_) (fun w1302 => ?_)
                  · refine l_iconst rfl ?_
                    refine l_ireturn rfl rfl ?_
                    have w1303 : Xi T120 890 2 = Xi U116 890 2 := (show Xi T120 890 2 = Xi T119 890 2 from w1300.x _ _ rfl).trans ( (show Xi T119 890 2 = Xi T118 890 2 from w1288.x _ _ rfl).trans ( (show Xi T118 890 2 = Xi T117 890 2 from w1275.x _ _ rfl).trans ((show Xi T117 890 2 = Xi U116 890 2 from w1262.x _ _ rfl))))
                    have w1304 : 0 ≤ Xi U116 890 2 ∧ Xi U116 890 2 ≤ 20 := hHU116.c _ _
                    exact ⟨hHT120, hFT120, _, rfl, ⟨by omega, by omega⟩, (by first | assumption | omega)⟩
                  · refine l_aload_n rfl rfl ?_
                    refine l_bipush rfl rfl ?_
                    have w1305 : Xi T120 876 7 = Xi S 876 7 := (show Xi T120 876 7 = Xi T119 876 7 from w1300.x _ _ rfl).trans ( (show Xi T119 876 7 = Xi T118 876 7 from w1288.x _ _ rfl).trans ( (show Xi T118 876 7 = Xi T117 876 7 from w1275.x _ _ rfl).trans ( (show Xi T117 876 7 = Xi U116 876 7 from w1262.x _ _ rfl).trans ( (show Xi U116 876 7 = Xi U105 876 7 from by rw [eU116]; exact Xi_ne (by omega)).trans ( (show Xi U105 876 7 = Xi U104 876 7 from by rw [eU105]; exact Xi_ne (by omega)).trans ((show Xi U104 876 7 = Xi S 876 7 from by rw [eU104]; exact Xi_ne (by omega))))))))
                    have w1306 : 0 ≤ Xi S 876 7 ∧ Xi S 876 7 ≤ 5125 := hH.c _ _
                    have w1307 : 0 ≤ Xi T120 890 1 ∧ Xi T120 890 1 ≤ 5126 := hHT120.c _ _
                    refine l_callV rfl rfl rfl (t_gr_take hHT120 15 ⟨by omega, by omega⟩ (by first | assumption | omega) (by first | assumption | omega) (by first | assumption | omega) _) ?_
                    rintro _ T121 ⟨hHT121, w1313, z1312, rfl, w1312, w1308, w1309, w1310, w1311⟩
                    have hFT121 : FR md_gr_checkOthers S T121 := FR.tr hFT120 w1313 rfl
                    show Rl _ _ _ _ _ [iv z1312] _ _
                    refine l_if_eq rfl rfl (by unfold rg; omega) (fun w1314 => ?_) (fun w1315 => ?_)
                    · refine l_iconst rfl ?_
                      refine l_ireturn rfl rfl ?_
                      have w1316 : Xi T121 890 2 = Xi U116 890 2 := (show Xi T121 890 2 = Xi T120 890 2 from w1313.x _ _ rfl).trans ( (show Xi T120 890 2 = Xi T119 890 2 from w1300.x _ _ rfl).trans ( (show Xi T119 890 2 = Xi T118 890 2 from w1288.x _ _ rfl).trans ( (show Xi T118 890 2 = Xi T117 890 2 from w1275.x _ _ rfl).trans ((show Xi T117 890 2 = Xi U116 890 2 from w1262.x _ _ rfl)))))
                      have w1317 : 0 ≤ Xi U116 890 2 ∧ Xi U116 890 2 ≤ 20 := hHU116.c _ _
                      exact ⟨hHT121, hFT121, _, rfl, ⟨by omega, by omega⟩, (by first | assumption | omega)⟩
                    · refine l_aload_n rfl rfl ?_
                      have w1318 : Xi T121 876 7 = Xi S 876 7 := (show Xi T121 876 7 = Xi T120 876 7 from w1313.x _ _ rfl).trans ( (show Xi T120 876 7 = Xi T119 876 7 from w1300.x _ _ rfl).trans ( (show Xi T119 876 7 = Xi T118 876 7 from w1288.x _ _ rfl).trans ( (show Xi T118 876 7 = Xi T117 876 7 from w1275.x _ _ rfl).trans ( (show Xi T117 876 7 = Xi U116 876 7 from w1262.x _ _ rfl).trans ( (show Xi U116 876 7 = Xi U105 876 7 from by rw [eU116]; exact Xi_ne (by omega)).trans ( (show Xi U105 876 7 = Xi U104 876 7 from by rw [eU105]; exact Xi_ne (by omega)).trans ((show Xi U104 876 7 = Xi S 876 7 from by rw [eU104]; exact Xi_ne (by omega)))))))))
                      have w1319 : 0 ≤ Xi S 876 7 ∧ Xi S 876 7 ≤ 5125 := hH.c _ _
                      have w1320 : 0 ≤ Xi T121 890 1 ∧ Xi T121 890 1 ≤ 5126 := hHT121.c _ _
                      refine l_callV rfl rfl rfl (t_gr_takeRun hHT121 (by first | assumption | omega) (by first | assumption | omega) _) ?_
                      rintro _ T122 ⟨hHT122, w1325, z1324, rfl, w1324, w1321, w1322, w1323⟩
                      have hFT122 : FR md_gr_checkOthers S T122 := FR.tr hFT121 w1325 rfl
                      show Rl _ _ _ _ _ [iv z1324] _ _
                      refine l_if_eq rfl rfl (by unfold rg; omega) (fun w1326 => ?_) (fun w1327 => ?_)
                      · refine l_iconst rfl ?_
                        refine l_ireturn rfl rfl ?_
                        have w1328 : Xi T122 890 2 = Xi U116 890 2 := (show Xi T122 890 2 = Xi T121 890 2 from w1325.x _ _ rfl).trans ( (show Xi T121 890 2 = Xi T120 890 2 from w1313.x _ _ rfl).trans ( (show Xi T120 890 2 = Xi T119 890 2 from w1300.x _ _ rfl).trans ( (show Xi T119 890 2 = Xi T118 890 2 from w1288.x _ _ rfl).trans ( (show Xi T118 890 2 = Xi T117 890 2 from w1275.x _ _ rfl).trans ((show Xi T117 890 2 = Xi U116 890 2 from w1262.x _ _ rfl))))))
                        have w1329 : 0 ≤ Xi U116 890 2 ∧ Xi U116 890 2 ≤ 20 := hHU116.c _ _
                        exact ⟨hHT122, hFT122, _, rfl, ⟨by omega, by omega⟩, (by first | assumption | omega)⟩
                      · refine l_aload_n rfl rfl ?_
                        refine l_bipush rfl rfl ?_
                        have w1330 : Xi T122 876 7 = Xi S 876 7 := (show Xi T122 876 7 = Xi T121 876 7 from w1325.x _ _ rfl).trans ( (show Xi T121 876 7 = Xi T120 876 7 from w1313.x _ _ rfl).trans ( (show Xi T120 876 7 = Xi T119 876 7 from w1300.x _ _ rfl).trans ( (show Xi T119 876 7 = Xi T118 876 7 from w1288.x _ _ rfl).trans ( (show Xi T118 876 7 = Xi T117 876 7 from w1275.x _ _ rfl).trans ( (show Xi T117 876 7 = Xi U116 876 7 from w1262.x _ _ rfl).trans ( (show Xi U116 876 7 = Xi U105 876 7 from by rw [eU116]; exact Xi_ne (by omega)).trans ( (show Xi U105 876 7 = Xi U104 876 7 from by rw [eU105]; exact Xi_ne (by omega)).trans ((show Xi U104 876 7 = Xi S 876 7 from by rw [eU104]; exact Xi_ne (by omega))))))))))
                        have w1331 : 0 ≤ Xi S 876 7 ∧ Xi S 876 7 ≤ 5125 := hH.c _ _
                        have w1332 : 0 ≤ Xi T122 890 1 ∧ Xi T122 890 1 ≤ 5126 := hHT122.c _ _
                        refine l_callV rfl rfl rfl (t_gr_take hHT122 103 ⟨by omega, by omega⟩ (by first | assumption | omega) (by first | assumption | omega) (by first | assumption | omega) _) ?_
                        rintro _ T123 ⟨hHT123, w1338, z1337, rfl, w1337, w1333, w1334, w1335, w1336⟩
                        have hFT123 : FR md_gr_checkOthers S T123 := FR.tr hFT122 w1338 rfl
                        show Rl _ _ _ _ _ [iv z1337] _ _
                        refine l_if_eq rfl rfl (by unfold rg; omega) (fun w1339 => ?_) (fun w1340 => ?_)
                        · refine l_iconst rfl ?_
                          refine l_ireturn rfl rfl ?_
                          have w1341 : Xi T123 890 2 = Xi U116 890 2 := (show Xi T123 890 2 = Xi T122 890 2 from w1338.x _ _ rfl).trans ( (show Xi T122 890 2 = Xi T121 890 2 from w1325.x _ _ rfl).trans ( (show Xi T121 890 2 = Xi T120 890 2 from w1313.x _ _ rfl).trans ( (show Xi T120 890 2 = Xi T119 890 2 from w1300.x _ _ rfl).trans ( (show Xi T119 890 2 = Xi T118 890 2 from w1288.x _ _ rfl).trans ( (show Xi T118 890 2 = Xi T117 890 2 from w1275.x _ _ rfl).trans ((show Xi T117 890 2 = Xi U116 890 2 from w1262.x _ _ rfl)))))))
                          have w1342 : 0 ≤ Xi U116 890 2 ∧ Xi U116 890 2 ≤ 20 := hHU116.c _ _
                          exact ⟨hHT123, hFT123, _, rfl, ⟨by omega, by omega⟩, (by first | assumption | omega)⟩
                        · refine l_iconst rfl ?_
                          refine l_goto rfl rfl ?_
                          refine l_ireturn rfl rfl ?_
                          have w1343 : Xi T123 890 2 = Xi U116 890 2 := (show Xi T123 890 2 = Xi T122 890 2 from w1338.x _ _ rfl).trans ( (show Xi T122 890 2 = Xi T121 890 2 from w1325.x _ _ rfl).trans ( (show Xi T121 890 2 = Xi T120 890 2 from w1313.x _ _ rfl).trans ( (show Xi T120 890 2 = Xi T119 890 2 from w1300.x _ _ rfl).trans ( (show Xi T119 890 2 = Xi T118 890 2 from w1288.x _ _ rfl).trans ( (show Xi T118 890 2 = Xi T117 890 2 from w1275.x _ _ rfl).trans ((show Xi T117 890 2 = Xi U116 890 2 from w1262.x _ _ rfl)))))))
                          have w1344 : 0 ≤ Xi U116 890 2 ∧ Xi U116 890 2 ≤ 20 := hHU116.c _ _
                          exact ⟨hHT123, hFT123, _, rfl, ⟨by omega, by omega⟩, (by first | assumption | omega)⟩
          refine And.intro (fun w1345 => ⟨_, rfl, ?_⟩) (fun w1346 => ?_)
          · refine l_aload_n rfl rfl ?_
            refine l_bipush rfl rfl ?_
            refine l_pfi rfl rfl rfl rfl ?_
            obtain ⟨U124, eU124⟩ : ∃ T : sS, T = uI U105 890 2 (Int32.ofInt 19) := ⟨_, rfl⟩
            rw [← eU124]
            have hHU124 : HI U124 := by rw [eU124]; exact HI_w hHU105 (show 0 ≤ 19 by omega) (show 19 ≤ 20 by omega)
            have hFU124 : FR md_gr_checkOthers S U124 := by rw [eU124]; exact FR.wI hFU105 (mdf_i (r := (890, 891, 2, 3)) (List.mem_of_getElem? (i := 1) rfl) (inR_i (by omega) (by omega) (by omega) (by omega)))
            have w1347 : Xi U124 890 2 = 19 := by rw [eU124]; exact Xi_same (by unfold rg; omega)
            have hso404 : SAY U124 (Xi U124 890 1) := SAY_sort eU124 (by assumption) (by decide)
            refine l_aload_n rfl rfl ?_
            have w1348 : Xi U124 876 7 = Xi S 876 7 := (show Xi U124 876 7 = Xi U105 876 7 from by rw [eU124]; exact Xi_ne (by omega)).trans ( (show Xi U105 876 7 = Xi U104 876 7 from by rw [eU105]; exact Xi_ne (by omega)).trans ((show Xi U104 876 7 = Xi S 876 7 from by rw [eU104]; exact Xi_ne (by omega))))
            have w1349 : 0 ≤ Xi S 876 7 ∧ Xi S 876 7 ≤ 5125 := hH.c _ _
            have w1350 : Xi U124 890 1 = Xi U104 890 1 := (show Xi U124 890 1 = Xi U105 890 1 from by rw [eU124]; exact Xi_ne (by omega)).trans ((show Xi U105 890 1 = Xi U104 890 1 from by rw [eU105]; exact Xi_ne (by omega)))
            have w1351 : 0 ≤ Xi U104 890 1 ∧ Xi U104 890 1 ≤ 5126 := hHU104.c _ _
            refine l_callV rfl rfl rfl (t_gr_takeName hHU124 (by first | assumption | omega) (by first | assumption | omega) _) ?_
            rintro _ T125 ⟨hHT125, w1355, z1354, rfl, w1354, w1352, w1353⟩
            have hFT125 : FR md_gr_checkOthers S T125 := FR.tr hFU124 w1355 rfl
            show Rl _ _ _ _ _ [iv z1354] _ _
            refine l_if_eq rfl rfl (by unfold rg; omega) (fun w1356 => ?_) (fun w1357 => ?_)
            · refine l_iconst rfl ?_
              refine l_ireturn rfl rfl ?_
              have w1358 : Xi T125 890 2 = Xi U124 890 2 := (show Xi T125 890 2 = Xi U124 890 2 from w1355.x _ _ rfl)
              have w1359 : 0 ≤ Xi U124 890 2 ∧ Xi U124 890 2 ≤ 20 := hHU124.c _ _
              exact ⟨hHT125, hFT125, _, rfl, ⟨by omega, by omega⟩, (by first | assumption | omega)⟩
            · refine l_aload_n rfl rfl ?_
              refine l_bipush rfl rfl ?_
              have w1360 : Xi T125 876 7 = Xi S 876 7 := (show Xi T125 876 7 = Xi U124 876 7 from w1355.x _ _ rfl).trans ( (show Xi U124 876 7 = Xi U105 876 7 from by rw [eU124]; exact Xi_ne (by omega)).trans ( (show Xi U105 876 7 = Xi U104 876 7 from by rw [eU105]; exact Xi_ne (by omega)).trans ((show Xi U104 876 7 = Xi S 876 7 from by rw [eU104]; exact Xi_ne (by omega)))))
              have w1361 : 0 ≤ Xi S 876 7 ∧ Xi S 876 7 ≤ 5125 := hH.c _ _
              have w1362 : 0 ≤ Xi T125 890 1 ∧ Xi T125 890 1 ≤ 5126 := hHT125.c _ _
              refine l_callV rfl rfl rfl (t_gr_take hHT125 21 ⟨by omega, by omega⟩ (by first | assumption | omega) (by first | assumption | omega) (by first | assumption | omega) _) ?_
              rintro _ T126 ⟨hHT126, w1368, z1367, rfl, w1367, w1363, w1364, w1365, w1366⟩
              have hFT126 : FR md_gr_checkOthers S T126 := FR.tr hFT125 w1368 rfl
              show Rl _ _ _ _ _ [iv z1367] _ _
              refine l_if_eq rfl rfl (by unfold rg; omega) (fun w1369 => ?_) (fun w1370 => ?_)
              · refine l_iconst rfl ?_
                refine l_ireturn rfl rfl ?_
                have w1371 : Xi T126 890 2 = Xi U124 890 2 := (show Xi T126 890 2 = Xi T125 890 2 from w1368.x _ _ rfl).trans ((show Xi T125 890 2 = Xi U124 890 2 from w1355.x _ _ rfl))
                have w1372 : 0 ≤ Xi U124 890 2 ∧ Xi U124 890 2 ≤ 20 := hHU124.c _ _
                exact ⟨hHT126, hFT126, _, rfl, ⟨by omega, by omega⟩, (by first | assumption | omega)⟩
              · refine l_aload_n rfl rfl ?_
                have w1373 : Xi T126 876 7 = Xi S 876 7 := (show Xi T126 876 7 = Xi T125 876 7 from w1368.x _ _ rfl).trans ( (show Xi T125 876 7 = Xi U124 876 7 from w1355.x _ _ rfl).trans ( (show Xi U124 876 7 = Xi U105 876 7 from by rw [eU124]; exact Xi_ne (by omega)).trans ( (show Xi U105 876 7 = Xi U104 876 7 from by rw [eU105]; exact Xi_ne (by omega)).trans ((show Xi U104 876 7 = Xi S 876 7 from by rw [eU104]; exact Xi_ne (by omega))))))
                have w1374 : 0 ≤ Xi S 876 7 ∧ Xi S 876 7 ≤ 5125 := hH.c _ _
                have w1375 : 0 ≤ Xi T126 890 1 ∧ Xi T126 890 1 ≤ 5126 := hHT126.c _ _
                refine l_callV rfl rfl rfl (t_gr_takeHowMany hHT126 (by first | assumption | omega) (by first | assumption | omega) _) ?_
                rintro _ T127 ⟨hHT127, w1379, z1378, rfl, w1378, w1376, w1377⟩
                have hFT127 : FR md_gr_checkOthers S T127 := FR.tr hFT126 w1379 rfl
                show Rl _ _ _ _ _ [iv z1378] _ _
                refine l_if_eq rfl rfl (by unfold rg; omega) (fun w1380 => ?_) (fun w1381 => ?_)
                · refine l_iconst rfl ?_
                  refine l_ireturn rfl rfl ?_
                  have w1382 : Xi T127 890 2 = Xi U124 890 2 := (show Xi T127 890 2 = Xi T126 890 2 from w1379.x _ _ rfl).trans ( (show Xi T126 890 2 = Xi T125 890 2 from w1368.x _ _ rfl).trans ((show Xi T125 890 2 = Xi U124 890 2 from w1355.x _ _ rfl)))
                  have w1383 : 0 ≤ Xi U124 890 2 ∧ Xi U124 890 2 ≤ 20 := hHU124.c _ _
                  exact ⟨hHT127, hFT127, _, rfl, ⟨by omega, by omega⟩, (by first | assumption | omega)⟩
                · refine l_aload_n rfl rfl ?_
                  have w1384 : Xi T127 876 7 = Xi S 876 7 := (show Xi T127 876 7 = Xi T126 876 7 from w1379.x _ _ rfl).trans ( (show Xi T126 876 7 = Xi T125 876 7 from w1368.x _ _ rfl).trans ( (show Xi T125 876 7 = Xi U124 876 7 from w1355.x _ _ rfl).trans ( (show Xi U124 876 7 = Xi U105 876 7 from by rw [eU124]; exact Xi_ne (by omega)).trans ( (show Xi U105 876 7 = Xi U104 876 7 from by rw [eU105]; exact Xi_ne (by omega)).trans ((show Xi U104 876 7 = Xi S 876 7 from by rw [eU104]; exact Xi_ne (by omega)))))))
                  have w1385 : 0 ≤ Xi S 876 7 ∧ Xi S 876 7 ≤ 5125 := hH.c _ _
                  have w1386 : 0 ≤ Xi T127 890 1 ∧ Xi T127 890 1 ≤ 5126 := hHT127.c _ _
                  refine l_callV rfl rfl rfl (t_gr_takeRun hHT127 (by first | assumption | omega) (by first | assumption | omega) _) ?_
                  rintro _ T128 ⟨hHT128, w1391, z1390, rfl, w1390, w1387, w1388, w1389⟩
                  have hFT128 : FR md_gr_checkOthers S T128 := FR.tr hFT127 w1391 rfl
                  show Rl _ _ _ _ _ [iv z1390] _ _
                  refine l_if_eq rfl rfl (by unfold rg; omega) (fun w1392 => ?_) (fun w1393 => ?_)
                  · refine l_iconst rfl ?_
                    refine l_ireturn rfl rfl ?_
                    have w1394 : Xi T128 890 2 = Xi U124 890 2 := (show Xi T128 890 2 = Xi T127 890 2 from w1391.x _ _ rfl).trans ( (show Xi T127 890 2 = Xi T126 890 2 from w1379.x _ _ rfl).trans ( (show Xi T126 890 2 = Xi T125 890 2 from w1368.x _ _ rfl).trans ((show Xi T125 890 2 = Xi U124 890 2 from w1355.x _ _ rfl))))
                    have w1395 : 0 ≤ Xi U124 890 2 ∧ Xi U124 890 2 ≤ 20 := hHU124.c _ _
                    exact ⟨hHT128, hFT128, _, rfl, ⟨by omega, by omega⟩, (by first | assumption | omega)⟩
                  · refine l_aload_n rfl rfl ?_
                    refine l_bipush rfl rfl ?_
                    have w1396 : Xi T128 876 7 = Xi S 876 7 := (show Xi T128 876 7 = Xi T127 876 7 from w1391.x _ _ rfl).trans ( (show Xi T127 876 7 = Xi T126 876 7 from w1379.x _ _ rfl).trans ( (show Xi T126 876 7 = Xi T125 876 7 from w1368.x _ _ rfl).trans ( (show Xi T125 876 7 = Xi U124 876 7 from w1355.x _ _ rfl).trans ( (show Xi U124 876 7 = Xi U105 876 7 from by rw [eU124]; exact Xi_ne (by omega)).trans ( (show Xi U105 876 7 = Xi U104 876 7 from by rw [eU105]; exact Xi_ne (by omega)).trans ((show Xi U104 876 7 = Xi S 876 7 from by rw [eU104]; exact Xi_ne (by omega))))))))
                    have w1397 : 0 ≤ Xi S 876 7 ∧ Xi S 876 7 ≤ 5125 := hH.c _ _
                    have w1398 : 0 ≤ Xi T128 890 1 ∧ Xi T128 890 1 ≤ 5126 := hHT128.c _ _
                    refine l_callV rfl rfl rfl (t_gr_take hHT128 11 ⟨by omega, by omega⟩ (by first | assumption | omega) (by first | assumption | omega) (by first | assumption | omega) _) ?_
                    rintro _ T129 ⟨hHT129, w1404, z1403, rfl, w1403, w1399, w1400, w1401, w1402⟩
                    have hFT129 : FR md_gr_checkOthers S T129 := FR.tr hFT128 w1404 rfl
                    show Rl _ _ _ _ _ [iv z1403] _ _
                    refine l_if_eq rfl rfl (by unfold rg; omega) (fun w1405 => ?_) (fun w1406 => ?_)
                    · refine l_iconst rfl ?_
                      refine l_ireturn rfl rfl ?_
                      have w1407 : Xi T129 890 2 = Xi U124 890 2 := (show Xi T129 890 2 = Xi T128 890 2 from w1404.x _ _ rfl).trans ( (show Xi T128 890 2 = Xi T127 890 2 from w1391.x _ _ rfl).trans ( (show Xi T127 890 2 = Xi T126 890 2 from w1379.x _ _ rfl).trans ( (show Xi T126 890 2 = Xi T125 890 2 from w1368.x _ _ rfl).trans ((show Xi T125 890 2 = Xi U124 890 2 from w1355.x _ _ rfl)))))
                      have w1408 : 0 ≤ Xi U124 890 2 ∧ Xi U124 890 2 ≤ 20 := hHU124.c _ _
                      exact ⟨hHT129, hFT129, _, rfl, ⟨by omega, by omega⟩, (by first | assumption | omega)⟩
                    · refine l_aload_n rfl rfl ?_
                      have w1409 : Xi T129 876 7 = Xi S 876 7 := (show Xi T129 876 7 = Xi T128 876 7 from w1404.x _ _ rfl).trans ( (show Xi T128 876 7 = Xi T127 876 7 from w1391.x _ _ rfl).trans ( (show Xi T127 876 7 = Xi T126 876 7 from w1379.x _ _ rfl).trans ( (show Xi T126 876 7 = Xi T125 876 7 from w1368.x _ _ rfl).trans ( (show Xi T125 876 7 = Xi U124 876 7 from w1355.x _ _ rfl).trans ( (show Xi U124 876 7 = Xi U105 876 7 from by rw [eU124]; exact Xi_ne (by omega)).trans ( (show Xi U105 876 7 = Xi U104 876 7 from by rw [eU105]; exact Xi_ne (by omega)).trans ((show Xi U104 876 7 = Xi S 876 7 from by rw [eU104]; exact Xi_ne (by omega)))))))))
                      have w1410 : 0 ≤ Xi S 876 7 ∧ Xi S 876 7 ≤ 5125 := hH.c _ _
                      have w1411 : 0 ≤ Xi T129 890 1 ∧ Xi T129 890 1 ≤ 5126 := hHT129.c _ _
                      refine l_callV rfl rfl rfl (t_gr_takeHowMany hHT129 (by first | assumption | omega) (by first | assumption | omega) _) ?_
                      rintro _ T130 ⟨hHT130, w1415, z1414, rfl, w1414, w1412, w1413⟩
                      have hFT130 : FR md_gr_checkOthers S T130 := FR.tr hFT129 w1415 rfl
                      show Rl _ _ _ _ _ [iv z1414] _ _
                      refine l_if_eq rfl rfl (by unfold rg; omega) (fun w1416 => ?_) (fun w1417 => ?_)
                      · refine l_iconst rfl ?_
                        refine l_ireturn rfl rfl ?_
                        have w1418 : Xi T130 890 2 = Xi U124 890 2 := (show Xi T130 890 2 = Xi T129 890 2 from w1415.x _ _ rfl).trans ( (show Xi T129 890 2 = Xi T128 890 2 from w1404.x _ _ rfl).trans ( (show Xi T128 890 2 = Xi T127 890 2 from w1391.x _ _ rfl).trans ( (show Xi T127 890 2 = Xi T126 890 2 from w1379.x _ _ rfl).trans ( (show Xi T126 890 2 = Xi T125 890 2 from w1368.x _ _ rfl).trans ((show Xi T125 890 2 = Xi U124 890 2 from w1355.x _ _ rfl))))))
                        have w1419 : 0 ≤ Xi U124 890 2 ∧ Xi U124 890 2 ≤ 20 := hHU124.c _ _
                        exact ⟨hHT130, hFT130, _, rfl, ⟨by omega, by omega⟩, (by first | assumption | omega)⟩
                      · refine l_aload_n rfl rfl ?_
                        have w1420 : Xi T130 876 7 = Xi S 876 7 := (show Xi T130 876 7 = Xi T129 876 7 from w1415.x _ _ rfl).trans ( (show Xi T129 876 7 = Xi T128 876 7 from w1404.x _ _ rfl).trans ( (show Xi T128 876 7 = Xi T127 876 7 from w1391.x _ _ rfl).trans ( (show Xi T127 876 7 = Xi T126 876 7 from w1379.x _ _ rfl).trans ( (show Xi T126 876 7 = Xi T125 876 7 from w1368.x _ _ rfl).trans ( (show Xi T125 876 7 = Xi U124 876 7 from w1355.x _ _ rfl).trans ( (show Xi U124 876 7 = Xi U105 876 7 from by rw [eU124]; exact Xi_ne (by omega)).trans ( (show Xi U105 876 7 = Xi U104 876 7 from by rw [eU105]; exact Xi_ne (by omega)).trans ((show Xi U104 876 7 = Xi S 876 7 from by rw [eU104]; exact Xi_ne (by omega))))))))))
                        have w1421 : 0 ≤ Xi S 876 7 ∧ Xi S 876 7 ≤ 5125 := hH.c _ _
                        have w1422 : 0 ≤ Xi T130 890 1 ∧ Xi T130 890 1 ≤ 5126 := hHT130.c _ _
                        refine l_callV rfl rfl rfl (t_gr_takeRun hHT130 (by first | assumption | omega) (by first | assumption | omega) _) ?_
                        rintro _ T131 ⟨hHT131, w1427, z1426, rfl, w1426, w1423, w1424, w1425⟩
                        have hFT131 : FR md_gr_checkOthers S T131 := FR.tr hFT130 w1427 rfl
                        show Rl _ _ _ _ _ [iv z1426] _ _
                        refine l_if_eq rfl rfl (by unfold rg; omega) (fun w1428 => ?_) (fun w1429 => ?_)
                        · refine l_iconst rfl ?_
                          refine l_ireturn rfl rfl ?_
                          have w1430 : Xi T131 890 2 = Xi U124 890 2 := (show Xi T131 890 2 = Xi T130 890 2 from w1427.x _ _ rfl).trans ( (show Xi T130 890 2 = Xi T129 890 2 from w1415.x _ _ rfl).trans ( (show Xi T129 890 2 = Xi T128 890 2 from w1404.x _ _ rfl).trans ( (show Xi T128 890 2 = Xi T127 890 2 from w1391.x _ _ rfl).trans ( (show Xi T127 890 2 = Xi T126 890 2 from w1379.x _ _ rfl).trans ( (show Xi T126 890 2 = Xi T125 890 2 from w1368.x _ _ rfl).trans ((show Xi T125 890 2 = Xi U124 890 2 from w1355.x _ _ rfl)))))))
                          have w1431 : 0 ≤ Xi U124 890 2 ∧ Xi U124 890 2 ≤ 20 := hHU124.c _ _
                          exact ⟨hHT131, hFT131, _, rfl, ⟨by omega, by omega⟩, (by first | assumption | omega)⟩
                        · refine l_aload_n rfl rfl ?_
                          refine l_bipush rfl rfl ?_
                          have w1432 : Xi T131 876 7 = Xi S 876 7 := (show Xi T131 876 7 = Xi T130 876 7 from w1427.x _ _ rfl).trans ( (show Xi T130 876 7 = Xi T129 876 7 from w1415.x _ _ rfl).trans ( (show Xi T129 876 7 = Xi T128 876 7 from w1404.x _ _ rfl).trans ( (show Xi T128 876 7 = Xi T127 876 7 from w1391.x _ _ rfl).trans ( (show Xi T127 876 7 = Xi T126 876 7 from w1379.x _ _ rfl).trans ( (show Xi T126 876 7 = Xi T125 876 7 from w1368.x _ _ rfl).trans ( (show Xi T125 876 7 = Xi U124 876 7 from w1355.x _ _ rfl).trans ( (show Xi U124 876 7 = Xi U105 876 7 from by rw [eU124]; exact Xi_ne (by omega)).trans ( (show Xi U105 876 7 = Xi U104 876 7 from by rw [eU105]; exact Xi_ne (by omega)).trans ((show Xi U104 876 7 = Xi S 876 7 from by rw [eU104]; exact Xi_ne (by omega)))))))))))
                          have w1433 : 0 ≤ Xi S 876 7 ∧ Xi S 876 7 ≤ 5125 := hH.c _ _
                          have w1434 : 0 ≤ Xi T131 890 1 ∧ Xi T131 890 1 ≤ 5126 := hHT131.c _ _
                          refine l_callV rfl rfl rfl (t_gr_take hHT131 103 ⟨by omega, by omega⟩ (by first | assumption | omega) (by first | assumption | omega) (by first | assumption | omega) _) ?_
                          rintro _ T132 ⟨hHT132, w1440, z1439, rfl, w1439, w1435, w1436, w1437, w1438⟩
                          have hFT132 : FR md_gr_checkOthers S T132 := FR.tr hFT131 w1440 rfl
                          show Rl _ _ _ _ _ [iv z1439] _ _
                          refine l_if_eq rfl rfl (by unfold rg; omega) (fun w1441 => ?_) (fun w1442 => ?_)
                          · refine l_iconst rfl ?_
                            refine l_ireturn rfl rfl ?_
                            have w1443 : Xi T132 890 2 = Xi U124 890 2 := (show Xi T132 890 2 = Xi T131 890 2 from w1440.x _ _ rfl).trans ( (show Xi T131 890 2 = Xi T130 890 2 from w1427.x _ _ rfl).trans ( (show Xi T130 890 2 = Xi T129 890 2 from w1415.x _ _ rfl).trans ( (show Xi T129 890 2 = Xi T128 890 2 from w1404.x _ _ rfl).trans ( (show Xi T128 890 2 = Xi T127 890 2 from w1391.x _ _ rfl).trans ( (show Xi T127 890 2 = Xi T126 890 2 from w1379.x _ _ rfl).trans ( (show Xi T126 890 2 = Xi T125 890 2 from w1368.x _ _ rfl).trans ((show Xi T125 890 2 = Xi U124 890 2 from w1355.x _ _ rfl))))))))
                            have w1444 : 0 ≤ Xi U124 890 2 ∧ Xi U124 890 2 ≤ 20 := hHU124.c _ _
                            exact ⟨hHT132, hFT132, _, rfl, ⟨by omega, by omega⟩, (by first | assumption | omega)⟩
                          · refine l_iconst rfl ?_
                            refine l_goto rfl rfl ?_
                            refine l_ireturn rfl rfl ?_
                            have w1445 : Xi T132 890 2 = Xi U124 890 2 := (show Xi T132 890 2 = Xi T131 890 2 from w1440.x _ _ rfl).trans ( (show Xi T131 890 2 = Xi T130 890 2 from w1427.x _ _ rfl).trans ( (show Xi T130 890 2 = Xi T129 890 2 from w1415.x _ _ rfl).trans ( (show Xi T129 890 2 = Xi T128 890 2 from w1404.x _ _ rfl).trans ( (show Xi T128 890 2 = Xi T127 890 2 from w1391.x _ _ rfl).trans ( (show Xi T127 890 2 = Xi T126 890 2 from w1379.x _ _ rfl).trans ( (show Xi T126 890 2 = Xi T125 890 2 from w1368.x _ _ rfl).trans ((show Xi T125 890 2 = Xi U124 890 2 from w1355.x _ _ rfl))))))))
                            have w1446 : 0 ≤ Xi U124 890 2 ∧ Xi U124 890 2 ≤ 20 := hHU124.c _ _
                            exact ⟨hHT132, hFT132, _, rfl, ⟨by omega, by omega⟩, (by first | assumption | omega)⟩
          refine ⟨_, rfl, ?_⟩
          refine l_aload_n rfl rfl ?_
          refine l_bipush rfl rfl ?_
          refine l_pfi rfl rfl rfl rfl ?_
          obtain ⟨U133, eU133⟩ : ∃ T : sS, T = uI U105 890 2 (Int32.ofInt 20) := ⟨_, rfl⟩
          rw [← eU133]
          have hHU133 : HI U133 := by rw [eU133]; exact HI_w hHU105 (show 0 ≤ 20 by omega) (show 20 ≤ 20 by omega)
          have hFU133 : FR md_gr_checkOthers S U133 := by rw [eU133]; exact FR.wI hFU105 (mdf_i (r := (890, 891, 2, 3)) (List.mem_of_getElem? (i := 1) rfl) (inR_i (by omega) (by omega) (by omega) (by omega)))
          have w1447 : Xi U133 890 2 = 20 := by rw [eU133]; exact Xi_same (by unfold rg; omega)
          have hso478 : SAY U133 (Xi U133 890 1) := SAY_sort eU133 (by assumption) (by decide)
          refine l_aload_n rfl rfl ?_
          refine l_bipush rfl rfl ?_
          refine l_bipush rfl rfl ?_
          have w1448 : Xi U133 876 7 = Xi S 876 7 := (show Xi U133 876 7 = Xi U105 876 7 from by rw [eU133]; exact Xi_ne (by omega)).trans ( (show Xi U105 876 7 = Xi U104 876 7 from by rw [eU105]; exact Xi_ne (by omega)).trans ((show Xi U104 876 7 = Xi S 876 7 from by rw [eU104]; exact Xi_ne (by omega))))
          have w1449 : 0 ≤ Xi S 876 7 ∧ Xi S 876 7 ≤ 5125 := hH.c _ _
          have w1450 : Xi U133 890 1 = Xi U104 890 1 := (show Xi U133 890 1 = Xi U105 890 1 from by rw [eU133]; exact Xi_ne (by omega)).trans ((show Xi U105 890 1 = Xi U104 890 1 from by rw [eU105]; exact Xi_ne (by omega)))
          have w1451 : 0 ≤ Xi U104 890 1 ∧ Xi U104 890 1 ≤ 5126 := hHU104.c _ _
          refine l_callV rfl rfl rfl (t_gr_takeLoose hHU133 16 104 ⟨by omega, by omega⟩ ⟨by omega, by omega⟩ (by first | assumption | omega) (by first | assumption | omega) (by first | assumption | omega) (by first | assumption | omega) _) ?_
          rintro _ T134 ⟨hHT134, w1455, z1454, rfl, w1454, w1452, w1453⟩
          have hFT134 : FR md_gr_checkOthers S T134 := FR.tr hFU133 w1455 rfl
          show Rl _ _ _ _ _ [iv z1454] _ _
          refine l_if_eq rfl rfl (by unfold rg; omega) (fun w1456 => ?_) (fun w1457 => ?_)
          · refine l_iconst rfl ?_
            refine l_ireturn rfl rfl ?_
            have w1458 : Xi T134 890 2 = Xi U133 890 2 := (show Xi T134 890 2 = Xi U133 890 2 from w1455.x _ _ rfl)
            have w1459 : 0 ≤ Xi U133 890 2 ∧ Xi U133 890 2 ≤ 20 := hHU133.c _ _
            exact ⟨hHT134, hFT134, _, rfl, ⟨by omega, by omega⟩, (by first | assumption | omega)⟩
          · refine l_aload_n rfl rfl ?_
            refine l_bipush rfl rfl ?_
            have w1460 : Xi T134 876 7 = Xi S 876 7 := (show Xi T134 876 7 = Xi U133 876 7 from w1455.x _ _ rfl).trans ( (show Xi U133 876 7 = Xi U105 876 7 from by rw [eU133]; exact Xi_ne (by omega)).trans ( (show Xi U105 876 7 = Xi U104 876 7 from by rw [eU105]; exact Xi_ne (by omega)).trans ((show Xi U104 876 7 = Xi S 876 7 from by rw [eU104]; exact Xi_ne (by omega)))))
            have w1461 : 0 ≤ Xi S 876 7 ∧ Xi S 876 7 ≤ 5125 := hH.c _ _
            have w1462 : 0 ≤ Xi T134 890 1 ∧ Xi T134 890 1 ≤ 5126 := hHT134.c _ _
            refine l_callV rfl rfl rfl (t_gr_take hHT134 103 ⟨by omega, by omega⟩ (by first | assumption | omega) (by first | assumption | omega) (by first | assumption | omega) _) ?_
            rintro _ T135 ⟨hHT135, w1468, z1467, rfl, w1467, w1463, w1464, w1465, w1466⟩
            have hFT135 : FR md_gr_checkOthers S T135 := FR.tr hFT134 w1468 rfl
            show Rl _ _ _ _ _ [iv z1467] _ _
            refine l_if_eq rfl rfl (by unfold rg; omega) (fun w1469 => ?_) (fun w1470 => ?_)
            · refine l_iconst rfl ?_
              refine l_ireturn rfl rfl ?_
              have w1471 : Xi T135 890 2 = Xi U133 890 2 := (show Xi T135 890 2 = Xi T134 890 2 from w1468.x _ _ rfl).trans ((show Xi T134 890 2 = Xi U133 890 2 from w1455.x _ _ rfl))
              have w1472 : 0 ≤ Xi U133 890 2 ∧ Xi U133 890 2 ≤ 20 := hHU133.c _ _
              exact ⟨hHT135, hFT135, _, rfl, ⟨by omega, by omega⟩, (by first | assumption | omega)⟩
            · refine l_iconst rfl ?_
              refine l_goto rfl rfl ?_
              refine l_ireturn rfl rfl ?_
              have w1473 : Xi T135 890 2 = Xi U133 890 2 := (show Xi T135 890 2 = Xi T134 890 2 from w1468.x _ _ rfl).trans ((show Xi T134 890 2 = Xi U133 890 2 from w1455.x _ _ rfl))
              have w1474 : 0 ≤ Xi U133 890 2 ∧ Xi U133 890 2 ≤ 20 := hHU133.c _ _
              exact ⟨hHT135, hFT135, _, rfl, ⟨by omega, by omega⟩, (by first | assumption | omega)⟩
        · refine l_aload_n rfl rfl ?_
          refine l_bipush rfl rfl ?_
          refine l_pfi rfl rfl rfl rfl ?_
          obtain ⟨U136, eU136⟩ : ∃ T : sS, T = uI S 890 2 (Int32.ofInt 8) := ⟨_, rfl⟩
          rw [← eU136]
          have hHU136 : HI U136 := by rw [eU136]; exact HI_w hH (show 0 ≤ 8 by omega) (show 8 ≤ 20 by omega)
          have hFU136 : FR md_gr_checkOthers S U136 := by rw [eU136]; exact FR.wI hF (mdf_i (r := (890, 891, 2, 3)) (List.mem_of_getElem? (i := 1) rfl) (inR_i (by omega) (by omega) (by omega) (by omega)))
          have w1475 : Xi U136 890 2 = 8 := by rw [eU136]; exact Xi_same (by unfold rg; omega)
          refine l_aload_n rfl rfl ?_
          refine l_iconst rfl ?_
          refine l_pfi rfl rfl rfl rfl ?_
          obtain ⟨U137, eU137⟩ : ∃ T : sS, T = uI U136 890 1 (Int32.ofInt 2) := ⟨_, rfl⟩
          rw [← eU137]
          have hHU137 : HI U137 := by rw [eU137]; exact HI_w hHU136 (show 0 ≤ 2 by omega) (show 2 ≤ 5126 by omega)
          have hFU137 : FR md_gr_checkOthers S U137 := by rw [eU137]; exact FR.wI hFU136 (mdf_i (r := (890, 891, 1, 2)) (List.mem_of_getElem? (i := 0) rfl) (inR_i (by omega) (by omega) (by omega) (by omega)))
          have w1476 : Xi U137 890 1 = 2 := by rw [eU137]; exact Xi_same (by unfold rg; omega)
          have hs133 : SAY U137 (Xi U137 890 1) := SAY_v2 (by omega) (m877 hFU137 rfl) (by omega) (by omega)
          refine l_aload_n rfl rfl ?_
          refine l_bipush rfl rfl ?_
          have w1477 : Xi U137 876 7 = Xi S 876 7 := (show Xi U137 876 7 = Xi U136 876 7 from by rw [eU137]; exact Xi_ne (by omega)).trans ((show Xi U136 876 7 = Xi S 876 7 from by rw [eU136]; exact Xi_ne (by omega)))
          have w1478 : 0 ≤ Xi S 876 7 ∧ Xi S 876 7 ≤ 5125 := hH.c _ _
          have w1479 : 0 ≤ Xi U137 890 1 ∧ Xi U137 890 1 ≤ 5126 := hHU137.c _ _
          refine l_callV rfl rfl rfl (t_gr_take hHU137 7 ⟨by omega, by omega⟩ (by first | assumption | omega) (by first | assumption | omega) (by first | assumption | omega) _) ?_
          rintro _ T138 ⟨hHT138, w1485, z1484, rfl, w1484, w1480, w1481, w1482, w1483⟩
          have hFT138 : FR md_gr_checkOthers S T138 := FR.tr hFU137 w1485 rfl
          show Rl _ _ _ _ _ [iv z1484] _ _
          refine l_if_eq rfl rfl (by unfold rg; omega) (fun w1486 => ?_) (fun w1487 => ?_)
          · refine l_iconst rfl ?_
            refine l_ireturn rfl rfl ?_
            have w1488 : Xi T138 890 2 = Xi U136 890 2 := (show Xi T138 890 2 = Xi U137 890 2 from w1485.x _ _ rfl).trans ((show Xi U137 890 2 = Xi U136 890 2 from by rw [eU137]; exact Xi_ne (by omega)))
            have w1489 : 0 ≤ Xi U136 890 2 ∧ Xi U136 890 2 ≤ 20 := hHU136.c _ _
            exact ⟨hHT138, hFT138, _, rfl, ⟨by omega, by omega⟩, (by first | assumption | omega)⟩
          · refine l_aload_n rfl rfl ?_
            have w1490 : Xi T138 876 7 = Xi S 876 7 := (show Xi T138 876 7 = Xi U137 876 7 from w1485.x _ _ rfl).trans ( (show Xi U137 876 7 = Xi U136 876 7 from by rw [eU137]; exact Xi_ne (by omega)).trans ((show Xi U136 876 7 = Xi S 876 7 from by rw [eU136]; exact Xi_ne (by omega))))
            have w1491 : 0 ≤ Xi S 876 7 ∧ Xi S 876 7 ≤ 5125 := hH.c _ _
            have w1492 : 0 ≤ Xi T138 890 1 ∧ Xi T138 890 1 ≤ 5126 := hHT138.c _ _
            refine l_callV rfl rfl rfl (t_gr_takeName hHT138 (by first | assumption | omega) (by first | assumption | omega) _) ?_
            rintro _ T139 ⟨hHT139, w1496, z1495, rfl, w1495, w1493, w1494⟩
            have hFT139 : FR md_gr_checkOthers S T139 := FR.tr hFT138 w1496 rfl
            show Rl _ _ _ _ _ [iv z1495] _ _
            refine l_if_eq rfl rfl (by unfold rg; omega) (fun w1497 => ?_) (fun w1498 => ?_)
            · refine l_iconst rfl ?_
              refine l_ireturn rfl rfl ?_
              have w1499 : Xi T139 890 2 = Xi U136 890 2 := (show Xi T139 890 2 = Xi T138 890 2 from w1496.x _ _ rfl).trans ( (show Xi T138 890 2 = Xi U137 890 2 from w1485.x _ _ rfl).trans ((show Xi U137 890 2 = Xi U136 890 2 from by rw [eU137]; exact Xi_ne (by omega))))
              have w1500 : 0 ≤ Xi U136 890 2 ∧ Xi U136 890 2 ≤ 20 := hHU136.c _ _
              exact ⟨hHT139, hFT139, _, rfl, ⟨by omega, by omega⟩, (by first | assumption | omega)⟩
            · refine l_aload_n rfl rfl ?_
              have w1501 : Xi T139 876 7 = Xi S 876 7 := (show Xi T139 876 7 = Xi T138 876 7 from w1496.x _ _ rfl).trans ( (show Xi T138 876 7 = Xi U137 876 7 from w1485.x _ _ rfl).trans ( (show Xi U137 876 7 = Xi U136 876 7 from by rw [eU137]; exact Xi_ne (by omega)).trans ((show Xi U136 876 7 = Xi S 876 7 from by rw [eU136]; exact Xi_ne (by omega)))))
              have w1502 : 0 ≤ Xi S 876 7 ∧ Xi S 876 7 ≤ 5125 := hH.c _ _
              have w1503 : 0 ≤ Xi T139 890 1 ∧ Xi T139 890 1 ≤ 5126 := hHT139.c _ _
              refine l_callV rfl rfl rfl (t_gr_takeBe hHT139 (by first | assumption | omega) (by first | assumption | omega) _) ?_
              rintro _ T140 ⟨hHT140, w1507, z1506, rfl, w1506, w1504, w1505⟩
              have hFT140 : FR md_gr_checkOthers S T140 := FR.tr hFT139 w1507 rfl
              show Rl _ _ _ _ _ [iv z1506] _ _
              refine l_if_eq rfl rfl (by unfold rg; omega) (fun w1508 => ?_) (fun w1509 => ?_)
              · refine l_iconst rfl ?_
                refine l_ireturn rfl rfl ?_
                have w1510 : Xi T140 890 2 = Xi U136 890 2 := (show Xi T140 890 2 = Xi T139 890 2 from w1507.x _ _ rfl).trans ( (show Xi T139 890 2 = Xi T138 890 2 from w1496.x _ _ rfl).trans ( (show Xi T138 890 2 = Xi U137 890 2 from w1485.x _ _ rfl).trans ((show Xi U137 890 2 = Xi U136 890 2 from by rw [eU137]; exact Xi_ne (by omega)))))
                have w1511 : 0 ≤ Xi U136 890 2 ∧ Xi U136 890 2 ≤ 20 := hHU136.c _ _
                exact ⟨hHT140, hFT140, _, rfl, ⟨by omega, by omega⟩, (by first | assumption | omega)⟩
              · refine l_aload_n rfl rfl ?_
                have w1512 : Xi T140 876 7 = Xi S 876 7 := (show Xi T140 876 7 = Xi T139 876 7 from w1507.x _ _ rfl).trans ( (show Xi T139 876 7 = Xi T138 876 7 from w1496.x _ _ rfl).trans ( (show Xi T138 876 7 = Xi U137 876 7 from w1485.x _ _ rfl).trans ( (show Xi U137 876 7 = Xi U136 876 7 from by rw [eU137]; exact Xi_ne (by omega)).trans ((show Xi U136 876 7 = Xi S 876 7 from by rw [eU136]; exact Xi_ne (by omega))))))
                have w1513 : 0 ≤ Xi S 876 7 ∧ Xi S 876 7 ≤ 5125 := hH.c _ _
                have w1514 : 0 ≤ Xi T140 890 1 ∧ Xi T140 890 1 ≤ 5126 := hHT140.c _ _
                refine l_callV rfl rfl rfl (t_gr_takeRun hHT140 (by first | assumption | omega) (by first | assumption | omega) _) ?_
                rintro _ T141 ⟨hHT141, w1519, z1518, rfl, w1518, w1515, w1516, w1517⟩
                have hFT141 : FR md_gr_checkOthers S T141 := FR.tr hFT140 w1519 rfl
                show Rl _ _ _ _ _ [iv z1518] _ _
                refine l_if_eq rfl rfl (by unfold rg; omega) (fun w1520 => ?_) (fun w1521 => ?_)
                · refine l_iconst rfl ?_
                  refine l_ireturn rfl rfl ?_
                  have w1522 : Xi T141 890 2 = Xi U136 890 2 := (show Xi T141 890 2 = Xi T140 890 2 from w1519.x _ _ rfl).trans ( (show Xi T140 890 2 = Xi T139 890 2 from w1507.x _ _ rfl).trans ( (show Xi T139 890 2 = Xi T138 890 2 from w1496.x _ _ rfl).trans ( (show Xi T138 890 2 = Xi U137 890 2 from w1485.x _ _ rfl).trans ((show Xi U137 890 2 = Xi U136 890 2 from by rw [eU137]; exact Xi_ne (by omega))))))
                  have w1523 : 0 ≤ Xi U136 890 2 ∧ Xi U136 890 2 ≤ 20 := hHU136.c _ _
                  exact ⟨hHT141, hFT141, _, rfl, ⟨by omega, by omega⟩, (by first | assumption | omega)⟩
                · refine l_aload_n rfl rfl ?_
                  refine l_bipush rfl rfl ?_
                  have w1524 : Xi T141 876 7 = Xi S 876 7 := (show Xi T141 876 7 = Xi T140 876 7 from w1519.x _ _ rfl).trans ( (show Xi T140 876 7 = Xi T139 876 7 from w1507.x _ _ rfl).trans ( (show Xi T139 876 7 = Xi T138 876 7 from w1496.x _ _ rfl).trans ( (show Xi T138 876 7 = Xi U137 876 7 from w1485.x _ _ rfl).trans ( (show Xi U137 876 7 = Xi U136 876 7 from by rw [eU137]; exact Xi_ne (by omega)).trans ((show Xi U136 876 7 = Xi S 876 7 from by rw [eU136]; exact Xi_ne (by omega)))))))
                  have w1525 : 0 ≤ Xi S 876 7 ∧ Xi S 876 7 ≤ 5125 := hH.c _ _
                  have w1526 : 0 ≤ Xi T141 890 1 ∧ Xi T141 890 1 ≤ 5126 := hHT141.c _ _
                  refine l_callV rfl rfl rfl (t_gr_take hHT141 103 ⟨by omega, by omega⟩ (by first | assumption | omega) (by first | assumption | omega) (by first | assumption | omega) _) ?_
                  rintro _ T142 ⟨hHT142, w1532, z1531, rfl, w1531, w1527, w1528, w1529, w1530⟩
                  have hFT142 : FR md_gr_checkOthers S T142 := FR.tr hFT141 w1532 rfl
                  show Rl _ _ _ _ _ [iv z1531] _ _
                  refine l_if_eq rfl rfl (by unfold rg; omega) (fun w1533 => ?_) (fun w1534 => ?_)
                  · refine l_iconst rfl ?_
                    refine l_ireturn rfl rfl ?_
                    have w1535 : Xi T142 890 2 = Xi U136 890 2 := (show Xi T142 890 2 = Xi T141 890 2 from w1532.x _ _ rfl).trans ( (show Xi T141 890 2 = Xi T140 890 2 from w1519.x _ _ rfl).trans ( (show Xi T140 890 2 = Xi T139 890 2 from w1507.x _ _ rfl).trans ( (show Xi T139 890 2 = Xi T138 890 2 from w1496.x _ _ rfl).trans ( (show Xi T138 890 2 = Xi U137 890 2 from w1485.x _ _ rfl).trans ((show Xi U137 890 2 = Xi U136 890 2 from by rw [eU137]; exact Xi_ne (by omega)))))))
                    have w1536 : 0 ≤ Xi U136 890 2 ∧ Xi U136 890 2 ≤ 20 := hHU136.c _ _
                    exact ⟨hHT142, hFT142, _, rfl, ⟨by omega, by omega⟩, (by first | assumption | omega)⟩
                  · refine l_iconst rfl ?_
                    refine l_goto rfl rfl ?_
                    refine l_ireturn rfl rfl ?_
                    have w1537 : Xi T142 890 2 = Xi U136 890 2 := (show Xi T142 890 2 = Xi T141 890 2 from w1532.x _ _ rfl).trans ( (show Xi T141 890 2 = Xi T140 890 2 from w1519.x _ _ rfl).trans ( (show Xi T140 890 2 = Xi T139 890 2 from w1507.x _ _ rfl).trans ( (show Xi T139 890 2 = Xi T138 890 2 from w1496.x _ _ rfl).trans ( (show Xi T138 890 2 = Xi U137 890 2 from w1485.x _ _ rfl).trans ((show Xi U137 890 2 = Xi U136 890 2 from by rw [eU137]; exact Xi_ne (by omega)))))))
                    have w1538 : 0 ≤ Xi U136 890 2 ∧ Xi U136 890 2 ≤ 20 := hHU136.c _ _
                    exact ⟨hHT142, hFT142, _, rfl, ⟨by omega, by omega⟩, (by first | assumption | omega)⟩
    · refine l_aload_n rfl rfl ?_
      refine l_bipush rfl rfl ?_
      refine l_pfi rfl rfl rfl rfl ?_
      obtain ⟨U143, eU143⟩ : ∃ T : sS, T = uI S 890 2 (Int32.ofInt 7) := ⟨_, rfl⟩
      rw [← eU143]
      have hHU143 : HI U143 := by rw [eU143]; exact HI_w hH (show 0 ≤ 7 by omega) (show 7 ≤ 20 by omega)
      have hFU143 : FR md_gr_checkOthers S U143 := by rw [eU143]; exact FR.wI hF (mdf_i (r := (890, 891, 2, 3)) (List.mem_of_getElem? (i := 1) rfl) (inR_i (by omega) (by omega) (by omega) (by omega)))
      have w1539 : Xi U143 890 2 = 7 := by rw [eU143]; exact Xi_same (by unfold rg; omega)
      refine l_aload_n rfl rfl ?_
      refine l_iconst rfl ?_
      refine l_pfi rfl rfl rfl rfl ?_
      obtain ⟨U144, eU144⟩ : ∃ T : sS, T = uI U143 890 1 (Int32.ofInt 2) := ⟨_, rfl⟩
      rw [← eU144]
      have hHU144 : HI U144 := by rw [eU144]; exact HI_w hHU143 (show 0 ≤ 2 by omega) (show 2 ≤ 5126 by omega)
      have hFU144 : FR md_gr_checkOthers S U144 := by rw [eU144]; exact FR.wI hFU143 (mdf_i (r := (890, 891, 1, 2)) (List.mem_of_getElem? (i := 0) rfl) (inR_i (by omega) (by omega) (by omega) (by omega)))
      have w1540 : Xi U144 890 1 = 2 := by rw [eU144]; exact Xi_same (by unfold rg; omega)
      have hs33 : SAY U144 (Xi U144 890 1) := SAY_v2 (by omega) (m877 hFU144 rfl) (by omega) (by omega)
      refine l_aload_n rfl rfl ?_
      refine l_bipush rfl rfl ?_
      have w1541 : Xi U144 876 7 = Xi S 876 7 := (show Xi U144 876 7 = Xi U143 876 7 from by rw [eU144]; exact Xi_ne (by omega)).trans ((show Xi U143 876 7 = Xi S 876 7 from by rw [eU143]; exact Xi_ne (by omega)))
      have w1542 : 0 ≤ Xi S 876 7 ∧ Xi S 876 7 ≤ 5125 := hH.c _ _
      have w1543 : 0 ≤ Xi U144 890 1 ∧ Xi U144 890 1 ≤ 5126 := hHU144.c _ _
      refine l_callV rfl rfl rfl (t_gr_take hHU144 11 ⟨by omega, by omega⟩ (by first | assumption | omega) (by first | assumption | omega) (by first | assumption | omega) _) ?_
      rintro _ T145 ⟨hHT145, w1549, z1548, rfl, w1548, w1544, w1545, w1546, w1547⟩
      have hFT145 : FR md_gr_checkOthers S T145 := FR.tr hFU144 w1549 rfl
      show Rl _ _ _ _ _ [iv z1548] _ _
      refine l_if_eq rfl rfl (by unfold rg; omega) (fun w1550 => ?_) (fun w1551 => ?_)
      · refine l_iconst rfl ?_
        refine l_ireturn rfl rfl ?_
        have w1552 : Xi T145 890 2 = Xi U143 890 2 := (show Xi T145 890 2 = Xi U144 890 2 from w1549.x _ _ rfl).trans ((show Xi U144 890 2 = Xi U143 890 2 from by rw [eU144]; exact Xi_ne (by omega)))
        have w1553 : 0 ≤ Xi U143 890 2 ∧ Xi U143 890 2 ≤ 20 := hHU143.c _ _
        exact ⟨hHT145, hFT145, _, rfl, ⟨by omega, by omega⟩, (by first | assumption | omega)⟩
      · refine l_aload_n rfl rfl ?_
        have w1554 : Xi T145 876 7 = Xi S 876 7 := (show Xi T145 876 7 = Xi U144 876 7 from w1549.x _ _ rfl).trans ( (show Xi U144 876 7 = Xi U143 876 7 from by rw [eU144]; exact Xi_ne (by omega)).trans ((show Xi U143 876 7 = Xi S 876 7 from by rw [eU143]; exact Xi_ne (by omega))))
        have w1555 : 0 ≤ Xi S 876 7 ∧ Xi S 876 7 ≤ 5125 := hH.c _ _
        have w1556 : 0 ≤ Xi T145 890 1 ∧ Xi T145 890 1 ≤ 5126 := hHT145.c _ _
        refine l_callV rfl rfl rfl (t_gr_takeRun hHT145 (by first | assumption | omega) (by first | assumption | omega) _) ?_
        rintro _ T146 ⟨hHT146, w1561, z1560, rfl, w1560, w1557, w1558, w1559⟩
        have hFT146 : FR md_gr_checkOthers S T146 := FR.tr hFT145 w1561 rfl
        show Rl _ _ _ _ _ [iv z1560] _ _
        refine l_if_eq rfl rfl (by unfold rg; omega) (fun w1562 => ?_) (fun w1563 => ?_)
        · refine l_iconst rfl ?_
          refine l_ireturn rfl rfl ?_
          have w1564 : Xi T146 890 2 = Xi U143 890 2 := (show Xi T146 890 2 = Xi T145 890 2 from w1561.x _ _ rfl).trans ( (show Xi T145 890 2 = Xi U144 890 2 from w1549.x _ _ rfl).trans ((show Xi U144 890 2 = Xi U143 890 2 from by rw [eU144]; exact Xi_ne (by omega))))
          have w1565 : 0 ≤ Xi U143 890 2 ∧ Xi U143 890 2 ≤ 20 := hHU143.c _ _
          exact ⟨hHT146, hFT146, _, rfl, ⟨by omega, by omega⟩, (by first | assumption | omega)⟩
        · refine l_aload_n rfl rfl ?_
          refine l_bipush rfl rfl ?_
          have w1566 : Xi T146 876 7 = Xi S 876 7 := (show Xi T146 876 7 = Xi T145 876 7 from w1561.x _ _ rfl).trans ( (show Xi T145 876 7 = Xi U144 876 7 from w1549.x _ _ rfl).trans ( (show Xi U144 876 7 = Xi U143 876 7 from by rw [eU144]; exact Xi_ne (by omega)).trans ((show Xi U143 876 7 = Xi S 876 7 from by rw [eU143]; exact Xi_ne (by omega)))))
          have w1567 : 0 ≤ Xi S 876 7 ∧ Xi S 876 7 ≤ 5125 := hH.c _ _
          have w1568 : 0 ≤ Xi T146 890 1 ∧ Xi T146 890 1 ≤ 5126 := hHT146.c _ _
          refine l_callV rfl rfl rfl (t_gr_take hHT146 24 ⟨by omega, by omega⟩ (by first | assumption | omega) (by first | assumption | omega) (by first | assumption | omega) _) ?_
          rintro _ T147 ⟨hHT147, w1574, z1573, rfl, w1573, w1569, w1570, w1571, w1572⟩
          have hFT147 : FR md_gr_checkOthers S T147 := FR.tr hFT146 w1574 rfl
          show Rl _ _ _ _ _ [iv z1573] _ _
          refine l_if_eq rfl rfl (by unfold rg; omega) (fun w1575 => ?_) (fun w1576 => ?_)
          · refine l_iconst rfl ?_
            refine l_ireturn rfl rfl ?_
            have w1577 : Xi T147 890 2 = Xi U143 890 2 := (show Xi T147 890 2 = Xi T146 890 2 from w1574.x _ _ rfl).trans ( (show Xi T146 890 2 = Xi T145 890 2 from w1561.x _ _ rfl).trans ( (show Xi T145 890 2 = Xi U144 890 2 from w1549.x _ _ rfl).trans ((show Xi U144 890 2 = Xi U143 890 2 from by rw [eU144]; exact Xi_ne (by omega)))))
            have w1578 : 0 ≤ Xi U143 890 2 ∧ Xi U143 890 2 ≤ 20 := hHU143.c _ _
            exact ⟨hHT147, hFT147, _, rfl, ⟨by omega, by omega⟩, (by first | assumption | omega)⟩
          · refine l_aload_n rfl rfl ?_
            refine l_iconst rfl ?_
            have w1579 : Xi T147 876 7 = Xi S 876 7 := (show Xi T147 876 7 = Xi T146 876 7 from w1574.x _ _ rfl).trans ( (show Xi T146 876 7 = Xi T145 876 7 from w1561.x _ _ rfl).trans ( (show Xi T145 876 7 = Xi U144 876 7 from w1549.x _ _ rfl).trans ( (show Xi U144 876 7 = Xi U143 876 7 from by rw [eU144]; exact Xi_ne (by omega)).trans ((show Xi U143 876 7 = Xi S 876 7 from by rw [eU143]; exact Xi_ne (by omega))))))
            have w1580 : 0 ≤ Xi S 876 7 ∧ Xi S 876 7 ≤ 5125 := hH.c _ _
            have w1581 : 0 ≤ Xi T147 890 1 ∧ Xi T147 890 1 ≤ 5126 := hHT147.c _ _
            refine l_callV rfl rfl rfl (t_gr_take hHT147 2 ⟨by omega, by omega⟩ (by first | assumption | omega) (by first | assumption | omega) (by first | assumption | omega) _) ?_
            rintro _ T148 ⟨hHT148, w1587, z1586, rfl, w1586, w1582, w1583, w1584, w1585⟩
            have hFT148 : FR md_gr_checkOthers S T148 := FR.tr hFT147 w1587 rfl
            show Rl _ _ _ _ _ [iv z1586] _ _
            refine l_if_eq rfl rfl (by unfold rg; omega) (fun w1588 => ?_) (fun w1589 => ?_)
            · refine l_iconst rfl ?_
              refine l_ireturn rfl rfl ?_
              have w1590 : Xi T148 890 2 = Xi U143 890 2 := (show Xi T148 890 2 = Xi T147 890 2 from w1587.x _ _ rfl).trans ( (show Xi T147 890 2 = Xi T146 890 2 from w1574.x _ _ rfl).trans ( (show Xi T146 890 2 = Xi T145 890 2 from w1561.x _ _ rfl).trans ( (show Xi T145 890 2 = Xi U144 890 2 from w1549.x _ _ rfl).trans ((show Xi U144 890 2 = Xi U143 890 2 from by rw [eU144]; exact Xi_ne (by omega))))))
              have w1591 : 0 ≤ Xi U143 890 2 ∧ Xi U143 890 2 ≤ 20 := hHU143.c _ _
              exact ⟨hHT148, hFT148, _, rfl, ⟨by omega, by omega⟩, (by first | assumption | omega)⟩
            · refine l_aload_n rfl rfl ?_
              have w1592 : Xi T148 876 7 = Xi S 876 7 := (show Xi T148 876 7 = Xi T147 876 7 from w1587.x _ _ rfl).trans ( (show Xi T147 876 7 = Xi T146 876 7 from w1574.x _ _ rfl).trans ( (show Xi T146 876 7 = Xi T145 876 7 from w1561.x _ _ rfl).trans ( (show Xi T145 876 7 = Xi U144 876 7 from w1549.x _ _ rfl).trans ( (show Xi U144 876 7 = Xi U143 876 7 from by rw [eU144]; exact Xi_ne (by omega)).trans ((show Xi U143 876 7 = Xi S 876 7 from by rw [eU143]; exact Xi_ne (by omega)))))))
              have w1593 : 0 ≤ Xi S 876 7 ∧ Xi S 876 7 ≤ 5125 := hH.c _ _
              have w1594 : 0 ≤ Xi T148 890 1 ∧ Xi T148 890 1 ≤ 5126 := hHT148.c _ _
              refine l_callV rfl rfl rfl (t_gr_takeRun hHT148 (by first | assumption | omega) (by first | assumption | omega) _) ?_
              rintro _ T149 ⟨hHT149, w1599, z1598, rfl, w1598, w1595, w1596, w1597⟩
              have hFT149 : FR md_gr_checkOthers S T149 := FR.tr hFT148 w1599 rfl
              show Rl _ _ _ _ _ [iv z1598] _ _
              refine l_if_eq rfl rfl (by unfold rg; omega) (fun w1600 => ?_) (fun w1601 => ?_)
              · refine l_iconst rfl ?_
                refine l_ireturn rfl rfl ?_
                have w1602 : Xi T149 890 2 = Xi U143 890 2 := (show Xi T149 890 2 = Xi T148 890 2 from w1599.x _ _ rfl).trans ( (show Xi T148 890 2 = Xi T147 890 2 from w1587.x _ _ rfl).trans ( (show Xi T147 890 2 = Xi T146 890 2 from w1574.x _ _ rfl).trans ( (show Xi T146 890 2 = Xi T145 890 2 from w1561.x _ _ rfl).trans ( (show Xi T145 890 2 = Xi U144 890 2 from w1549.x _ _ rfl).trans ((show Xi U144 890 2 = Xi U143 890 2 from by rw [eU144]; exact Xi_ne (by omega)))))))
                have w1603 : 0 ≤ Xi U143 890 2 ∧ Xi U143 890 2 ≤ 20 := hHU143.c _ _
                exact ⟨hHT149, hFT149, _, rfl, ⟨by omega, by omega⟩, (by first | assumption | omega)⟩
              · refine l_aload_n rfl rfl ?_
                refine l_bipush rfl rfl ?_
                have w1604 : Xi T149 876 7 = Xi S 876 7 := (show Xi T149 876 7 = Xi T148 876 7 from w1599.x _ _ rfl).trans ( (show Xi T148 876 7 = Xi T147 876 7 from w1587.x _ _ rfl).trans ( (show Xi T147 876 7 = Xi T146 876 7 from w1574.x _ _ rfl).trans ( (show Xi T146 876 7 = Xi T145 876 7 from w1561.x _ _ rfl).trans ( (show Xi T145 876 7 = Xi U144 876 7 from w1549.x _ _ rfl).trans ( (show Xi U144 876 7 = Xi U143 876 7 from by rw [eU144]; exact Xi_ne (by omega)).trans ((show Xi U143 876 7 = Xi S 876 7 from by rw [eU143]; exact Xi_ne (by omega))))))))
                have w1605 : 0 ≤ Xi S 876 7 ∧ Xi S 876 7 ≤ 5125 := hH.c _ _
                have w1606 : 0 ≤ Xi T149 890 1 ∧ Xi T149 890 1 ≤ 5126 := hHT149.c _ _
                refine l_callV rfl rfl rfl (t_gr_take hHT149 26 ⟨by omega, by omega⟩ (by first | assumption | omega) (by first | assumption | omega) (by first | assumption | omega) _) ?_
                rintro _ T150 ⟨hHT150, w1612, z1611, rfl, w1611, w1607, w1608, w1609, w1610⟩
                have hFT150 : FR md_gr_checkOthers S T150 := FR.tr hFT149 w1612 rfl
                show Rl _ _ _ _ _ [iv z1611] _ _
                refine l_if_eq rfl rfl (by unfold rg; omega) (fun w1613 => ?_) (fun w1614 => ?_)
                · refine l_iconst rfl ?_
                  refine l_ireturn rfl rfl ?_
                  have w1615 : Xi T150 890 2 = Xi U143 890 2 := (show Xi T150 890 2 = Xi T149 890 2 from w1612.x _ _ rfl).trans ( (show Xi T149 890 2 = Xi T148 890 2 from w1599.x _ _ rfl).trans ( (show Xi T148 890 2 = Xi T147 890 2 from w1587.x _ _ rfl).trans ( (show Xi T147 890 2 = Xi T146 890 2 from w1574.x _ _ rfl).trans ( (show Xi T146 890 2 = Xi T145 890 2 from w1561.x _ _ rfl).trans ( (show Xi T145 890 2 = Xi U144 890 2 from w1549.x _ _ rfl).trans ((show Xi U144 890 2 = Xi U143 890 2 from by rw [eU144]; exact Xi_ne (by omega))))))))
                  have w1616 : 0 ≤ Xi U143 890 2 ∧ Xi U143 890 2 ≤ 20 := hHU143.c _ _
                  exact ⟨hHT150, hFT150, _, rfl, ⟨by omega, by omega⟩, (by first | assumption | omega)⟩
                · refine l_aload_n rfl rfl ?_
                  refine l_bipush rfl rfl ?_
                  have w1617 : Xi T150 876 7 = Xi S 876 7 := (show Xi T150 876 7 = Xi T149 876 7 from w1612.x _ _ rfl).trans ( (show Xi T149 876 7 = Xi T148 876 7 from w1599.x _ _ rfl).trans ( (show Xi T148 876 7 = Xi T147 876 7 from w1587.x _ _ rfl).trans ( (show Xi T147 876 7 = Xi T146 876 7 from w1574.x _ _ rfl).trans ( (show Xi T146 876 7 = Xi T145 876 7 from w1561.x _ _ rfl).trans ( (show Xi T145 876 7 = Xi U144 876 7 from w1549.x _ _ rfl).trans ( (show Xi U144 876 7 = Xi U143 876 7 from by rw [eU144]; exact Xi_ne (by omega)).trans ((show Xi U143 876 7 = Xi S 876 7 from by rw [eU143]; exact Xi_ne (by omega)))))))))
                  have w1618 : 0 ≤ Xi S 876 7 ∧ Xi S 876 7 ≤ 5125 := hH.c _ _
                  have w1619 : 0 ≤ Xi T150 890 1 ∧ Xi T150 890 1 ≤ 5126 := hHT150.c _ _
                  refine l_callV rfl rfl rfl (t_gr_take hHT150 103 ⟨by omega, by omega⟩ (by first | assumption | omega) (by first | assumption | omega) (by first | assumption | omega) _) ?_
                  rintro _ T151 ⟨hHT151, w1625, z1624, rfl, w1624, w1620, w1621, w1622, w1623⟩
                  have hFT151 : FR md_gr_checkOthers S T151 := FR.tr hFT150 w1625 rfl
                  show Rl _ _ _ _ _ [iv z1624] _ _
                  refine l_if_eq rfl rfl (by unfold rg; omega) (fun w1626 => ?_) (fun w1627 => ?_)
                  · refine l_iconst rfl ?_
                    refine l_ireturn rfl rfl ?_
                    have w1628 : Xi T151 890 2 = Xi U143 890 2 := (show Xi T151 890 2 = Xi T150 890 2 from w1625.x _ _ rfl).trans ( (show Xi T150 890 2 = Xi T149 890 2 from w1612.x _ _ rfl).trans ( (show Xi T149 890 2 = Xi T148 890 2 from w1599.x _ _ rfl).trans ( (show Xi T148 890 2 = Xi T147 890 2 from w1587.x _ _ rfl).trans ( (show Xi T147 890 2 = Xi T146 890 2 from w1574.x _ _ rfl).trans ( (show Xi T146 890 2 = Xi T145 890 2 from w1561.x _ _ rfl).trans ( (show Xi T145 890 2 = Xi U144 890 2 from w1549.x _ _ rfl).trans ((show Xi U144 890 2 = Xi U143 890 2 from by rw [eU144]; exact Xi_ne (by omega)))))))))
                    have w1629 : 0 ≤ Xi U143 890 2 ∧ Xi U143 890 2 ≤ 20 := hHU143.c _ _
                    exact ⟨hHT151, hFT151, _, rfl, ⟨by omega, by omega⟩, (by first | assumption | omega)⟩
                  · refine l_iconst rfl ?_
                    refine l_goto rfl rfl ?_
                    refine l_ireturn rfl rfl ?_
                    have w1630 : Xi T151 890 2 = Xi U143 890 2 := (show Xi T151 890 2 = Xi T150 890 2 from w1625.x _ _ rfl).trans ( (show Xi T150 890 2 = Xi T149 890 2 from w1612.x _ _ rfl).trans ( (show Xi T149 890 2 = Xi T148 890 2 from w1599.x _ _ rfl).trans ( (show Xi T148 890 2 = Xi T147 890 2 from w1587.x _ _ rfl).trans ( (show Xi T147 890 2 = Xi T146 890 2 from w1574.x _ _ rfl).trans ( (show Xi T146 890 2 = Xi T145 890 2 from w1561.x _ _ rfl).trans ( (show Xi T145 890 2 = Xi U144 890 2 from w1549.x _ _ rfl).trans ((show Xi U144 890 2 = Xi U143 890 2 from by rw [eU144]; exact Xi_ne (by omega)))))))))
                    have w1631 : 0 ≤ Xi U143 890 2 ∧ Xi U143 890 2 ≤ 20 := hHU143.c _ _
                    exact ⟨hHT151, hFT151, _, rfl, ⟨by omega, by omega⟩, (by first | assumption | omega)⟩
