/-! SAFETY of methods: printed by wip/safe (vc.py, decl.py) -/
def md_re_doObjects : List rec := [(1, 2, 3, 4), (2, 3, 0, 100000), (3, 4, 0, 100000), (4, 5, 0, 100000), (5, 6, 0, 100000), (21, 22, 0, 100000), (22, 23, 0, 100000), (23, 24, 0, 100000), (25, 65, 0, 100000), (66, 106, 0, 100000), (107, 147, 0, 100000), (148, 188, 0, 100000), (876, 877, 8, 9), (876, 877, 9, 10), (891, 892, 10, 11)]
abbrev Q_re_doObjects (S : sS) (ds : Int) : pst := fun r S1 => HI S1 ∧ FR md_re_doObjects S S1 ∧ (∃ z : Int, r = some (iv z) ∧ (0 ≤ z ∧ z ≤ 1) ∧ (z = 1 → WI S1) ∧ (z = 0 → Xi S1 876 8 ≠ 0))
set_option maxRecDepth 100000 in
theorem t_re_doObjects {S : sS} (hH : HI S) (ds : Int) (hds : 0 ≤ ds ∧ ds ≤ 1) (hW : WI S) (hN : NWO S (Xi S 890 3)) (hM : ds = 1 → MAD S) (hh : Xi S 891 11 ≠ 0 → 0 ≤ Xi S 891 12) (d : Nat) : Mt lay0 (d + 5) m_re_doObjects [.ref 891, iv ds] S (Q_re_doObjects S ds) := by
  refine Mt_R rfl rfl ?_
  have hF : FR md_re_doObjects S S := FR.rf
  have w1 : -1 ≤ Xi S 890 3 ∧ Xi S 890 3 ≤ 5124 := hH.c _ _
  have w2 : 0 ≤ Xi S 891 11 ∧ Xi S 891 11 ≤ 5 := hH.c _ _
  have w3 : -1 ≤ Xi S 891 12 ∧ Xi S 891 12 ≤ 23 := hH.c _ _
  have hL := hW.1
  have hX := hW.2.1
  have C4 : ∀ (n4 : Nat) (T1 : sS) (_ : HI T1) (_ : FR md_re_doObjects S T1) (v2 : Int) (v3 : Int), (-1 ≤ v2 ∧ v2 ≤ 23) → (0 ≤ v3 ∧ v3 ≤ 5124) → (LEX T1) → (TX T1) → (LKEEP S T1) → (∀ j, j ≠ 2 → Xi T1 5 j = Xi S 5 j) → (NWC S T1 v3) → n4 = (5125 - v3).toNat → Rl lay0 (d + 4) m_re_doObjects 4 [(0, .ref 891), (1, iv ds), (2, iv v2), (3, iv v3)] [] T1 (Q_re_doObjects S ds) := by
    intro n4
    induction n4 using Nat.strongRecOn with
    | ind n4 ih4 =>
      intro T1 hHT1 hFT1 v2 v3 w4 w5 hL4 hX4 hK4 ho4 hc4 hm4
      have w6 : Xi T1 876 7 = Xi S 876 7 := hFT1.x _ _ rfl
      have w7 : Xi T1 890 3 = Xi S 890 3 := hFT1.x _ _ rfl
      have w8 : Xi T1 891 11 = Xi S 891 11 := hFT1.x _ _ rfl
      have w9 : Xi T1 891 12 = Xi S 891 12 := hFT1.x _ _ rfl
      have C102 : ∀  (T2 : sS) (_ : HI T2) (_ : FR md_re_doObjects S T2) (v2 : Int) (v3 : Int) (v4 : Int), (0 ≤ v2 ∧ v2 ≤ 23) → (0 ≤ v3 ∧ v3 ≤ 5124) → (0 ≤ v4 ∧ v4 ≤ 23) → (LEX T2) → (TX T2) → (LKEEP S T2) → (∀ j, j ≠ 2 → Xi T2 5 j = Xi S 5 j) → (NWC S T2 (v3 + 1)) → (v3 < Xi S 890 3) → ((5125 - v3).toNat ≤ n4) → Rl lay0 (d + 4) m_re_doObjects 102 [(0, .ref 891), (1, iv ds), (2, iv v2), (3, iv v3), (4, iv v4)] [] T2 (Q_re_doObjects S ds) := by
        intro T2 hHT2 hFT2 v2 v3 v4 w10 w11 w12 hL102 hX102 hK102 ho102 hc102 w13 w14
        have w15 : Xi T2 876 7 = Xi S 876 7 := hFT2.x _ _ rfl
        have w16 : Xi T2 890 3 = Xi S 890 3 := hFT2.x _ _ rfl
        have w17 : Xi T2 891 11 = Xi S 891 11 := hFT2.x _ _ rfl
        have w18 : Xi T2 891 12 = Xi S 891 12 := hFT2.x _ _ rfl
        refine l_aload_n rfl rfl ?_
        refine l_gfi rfl rfl rfl rfl rfl ?_
        refine l_if_ne rfl rfl (by unfold rg; omega) (fun w19 => ?_) (fun w20 => ?_)
        · refine l_aload_n rfl rfl ?_
          refine l_gfr rfl rfl rfl rfl rfl (hHT2.r 891 3 20 rfl) ?_
          refine l_iload rfl rfl ?_
          refine l_aload_n rfl rfl ?_
          refine l_gfi rfl rfl rfl rfl rfl ?_
          refine l_aload_n rfl rfl ?_
          refine l_gfi rfl rfl rfl rfl rfl ?_
          refine l_callV rfl rfl rfl (t_wo_tellPlace hHT2 v4 (Xi T2 891 11) (Xi T2 891 12) ⟨by omega, by omega⟩ ⟨by omega, by omega⟩ ⟨by omega, by omega⟩ _) ?_
          rintro _ T3 ⟨hHT3, w22, z21, rfl, w21⟩
          have hFT3 : FR md_re_doObjects S T3 := FR.tr hFT2 w22 rfl
          show Rl _ _ _ _ _ [iv z21] _ _
          refine l_istore rfl rfl rfl ?_
          refine l_iload rfl rfl ?_
          refine l_if_eq rfl rfl (by unfold rg; omega) (fun w23 => ?_) (fun w24 => ?_)
          · refine l_iinc rfl rfl rfl rfl ?_
            refine l_goto rfl rfl ?_
            exact Rl_weak (ih4 _ (by omega) T3 hHT3 hFT3 (v2) ((v3 + 1)) (by omega) (by omega) (by first | assumption | exact (LEX_FR w22 rfl rfl (by assumption : LEX T2))) (by first | assumption | exact (TX_FR w22 rfl (by assumption : TX T2))) (by first | exact hK102 | exact hK43 | exact hK4 | exact LKEEP.tr hK102 (LKEEP_FR (by assumption : FR md_wo_tellPlace T2 T3) rfl rfl) | exact LKEEP.rf) (by first | exact ho102 | exact ho43 | exact ho4 | exact fun j hj => (((by assumption : FR md_wo_tellPlace T2 T3).cx 5 rfl j).1).trans (ho102 j hj) | exact fun j _ => rfl) (by first | exact hc102 | exact hc43 | exact hc4 | exact nwc_e hc102 ((by assumption : FR md_wo_tellPlace T2 T3).x 5 2 rfl) | exact nwc_f hc4 | exact nwc_0 hH) rfl) (And.intro rfl (And.intro rfl (And.intro rfl (And.intro rfl (True.intro)))))
          · refine l_aload_n rfl rfl ?_
            refine l_gfr rfl rfl rfl rfl rfl (hHT3.r 891 0 876 rfl) ?_
            refine l_iload rfl rfl ?_
            refine l_iload_n rfl rfl ?_
            refine l_callV rfl rfl rfl (t_to_wrong hHT3 z21 v3 ⟨by omega, by omega⟩ ⟨by omega, by omega⟩ _) ?_
            rintro _ T4 ⟨hHT4, w28, z27, rfl, w27, w25, w26⟩
            have hFT4 : FR md_re_doObjects S T4 := FR.tr hFT3 w28 rfl
            show Rl _ _ _ _ _ [iv z27] _ _
            refine l_ireturn rfl (retI_z (by omega)) ?_
            have w29 : 0 ≤ Xi T4 876 8 ∧ Xi T4 876 8 ≤ 9 := hHT4.c _ _
            exact ⟨hHT4, hFT4, _, rfl, ⟨by omega, by omega⟩, (by first | (intro hz; omega) | (intro _; assumption) | (intro _; exact (WI_FR hHT3 w28 rfl rfl rfl rfl rfl rfl rfl rfl rfl (WI_FR hHT2 w22 rfl rfl rfl rfl rfl rfl rfl rfl rfl (by assumption : WI T2))))), (by omega)⟩
        · refine l_iconst rfl ?_
          refine l_goto rfl rfl ?_
          refine l_istore rfl rfl rfl ?_
          refine l_iload rfl rfl ?_
          refine l_if_eq rfl rfl (by unfold rg; omega) (fun w30 => ?_) (fun w31 => absurd w31 (by omega))
          · refine l_iinc rfl rfl rfl rfl ?_
            refine l_goto rfl rfl ?_
            exact Rl_weak (ih4 _ (by omega) T2 hHT2 hFT2 (v2) ((v3 + 1)) (by omega) (by omega) (by first | assumption | exact (by assumption : LEX T2)) (by first | assumption | exact (by assumption : TX T2)) (by first | exact hK102 | exact hK43 | exact hK4 | exact LKEEP.tr hK102 (LKEEP_FR (by assumption : FR md_wo_tellPlace T2 T2) rfl rfl) | exact LKEEP.rf) (by first | exact ho102 | exact ho43 | exact ho4 | exact fun j hj => (((by assumption : FR md_wo_tellPlace T2 T2).cx 5 rfl j).1).trans (ho102 j hj) | exact fun j _ => rfl) (by first | exact hc102 | exact hc43 | exact hc4 | exact nwc_e hc102 ((by assumption : FR md_wo_tellPlace T2 T2).x 5 2 rfl) | exact nwc_f hc4 | exact nwc_0 hH) rfl) (And.intro rfl (And.intro rfl (And.intro rfl (And.intro rfl (True.intro)))))
      refine l_iload_n rfl rfl ?_
      refine l_aload_n rfl rfl ?_
      refine l_gfr rfl rfl rfl rfl rfl (hHT1.r 891 1 890 rfl) ?_
      refine l_gfi rfl rfl rfl rfl rfl ?_
      refine l_icmp_ge rfl rfl (by unfold rg; omega) (by unfold rg; omega) (fun w32 => ?_) (fun w33 => ?_)
      · refine l_aload_n rfl rfl ?_
        refine l_iload_n rfl rfl ?_
        refine l_pfi rfl rfl rfl rfl ?_
        obtain ⟨U5, eU5⟩ : ∃ T : sS, T = uI T1 891 10 (Int32.ofInt v2) := ⟨_, rfl⟩
        rw [← eU5]
        have hHU5 : HI U5 := by rw [eU5]; exact HI_w hHT1 (show -1 ≤ v2 by omega) (show v2 ≤ 23 by omega)
        have hFU5 : FR md_re_doObjects S U5 := by rw [eU5]; exact FR.wI hFT1 (mdf_i (r := (891, 892, 10, 11)) (List.mem_of_getElem? (i := 14) rfl) (inR_i (by omega) (by omega) (by omega) (by omega)))
        have w34 : Xi U5 891 10 = v2 := by rw [eU5]; exact Xi_same (by unfold rg; omega)
        have hWe : WI U5 := WI_gx hH hFU5 (TX_FR (FR_e eU5) rfl hX4) rfl rfl rfl rfl (LEX_FR (FR_e eU5) rfl rfl hL4) (five_le (nwc_e hc4 ((FR_e eU5).x 5 2 rfl)) (fun j hj => (((FR_e eU5).cx 5 rfl j).1).trans (ho4 j hj))) ((((FR_e eU5).cx 5 rfl 3).1).trans (ho4 3 (by decide))) (VAL_fr hFU5 rfl ((((FR_e eU5).cx 5 rfl 4).1).trans (ho4 4 (by decide))) hW.2.2.2.2.2.2.2) hW
        refine l_iconst rfl ?_
        refine l_ireturn rfl rfl ?_
        have w35 : Xi U5 876 8 = Xi T1 876 8 := (show Xi U5 876 8 = Xi T1 876 8 from by rw [eU5]; exact Xi_ne (by omega))
        have w36 : 0 ≤ Xi T1 876 8 ∧ Xi T1 876 8 ≤ 9 := hHT1.c _ _
        exact ⟨hHU5, hFU5, _, rfl, ⟨by omega, by omega⟩, (by first | (intro hz; omega) | (intro _; assumption) | (intro _; exact (WI_FR hHT1 (FR_e eU5) rfl rfl rfl rfl rfl rfl rfl rfl rfl (by assumption : WI T1)))), (by omega)⟩
      · refine l_aload_n rfl rfl ?_
        refine l_iload_n rfl rfl ?_
        have w37 : 0 ≤ Xi T1 876 7 ∧ Xi T1 876 7 ≤ 5125 := hHT1.c _ _
        have w38 : -1 ≤ Xi T1 890 3 ∧ Xi T1 890 3 ≤ 5124 := hHT1.c _ _
        refine l_callV rfl rfl rfl (t_re_beginsName hHT1 v3 ⟨by omega, by omega⟩ _) ?_
        rintro _ _ ⟨rfl, z41, rfl, w41, w39, w40⟩
        show Rl _ _ _ _ _ [iv z41] _ _
        have hbg : z41 = bgn S v3 := (by assumption : z41 = bgn T1 v3).trans (bgn_FR hFT1 rfl rfl)
        have hlt : bgn S v3 = 1 → fob T1 v3 = -1 → Xi T1 5 2 < 24 := fun hb => nwc_lt hH hN hK4 hFT1 rfl hc4 (by omega) (by omega) hb
        have hFp := hFT1
        refine l_if_ne rfl rfl (by unfold rg; omega) (fun w42 => ?_) (fun w43 => ?_)
        · refine l_aload_n rfl rfl ?_
          refine l_iload_n rfl rfl ?_
          refine l_iload_n rfl rfl ?_
          refine l_if_eq rfl rfl (by unfold rg; omega) (fun w44 => ?_) (fun w45 => ?_)
          · refine l_iconst rfl ?_
            have w46 : 0 ≤ Xi T1 5 2 ∧ Xi T1 5 2 ≤ 24 := hHT1.c _ _
            refine l_callV rfl rfl rfl (t_re_objectOrNew hHT1 v3 0 ⟨by omega, by omega⟩ ⟨by omega, by omega⟩ (by first | assumption | exact (by assumption : LEX T1)) (fun q => hlt (by omega) q) _) ?_
            rintro _ T6 ⟨hHT6, w53, z52, rfl, w52, w47, w48, w49, w50, w51⟩
            have hFT6 : FR md_re_doObjects S T6 := FR.tr hFT1 w53 rfl
            show Rl _ _ _ _ _ [iv z52] _ _
            have hK43 : LKEEP S T6 := LKEEP.tr hK4 (by assumption)
            have ho43 : ∀ j, j ≠ 2 → Xi T6 5 j = Xi S 5 j := fun j hj => ((by assumption : ∀ j, j ≠ 2 → Xi T6 5 j = Xi T1 5 j) j hj).trans (ho4 j hj)
            have hc43 : NWC S T6 (v3 + 1) := nwc_s hH hN hK4 hFp rfl hc4 (by omega) (by omega) (by omega) (by assumption) (by assumption)
            have hX43 : TX T6 := TX_FR (by assumption : FR md_re_objectOrNew T1 T6) rfl hX4
            refine l_istore rfl rfl rfl ?_
            refine l_iload_n rfl rfl ?_
            refine l_iconst rfl ?_
            refine l_icmp_ne rfl rfl (by unfold rg; omega) (by unfold rg; omega) (fun w54 => ?_) (fun w55 => ?_)
            · refine l_iload_n rfl rfl ?_
              refine l_istore_n rfl rfl rfl ?_
              refine l_iload_n rfl rfl ?_
              refine l_if_eq rfl rfl (by unfold rg; omega) (fun w56 => ?_) (fun w57 => ?_)
              · exact Rl_weak (C102 T6 hHT6 hFT6 (v2) (v3) (z52) (by omega) (by omega) (by omega) (by first | assumption | exact (by assumption : LEX T6)) (by first | assumption | exact (TX_FR w53 rfl (by assumption : TX T1))) (by first | exact hK86 | exact hK43 | exact LKEEP.tr hK102 (LKEEP_FR (by assumption : FR md_wo_tellPlace T1 T6) rfl rfl) | exact LKEEP.rf) (by first | exact ho86 | exact ho43 | exact fun j hj => (((by assumption : FR md_wo_tellPlace T1 T6).cx 5 rfl j).1).trans (ho102 j hj) | exact fun j _ => rfl) (by first | exact hc86 | exact hc43 | exact nwc_e hc102 ((by assumption : FR md_wo_tellPlace T1 T6).x 5 2 rfl) | exact nwc_f hc4 | exact nwc_0 hH) (by omega) (by omega)) (And.intro rfl (And.intro rfl (And.intro rfl (And.intro rfl (And.intro rfl (True.intro))))))
              · refine l_aload_n rfl rfl ?_
                refine l_gfr rfl rfl rfl rfl rfl (hHT6.r 891 3 20 rfl) ?_
                refine l_iload rfl rfl ?_
                refine l_aload_n rfl rfl ?_
                refine l_gfr rfl rfl rfl rfl rfl (hHT6.r 891 4 895 rfl) ?_
                refine l_gfi rfl rfl rfl rfl rfl ?_
                have w58 : 0 ≤ (Xi T6 895 12) ∧ (Xi T6 895 12) ≤ 15 := hHT6.c _ _
                refine l_callV rfl rfl rfl (t_wo_tellKind hHT6 z52 (Xi T6 895 12) ⟨by omega, by omega⟩ ⟨by omega, by omega⟩ _) ?_
                rintro _ T7 ⟨hHT7, w60, z59, rfl, w59⟩
                have hFT7 : FR md_re_doObjects S T7 := FR.tr hFT6 w60 rfl
                show Rl _ _ _ _ _ [iv z59] _ _
                have hK77 : LKEEP S T7 := LKEEP.tr hK43 (LKEEP_FR (by assumption : FR md_wo_tellKind T6 T7) rfl rfl)
                have ho77 : ∀ j, j ≠ 2 → Xi T7 5 j = Xi S 5 j := fun j hj => (((by assumption : FR md_wo_tellKind T6 T7).cx 5 rfl j).1).trans (ho43 j hj)
                have hc77 : NWC S T7 (v3 + 1) := nwc_e hc43 ((by assumption : FR md_wo_tellKind T6 T7).x 5 2 rfl)
                have hM77 : MAD T7 := mad_d hFT7 rfl rfl (hM (by omega)) (ho77 3 (by decide))
                refine l_if_eq rfl rfl (by unfold rg; omega) (fun w61 => ?_) (fun w62 => ?_)
                · refine l_aload_n rfl rfl ?_
                  refine l_gfr rfl rfl rfl rfl rfl (hHT7.r 891 0 876 rfl) ?_
                  refine l_iconst rfl ?_
                  refine l_iload_n rfl rfl ?_
                  refine l_callV rfl rfl rfl (t_to_wrong hHT7 5 v3 ⟨by omega, by omega⟩ ⟨by omega, by omega⟩ _) ?_
                  rintro _ T8 ⟨hHT8, w66, z65, rfl, w65, w63, w64⟩
                  have hFT8 : FR md_re_doObjects S T8 := FR.tr hFT7 w66 rfl
                  show Rl _ _ _ _ _ [iv z65] _ _
                  refine l_ireturn rfl (retI_z (by omega)) ?_
                  have w67 : 0 ≤ Xi T8 876 8 ∧ Xi T8 876 8 ≤ 9 := hHT8.c _ _
                  exact ⟨hHT8, hFT8, _, rfl, ⟨by omega, by omega⟩, (by first | (intro hz; omega) | (intro _; assumption) | (intro _; exact (WI_FR hHT7 w66 rfl rfl rfl rfl rfl rfl rfl rfl rfl (WI_FR hHT6 w60 rfl rfl rfl rfl rfl rfl rfl rfl rfl (by assumption : WI T6))))), (by omega)⟩
                · refine l_aload_n rfl rfl ?_
                  refine l_iload rfl rfl ?_
                  refine l_callV rfl rfl rfl (t_re_tellAdjectives hHT7 z52 ⟨by omega, by omega⟩ (by first | assumption | exact (TX_FR w60 rfl (TX_FR w53 rfl (by assumption : TX T1)))) (by first | assumption | exact (MAD_FR w60 rfl (by assumption : MAD T6))) _) ?_
                  rintro _ T9 ⟨hHT9, w70, z69, rfl, w69, w68⟩
                  have hFT9 : FR md_re_doObjects S T9 := FR.tr hFT7 w70 rfl
                  show Rl _ _ _ _ _ [iv z69] _ _
                  have hK86 : LKEEP S T9 := LKEEP.tr hK77 (LKEEP_FR (by assumption : FR md_re_tellAdjectives T7 T9) rfl rfl)
                  have ho86 : ∀ j, j ≠ 2 → Xi T9 5 j = Xi S 5 j := fun j hj => (((by assumption : FR md_re_tellAdjectives T7 T9).cx 5 rfl j).1).trans (ho77 j hj)
                  have hc86 : NWC S T9 (v3 + 1) := nwc_e hc77 ((by assumption : FR md_re_tellAdjectives T7 T9).x 5 2 rfl)
                  refine l_if_ne rfl rfl (by unfold rg; omega) (fun w71 => ?_) (fun w72 => ?_)
                  · exact Rl_weak (C102 T9 hHT9 hFT9 (v2) (v3) (z52) (by omega) (by omega) (by omega) (by first | assumption | exact (LEX_FR w70 rfl rfl (LEX_FR w60 rfl rfl (by assumption : LEX T6)))) (by first | assumption | exact (by assumption : TX T9)) (by first | exact hK86 | exact hK43 | exact LKEEP.tr hK102 (LKEEP_FR (by assumption : FR md_wo_tellPlace T7 T9) rfl rfl) | exact LKEEP.rf) (by first | exact ho86 | exact ho43 | exact fun j hj => (((by assumption : FR md_wo_tellPlace T7 T9).cx 5 rfl j).1).trans (ho102 j hj) | exact fun j _ => rfl) (by first | exact hc86 | exact hc43 | exact nwc_e hc102 ((by assumption : FR md_wo_tellPlace T7 T9).x 5 2 rfl) | exact nwc_f hc4 | exact nwc_0 hH) (by omega) (by omega)) (And.intro rfl (And.intro rfl (And.intro rfl (And.intro rfl (And.intro rfl (True.intro))))))
                  · refine l_aload_n rfl rfl ?_
                    refine l_gfr rfl rfl rfl rfl rfl (hHT9.r 891 0 876 rfl) ?_
                    refine l_iconst rfl ?_
                    refine l_iload_n rfl rfl ?_
                    refine l_callV rfl rfl rfl (t_to_wrong hHT9 5 v3 ⟨by omega, by omega⟩ ⟨by omega, by omega⟩ _) ?_
                    rintro _ T10 ⟨hHT10, w76, z75, rfl, w75, w73, w74⟩
                    have hFT10 : FR md_re_doObjects S T10 := FR.tr hFT9 w76 rfl
                    show Rl _ _ _ _ _ [iv z75] _ _
                    refine l_ireturn rfl (retI_z (by omega)) ?_
                    have w77 : 0 ≤ Xi T10 876 8 ∧ Xi T10 876 8 ≤ 9 := hHT10.c _ _
                    exact ⟨hHT10, hFT10, _, rfl, ⟨by omega, by omega⟩, (by first | (intro hz; omega) | (intro _; assumption) | (intro _; exact (WI_FR hHT9 w76 rfl rfl rfl rfl rfl rfl rfl rfl rfl (by assumption : WI T9)))), (by omega)⟩
            · refine l_iload rfl rfl ?_
              refine l_goto rfl rfl ?_
              refine l_istore_n rfl rfl rfl ?_
              refine l_iload_n rfl rfl ?_
              refine l_if_eq rfl rfl (by unfold rg; omega) (fun w78 => ?_) (fun w79 => ?_)
              · exact Rl_weak (C102 T6 hHT6 hFT6 (z52) (v3) (z52) (by omega) (by omega) (by omega) (by first | assumption | exact (by assumption : LEX T6)) (by first | assumption | exact (TX_FR w53 rfl (by assumption : TX T1))) (by first | exact hK86 | exact hK43 | exact LKEEP.tr hK102 (LKEEP_FR (by assumption : FR md_wo_tellPlace T1 T6) rfl rfl) | exact LKEEP.rf) (by first | exact ho86 | exact ho43 | exact fun j hj => (((by assumption : FR md_wo_tellPlace T1 T6).cx 5 rfl j).1).trans (ho102 j hj) | exact fun j _ => rfl) (by first | exact hc86 | exact hc43 | exact nwc_e hc102 ((by assumption : FR md_wo_tellPlace T1 T6).x 5 2 rfl) | exact nwc_f hc4 | exact nwc_0 hH) (by omega) (by omega)) (And.intro rfl (And.intro rfl (And.intro rfl (And.intro rfl (And.intro rfl (True.intro))))))
              · refine l_aload_n rfl rfl ?_
                refine l_gfr rfl rfl rfl rfl rfl (hHT6.r 891 3 20 rfl) ?_
                refine l_iload rfl rfl ?_
                refine l_aload_n rfl rfl ?_
                refine l_gfr rfl rfl rfl rfl rfl (hHT6.r 891 4 895 rfl) ?_
                refine l_gfi rfl rfl rfl rfl rfl ?_
                have w80 : 0 ≤ (Xi T6 895 12) ∧ (Xi T6 895 12) ≤ 15 := hHT6.c _ _
                refine l_callV rfl rfl rfl (t_wo_tellKind hHT6 z52 (Xi T6 895 12) ⟨by omega, by omega⟩ ⟨by omega, by omega⟩ _) ?_
                rintro _ T11 ⟨hHT11, w82, z81, rfl, w81⟩
                have hFT11 : FR md_re_doObjects S T11 := FR.tr hFT6 w82 rfl
                show Rl _ _ _ _ _ [iv z81] _ _
                have hK77 : LKEEP S T11 := LKEEP.tr hK43 (LKEEP_FR (by assumption : FR md_wo_tellKind T6 T11) rfl rfl)
                have ho77 : ∀ j, j ≠ 2 → Xi T11 5 j = Xi S 5 j := fun j hj => (((by assumption : FR md_wo_tellKind T6 T11).cx 5 rfl j).1).trans (ho43 j hj)
                have hc77 : NWC S T11 (v3 + 1) := nwc_e hc43 ((by assumption : FR md_wo_tellKind T6 T11).x 5 2 rfl)
                have hM77 : MAD T11 := mad_d hFT11 rfl rfl (hM (by omega)) (ho77 3 (by decide))
                refine l_if_eq rfl rfl (by unfold rg; omega) (fun w83 => ?_) (fun w84 => ?_)
                · refine l_aload_n rfl rfl ?_
                  refine l_gfr rfl rfl rfl rfl rfl (hHT11.r 891 0 876 rfl) ?_
                  refine l_iconst rfl ?_
                  refine l_iload_n rfl rfl ?_
                  refine l_callV rfl rfl rfl (t_to_wrong hHT11 5 v3 ⟨by omega, by omega⟩ ⟨by omega, by omega⟩ _) ?_
                  rintro _ T12 ⟨hHT12, w88, z87, rfl, w87, w85, w86⟩
                  have hFT12 : FR md_re_doObjects S T12 := FR.tr hFT11 w88 rfl
                  show Rl _ _ _ _ _ [iv z87] _ _
                  refine l_ireturn rfl (retI_z (by omega)) ?_
                  have w89 : 0 ≤ Xi T12 876 8 ∧ Xi T12 876 8 ≤ 9 := hHT12.c _ _
                  exact ⟨hHT12, hFT12, _, rfl, ⟨by omega, by omega⟩, (by first | (intro hz; omega) | (intro _; assumption) | (intro _; exact (WI_FR hHT11 w88 rfl rfl rfl rfl rfl rfl rfl rfl rfl (WI_FR hHT6 w82 rfl rfl rfl rfl rfl rfl rfl rfl rfl (by assumption : WI T6))))), (by omega)⟩
                · refine l_aload_n rfl rfl ?_
                  refine l_iload rfl rfl ?_
                  refine l_callV rfl rfl rfl (t_re_tellAdjectives hHT11 z52 ⟨by omega, by omega⟩ (by first | assumption | exact (TX_FR w82 rfl (TX_FR w53 rfl (by assumption : TX T1)))) (by first | assumption | exact (MAD_FR w82 rfl (by assumption : MAD T6))) _) ?_
                  rintro _ T13 ⟨hHT13, w92, z91, rfl, w91, w90⟩
                  have hFT13 : FR md_re_doObjects S T13 := FR.tr hFT11 w92 rfl
                  show Rl _ _ _ _ _ [iv z91] _ _
                  have hK86 : LKEEP S T13 := LKEEP.tr hK77 (LKEEP_FR (by assumption : FR md_re_tellAdjectives T11 T13) rfl rfl)
                  have ho86 : ∀ j, j ≠ 2 → Xi T13 5 j = Xi S 5 j := fun j hj => (((by assumption : FR md_re_tellAdjectives T11 T13).cx 5 rfl j).1).trans (ho77 j hj)
                  have hc86 : NWC S T13 (v3 + 1) := nwc_e hc77 ((by assumption : FR md_re_tellAdjectives T11 T13).x 5 2 rfl)
                  refine l_if_ne rfl rfl (by unfold rg; omega) (fun w93 => ?_) (fun w94 => ?_)
                  · exact Rl_weak (C102 T13 hHT13 hFT13 (z52) (v3) (z52) (by omega) (by omega) (by omega) (by first | assumption | exact (LEX_FR w92 rfl rfl (LEX_FR w82 rfl rfl (by assumption : LEX T6)))) (by first | assumption | exact (by assumption : TX T13)) (by first | exact hK86 | exact hK43 | exact LKEEP.tr hK102 (LKEEP_FR (by assumption : FR md_wo_tellPlace T11 T13) rfl rfl) | exact LKEEP.rf) (by first | exact ho86 | exact ho43 | exact fun j hj => (((by assumption : FR md_wo_tellPlace T11 T13).cx 5 rfl j).1).trans (ho102 j hj) | exact fun j _ => rfl) (by first | exact hc86 | exact hc43 | exact nwc_e hc102 ((by assumption : FR md_wo_tellPlace T11 T13).x 5 2 rfl) | exact nwc_f hc4 | exact nwc_0 hH) (by omega) (by omega)) (And.intro rfl (And.intro rfl (And.intro rfl (And.intro rfl (And.intro rfl (True.intro))))))
                  · refine l_aload_n rfl rfl ?_
                    refine l_gfr rfl rfl rfl rfl rfl (hHT13.r 891 0 876 rfl) ?_
                    refine l_iconst rfl ?_
                    refine l_iload_n rfl rfl ?_
                    refine l_callV rfl rfl rfl (t_to_wrong hHT13 5 v3 ⟨by omega, by omega⟩ ⟨by omega, by omega⟩ _) ?_
                    rintro _ T14 ⟨hHT14, w98, z97, rfl, w97, w95, w96⟩
                    have hFT14 : FR md_re_doObjects S T14 := FR.tr hFT13 w98 rfl
                    show Rl _ _ _ _ _ [iv z97] _ _
                    refine l_ireturn rfl (retI_z (by omega)) ?_
                    have w99 : 0 ≤ Xi T14 876 8 ∧ Xi T14 876 8 ≤ 9 := hHT14.c _ _
                    exact ⟨hHT14, hFT14, _, rfl, ⟨by omega, by omega⟩, (by first | (intro hz; omega) | (intro _; assumption) | (intro _; exact (WI_FR hHT13 w98 rfl rfl rfl rfl rfl rfl rfl rfl rfl (by assumption : WI T13)))), (by omega)⟩
          · refine l_aload_n rfl rfl ?_
            refine l_gfr rfl rfl rfl rfl rfl (hHT1.r 891 4 895 rfl) ?_
            refine l_gfi rfl rfl rfl rfl rfl ?_
            have w100 : 0 ≤ (Xi T1 895 12) ∧ (Xi T1 895 12) ≤ 15 := hHT1.c _ _
            refine l_goto rfl rfl ?_
            have w101 : 0 ≤ Xi T1 5 2 ∧ Xi T1 5 2 ≤ 24 := hHT1.c _ _
            refine l_callV rfl rfl rfl (t_re_objectOrNew hHT1 v3 (Xi T1 895 12) ⟨by omega, by omega⟩ ⟨by omega, by omega⟩ (by first | assumption | exact (by assumption : LEX T1)) (fun q => hlt (by omega) q) _) ?_
            rintro _ T15 ⟨hHT15, w108, z107, rfl, w107, w102, w103, w104, w105, w106⟩
            have hFT15 : FR md_re_doObjects S T15 := FR.tr hFT1 w108 rfl
            show Rl _ _ _ _ _ [iv z107] _ _
            have hK43 : LKEEP S T15 := LKEEP.tr hK4 (by assumption)
            have ho43 : ∀ j, j ≠ 2 → Xi T15 5 j = Xi S 5 j := fun j hj => ((by assumption : ∀ j, j ≠ 2 → Xi T15 5 j = Xi T1 5 j) j hj).trans (ho4 j hj)
            have hc43 : NWC S T15 (v3 + 1) := nwc_s hH hN hK4 hFp rfl hc4 (by omega) (by omega) (by omega) (by assumption) (by assumption)
            have hX43 : TX T15 := TX_FR (by assumption : FR md_re_objectOrNew T1 T15) rfl hX4
            refine l_istore rfl rfl rfl ?_
            refine l_iload_n rfl rfl ?_
            refine l_iconst rfl ?_
            refine l_icmp_ne rfl rfl (by unfold rg; omega) (by unfold rg; omega) (fun w109 => ?_) (fun w110 => ?_)
            · refine l_iload_n rfl rfl ?_
              refine l_istore_n rfl rfl rfl ?_
              refine l_iload_n rfl rfl ?_
              refine l_if_eq rfl rfl (by unfold rg; omega) (fun w111 => ?_) (fun w112 => ?_)
              · exact Rl_weak (C102 T15 hHT15 hFT15 (v2) (v3) (z107) (by omega) (by omega) (by omega) (by first | assumption | exact (by assumption : LEX T15)) (by first | assumption | exact (TX_FR w108 rfl (by assumption : TX T1))) (by first | exact hK86 | exact hK43 | exact LKEEP.tr hK102 (LKEEP_FR (by assumption : FR md_wo_tellPlace T1 T15) rfl rfl) | exact LKEEP.rf) (by first | exact ho86 | exact ho43 | exact fun j hj => (((by assumption : FR md_wo_tellPlace T1 T15).cx 5 rfl j).1).trans (ho102 j hj) | exact fun j _ => rfl) (by first | exact hc86 | exact hc43 | exact nwc_e hc102 ((by assumption : FR md_wo_tellPlace T1 T15).x 5 2 rfl) | exact nwc_f hc4 | exact nwc_0 hH) (by omega) (by omega)) (And.intro rfl (And.intro rfl (And.intro rfl (And.intro rfl (And.intro rfl (True.intro))))))
              · refine l_aload_n rfl rfl ?_
                refine l_gfr rfl rfl rfl rfl rfl (hHT15.r 891 3 20 rfl) ?_
                refine l_iload rfl rfl ?_
                refine l_aload_n rfl rfl ?_
                refine l_gfr rfl rfl rfl rfl rfl (hHT15.r 891 4 895 rfl) ?_
                refine l_gfi rfl rfl rfl rfl rfl ?_
                have w113 : (Xi T15 895 12) = (Xi T1 895 12) := (show Xi T15 895 12 = Xi T1 895 12 from w108.x _ _ rfl)
                rw [w113]
                refine l_callV rfl rfl rfl (t_wo_tellKind hHT15 z107 (Xi T1 895 12) ⟨by omega, by omega⟩ ⟨by omega, by omega⟩ _) ?_
                rintro _ T16 ⟨hHT16, w115, z114, rfl, w114⟩
                have hFT16 : FR md_re_doObjects S T16 := FR.tr hFT15 w115 rfl
                show Rl _ _ _ _ _ [iv z114] _ _
                have hK77 : LKEEP S T16 := LKEEP.tr hK43 (LKEEP_FR (by assumption : FR md_wo_tellKind T15 T16) rfl rfl)
                have ho77 : ∀ j, j ≠ 2 → Xi T16 5 j = Xi S 5 j := fun j hj => (((by assumption : FR md_wo_tellKind T15 T16).cx 5 rfl j).1).trans (ho43 j hj)
                have hc77 : NWC S T16 (v3 + 1) := nwc_e hc43 ((by assumption : FR md_wo_tellKind T15 T16).x 5 2 rfl)
                have hM77 : MAD T16 := mad_d hFT16 rfl rfl (hM (by omega)) (ho77 3 (by decide))
                refine l_if_eq rfl rfl (by unfold rg; omega) (fun w116 => ?_) (fun w117 => ?_)
                · refine l_aload_n rfl rfl ?_
                  refine l_gfr rfl rfl rfl rfl rfl (hHT16.r 891 0 876 rfl) ?_
                  refine l_iconst rfl ?_
                  refine l_iload_n rfl rfl ?_
                  refine l_callV rfl rfl rfl (t_to_wrong hHT16 5 v3 ⟨by omega, by omega⟩ ⟨by omega, by omega⟩ _) ?_
                  rintro _ T17 ⟨hHT17, w121, z120, rfl, w120, w118, w119⟩
                  have hFT17 : FR md_re_doObjects S T17 := FR.tr hFT16 w121 rfl
                  show Rl _ _ _ _ _ [iv z120] _ _
                  refine l_ireturn rfl (retI_z (by omega)) ?_
                  have w122 : 0 ≤ Xi T17 876 8 ∧ Xi T17 876 8 ≤ 9 := hHT17.c _ _
                  exact ⟨hHT17, hFT17, _, rfl, ⟨by omega, by omega⟩, (by first | (intro hz; omega) | (intro _; assumption) | (intro _; exact (WI_FR hHT16 w121 rfl rfl rfl rfl rfl rfl rfl rfl rfl (WI_FR hHT15 w115 rfl rfl rfl rfl rfl rfl rfl rfl rfl (by assumption : WI T15))))), (by omega)⟩
                · refine l_aload_n rfl rfl ?_
                  refine l_iload rfl rfl ?_
                  refine l_callV rfl rfl rfl (t_re_tellAdjectives hHT16 z107 ⟨by omega, by omega⟩ (by first | assumption | exact (TX_FR w115 rfl (TX_FR w108 rfl (by assumption : TX T1)))) (by first | assumption | exact (MAD_FR w115 rfl (by assumption : MAD T15))) _) ?_
                  rintro _ T18 ⟨hHT18, w125, z124, rfl, w124, w123⟩
                  have hFT18 : FR md_re_doObjects S T18 := FR.tr hFT16 w125 rfl
                  show Rl _ _ _ _ _ [iv z124] _ _
                  have hK86 : LKEEP S T18 := LKEEP.tr hK77 (LKEEP_FR (by assumption : FR md_re_tellAdjectives T16 T18) rfl rfl)
                  have ho86 : ∀ j, j ≠ 2 → Xi T18 5 j = Xi S 5 j := fun j hj => (((by assumption : FR md_re_tellAdjectives T16 T18).cx 5 rfl j).1).trans (ho77 j hj)
                  have hc86 : NWC S T18 (v3 + 1) := nwc_e hc77 ((by assumption : FR md_re_tellAdjectives T16 T18).x 5 2 rfl)
                  refine l_if_ne rfl rfl (by unfold rg; omega) (fun w126 => ?_) (fun w127 => ?_)
                  · exact Rl_weak (C102 T18 hHT18 hFT18 (v2) (v3) (z107) (by omega) (by omega) (by omega) (by first | assumption | exact (LEX_FR w125 rfl rfl (LEX_FR w115 rfl rfl (by assumption : LEX T15)))) (by first | assumption | exact (by assumption : TX T18)) (by first | exact hK86 | exact hK43 | exact LKEEP.tr hK102 (LKEEP_FR (by assumption : FR md_wo_tellPlace T16 T18) rfl rfl) | exact LKEEP.rf) (by first | exact ho86 | exact ho43 | exact fun j hj => (((by assumption : FR md_wo_tellPlace T16 T18).cx 5 rfl j).1).trans (ho102 j hj) | exact fun j _ => rfl) (by first | exact hc86 | exact hc43 | exact nwc_e hc102 ((by assumption : FR md_wo_tellPlace T16 T18).x 5 2 rfl) | exact nwc_f hc4 | exact nwc_0 hH) (by omega) (by omega)) (And.intro rfl (And.intro rfl (And.intro rfl (And.intro rfl (And.intro rfl (True.intro))))))
                  · refine l_aload_n rfl rfl ?_
                    refine l_gfr rfl rfl rfl rfl rfl (hHT18.r 891 0 876 rfl) ?_
                    refine l_iconst rfl ?_
                    refine l_iload_n rfl rfl ?_
                    refine l_callV rfl rfl rfl (t_to_wrong hHT18 5 v3 ⟨by omega, by omega⟩ ⟨by omega, by omega⟩ _) ?_
                    rintro _ T19 ⟨hHT19, w131, z130, rfl, w130, w128, w129⟩
                    have hFT19 : FR md_re_doObjects S T19 := FR.tr hFT18 w131 rfl
                    show Rl _ _ _ _ _ [iv z130] _ _
                    refine l_ireturn rfl (retI_z (by omega)) ?_
                    have w132 : 0 ≤ Xi T19 876 8 ∧ Xi T19 876 8 ≤ 9 := hHT19.c _ _
                    exact ⟨hHT19, hFT19, _, rfl, ⟨by omega, by omega⟩, (by first | (intro hz; omega) | (intro _; assumption) | (intro _; exact (WI_FR hHT18 w131 rfl rfl rfl rfl rfl rfl rfl rfl rfl (by assumption : WI T18)))), (by omega)⟩
            · refine l_iload rfl rfl ?_
              refine l_goto rfl rfl ?_
              refine l_istore_n rfl rfl rfl ?_
              refine l_iload_n rfl rfl ?_
              refine l_if_eq rfl rfl (by unfold rg; omega) (fun w133 => ?_) (fun w134 => ?_)
              · exact Rl_weak (C102 T15 hHT15 hFT15 (z107) (v3) (z107) (by omega) (by omega) (by omega) (by first | assumption | exact (by assumption : LEX T15)) (by first | assumption | exact (TX_FR w108 rfl (by assumption : TX T1))) (by first | exact hK86 | exact hK43 | exact LKEEP.tr hK102 (LKEEP_FR (by assumption : FR md_wo_tellPlace T1 T15) rfl rfl) | exact LKEEP.rf) (by first | exact ho86 | exact ho43 | exact fun j hj => (((by assumption : FR md_wo_tellPlace T1 T15).cx 5 rfl j).1).trans (ho102 j hj) | exact fun j _ => rfl) (by first | exact hc86 | exact hc43 | exact nwc_e hc102 ((by assumption : FR md_wo_tellPlace T1 T15).x 5 2 rfl) | exact nwc_f hc4 | exact nwc_0 hH) (by omega) (by omega)) (And.intro rfl (And.intro rfl (And.intro rfl (And.intro rfl (And.intro rfl (True.intro))))))
              · refine l_aload_n rfl rfl ?_
                refine l_gfr rfl rfl rfl rfl rfl (hHT15.r 891 3 20 rfl) ?_
                refine l_iload rfl rfl ?_
                refine l_aload_n rfl rfl ?_
                refine l_gfr rfl rfl rfl rfl rfl (hHT15.r 891 4 895 rfl) ?_
                refine l_gfi rfl rfl rfl rfl rfl ?_
                have w135 : (Xi T15 895 12) = (Xi T1 895 12) := (show Xi T15 895 12 = Xi T1 895 12 from w108.x _ _ rfl)
                rw [w135]
                refine l_callV rfl rfl rfl (t_wo_tellKind hHT15 z107 (Xi T1 895 12) ⟨by omega, by omega⟩ ⟨by omega, by omega⟩ _) ?_
                rintro _ T20 ⟨hHT20, w137, z136, rfl, w136⟩
                have hFT20 : FR md_re_doObjects S T20 := FR.tr hFT15 w137 rfl
                show Rl _ _ _ _ _ [iv z136] _ _
                have hK77 : LKEEP S T20 := LKEEP.tr hK43 (LKEEP_FR (by assumption : FR md_wo_tellKind T15 T20) rfl rfl)
                have ho77 : ∀ j, j ≠ 2 → Xi T20 5 j = Xi S 5 j := fun j hj => (((by assumption : FR md_wo_tellKind T15 T20).cx 5 rfl j).1).trans (ho43 j hj)
                have hc77 : NWC S T20 (v3 + 1) := nwc_e hc43 ((by assumption : FR md_wo_tellKind T15 T20).x 5 2 rfl)
                have hM77 : MAD T20 := mad_d hFT20 rfl rfl (hM (by omega)) (ho77 3 (by decide))
                refine l_if_eq rfl rfl (by unfold rg; omega) (fun w138 => ?_) (fun w139 => ?_)
                · refine l_aload_n rfl rfl ?_
                  refine l_gfr rfl rfl rfl rfl rfl (hHT20.r 891 0 876 rfl) ?_
                  refine l_iconst rfl ?_
                  refine l_iload_n rfl rfl ?_
                  refine l_callV rfl rfl rfl (t_to_wrong hHT20 5 v3 ⟨by omega, by omega⟩ ⟨by omega, by omega⟩ _) ?_
                  rintro _ T21 ⟨hHT21, w143, z142, rfl, w142, w140, w141⟩
                  have hFT21 : FR md_re_doObjects S T21 := FR.tr hFT20 w143 rfl
                  show Rl _ _ _ _ _ [iv z142] _ _
                  refine l_ireturn rfl (retI_z (by omega)) ?_
                  have w144 : 0 ≤ Xi T21 876 8 ∧ Xi T21 876 8 ≤ 9 := hHT21.c _ _
                  exact ⟨hHT21, hFT21, _, rfl, ⟨by omega, by omega⟩, (by first | (intro hz; omega) | (intro _; assumption) | (intro _; exact (WI_FR hHT20 w143 rfl rfl rfl rfl rfl rfl rfl rfl rfl (WI_FR hHT15 w137 rfl rfl rfl rfl rfl rfl rfl rfl rfl (by assumption : WI T15))))), (by omega)⟩
                · refine l_aload_n rfl rfl ?_
                  refine l_iload rfl rfl ?_
                  refine l_callV rfl rfl rfl (t_re_tellAdjectives hHT20 z107 ⟨by omega, by omega⟩ (by first | assumption | exact (TX_FR w137 rfl (TX_FR w108 rfl (by assumption : TX T1)))) (by first | assumption | exact (MAD_FR w137 rfl (by assumption : MAD T15))) _) ?_
                  rintro _ T22 ⟨hHT22, w147, z146, rfl, w146, w145⟩
                  have hFT22 : FR md_re_doObjects S T22 := FR.tr hFT20 w147 rfl
                  show Rl _ _ _ _ _ [iv z146] _ _
                  have hK86 : LKEEP S T22 := LKEEP.tr hK77 (LKEEP_FR (by assumption : FR md_re_tellAdjectives T20 T22) rfl rfl)
                  have ho86 : ∀ j, j ≠ 2 → Xi T22 5 j = Xi S 5 j := fun j hj => (((by assumption : FR md_re_tellAdjectives T20 T22).cx 5 rfl j).1).trans (ho77 j hj)
                  have hc86 : NWC S T22 (v3 + 1) := nwc_e hc77 ((by assumption : FR md_re_tellAdjectives T20 T22).x 5 2 rfl)
                  refine l_if_ne rfl rfl (by unfold rg; omega) (fun w148 => ?_) (fun w149 => ?_)
                  · exact Rl_weak (C102 T22 hHT22 hFT22 (z107) (v3) (z107) (by omega) (by omega) (by omega) (by first | assumption | exact (LEX_FR w147 rfl rfl (LEX_FR w137 rfl rfl (by assumption : LEX T15)))) (by first | assumption | exact (by assumption : TX T22)) (by first | exact hK86 | exact hK43 | exact LKEEP.tr hK102 (LKEEP_FR (by assumption : FR md_wo_tellPlace T20 T22) rfl rfl) | exact LKEEP.rf) (by first | exact ho86 | exact ho43 | exact fun j hj => (((by assumption : FR md_wo_tellPlace T20 T22).cx 5 rfl j).1).trans (ho102 j hj) | exact fun j _ => rfl) (by first | exact hc86 | exact hc43 | exact nwc_e hc102 ((by assumption : FR md_wo_tellPlace T20 T22).x 5 2 rfl) | exact nwc_f hc4 | exact nwc_0 hH) (by omega) (by omega)) (And.intro rfl (And.intro rfl (And.intro rfl (And.intro rfl (And.intro rfl (True.intro))))))
                  · refine l_aload_n rfl rfl ?_
                    refine l_gfr rfl rfl rfl rfl rfl (hHT22.r 891 0 876 rfl) ?_
                    refine l_iconst rfl ?_
                    refine l_iload_n rfl rfl ?_
                    refine l_callV rfl rfl rfl (t_to_wrong hHT22 5 v3 ⟨by omega, by omega⟩ ⟨by omega, by omega⟩ _) ?_
                    rintro _ T23 ⟨hHT23, w153, z152, rfl, w152, w150, w151⟩
                    have hFT23 : FR md_re_doObjects S T23 := FR.tr hFT22 w153 rfl
                    show Rl _ _ _ _ _ [iv z152] _ _
                    refine l_ireturn rfl (retI_z (by omega)) ?_
                    have w154 : 0 ≤ Xi T23 876 8 ∧ Xi T23 876 8 ≤ 9 := hHT23.c _ _
                    exact ⟨hHT23, hFT23, _, rfl, ⟨by omega, by omega⟩, (by first | (intro hz; omega) | (intro _; assumption) | (intro _; exact (WI_FR hHT22 w153 rfl rfl rfl rfl rfl rfl rfl rfl rfl (by assumption : WI T22)))), (by omega)⟩
        · refine l_goto rfl rfl ?_
          refine l_iinc rfl rfl rfl rfl ?_
          refine l_goto rfl rfl ?_
          exact Rl_weak (ih4 _ (by omega) T1 hHT1 hFT1 (v2) ((v3 + 1)) (by omega) (by omega) (by first | assumption | exact (by assumption : LEX T1)) (by first | assumption | exact (by assumption : TX T1)) (by first | exact hK102 | exact hK43 | exact hK4 | exact LKEEP.tr hK102 (LKEEP_FR (by assumption : FR md_wo_tellPlace T1 T1) rfl rfl) | exact LKEEP.rf) (by first | exact ho102 | exact ho43 | exact ho4 | exact fun j hj => (((by assumption : FR md_wo_tellPlace T1 T1).cx 5 rfl j).1).trans (ho102 j hj) | exact fun j _ => rfl) (by first | exact hc102 | exact hc43 | exact hc4 | exact nwc_e hc102 ((by assumption : FR md_wo_tellPlace T1 T1).x 5 2 rfl) | exact nwc_f hc4 | exact nwc_0 hH) rfl) (And.intro rfl (And.intro rfl (And.intro rfl (And.intro rfl (True.intro)))))
  refine l_iconst rfl ?_
  refine l_istore_n rfl rfl rfl ?_
  refine l_iconst rfl ?_
  refine l_istore_n rfl rfl rfl ?_
  exact Rl_weak (C4 _ S hH hF ((-1)) (0) (by omega) (by omega) (by first | assumption | exact (by assumption : LEX S)) (by first | assumption | exact (by assumption : TX S)) (by first | exact hK102 | exact hK43 | exact hK4 | exact LKEEP.tr hK102 (LKEEP_FR (by assumption : FR md_wo_tellPlace S S) rfl rfl) | exact LKEEP.rf) (by first | exact ho102 | exact ho43 | exact ho4 | exact fun j hj => (((by assumption : FR md_wo_tellPlace S S).cx 5 rfl j).1).trans (ho102 j hj) | exact fun j _ => rfl) (by first | exact hc102 | exact hc43 | exact hc4 | exact nwc_e hc102 ((by assumption : FR md_wo_tellPlace S S).x 5 2 rfl) | exact nwc_f hc4 | exact nwc_0 hH) rfl) (And.intro rfl (And.intro rfl (And.intro rfl (And.intro rfl (True.intro)))))
def md_re_tellLoose : List rec := [(189, 195, 0, 100000), (876, 877, 8, 9), (876, 877, 9, 10)]
abbrev Q_re_tellLoose (S : sS) : pst := fun r S1 => HI S1 ∧ FR md_re_tellLoose S S1 ∧ (∃ z : Int, r = some (iv z) ∧ (0 ≤ z ∧ z ≤ 1) ∧ (z = 1 → WI S1) ∧ (z = 0 → Xi S1 876 8 ≠ 0))
set_option maxRecDepth 100000 in
theorem t_re_tellLoose {S : sS} (hH : HI S) (hW : WI S) (d : Nat) : Mt lay0 (d + 4) m_re_tellLoose [.ref 891] S (Q_re_tellLoose S) := by
  refine Mt_R rfl rfl ?_
  have hF : FR md_re_tellLoose S S := FR.rf
  have w1 : 0 ≤ Xi S 876 7 ∧ Xi S 876 7 ≤ 5125 := hH.c _ _
  have hL := hW.1
  have hX := hW.2.1
  have C21 : ∀ (n21 : Nat) (v1 : Int) (v2 : Int) (v3 : Int) (v4 : Int) (v5 : Int) (v6 : Int), (-1 ≤ v1 ∧ v1 ≤ 5129) → (0 ≤ v2 ∧ v2 ≤ 1) → (0 ≤ v3 ∧ v3 ≤ 5125) → (-1 ≤ v4 ∧ v4 ≤ 5125) → (-1 ≤ v5 ∧ v5 ≤ 5) → (0 ≤ v6 ∧ v6 ≤ 5125) → (v1 = Xi S 876 7 - 1) → (v3 ≠ 0 → 0 ≤ v4 ∧ 0 ≤ v5 ∧ 0 ≤ v1) → (v3 ≤ v6) → n21 = (5126 - v6).toNat → Rl lay0 (d + 3) m_re_tellLoose 21 [(0, .ref 891), (1, iv v1), (2, iv v2), (3, iv v3), (4, iv v4), (5, iv v5), (6, iv v6)] [] S (Q_re_tellLoose S) := by
    intro n21
    induction n21 using Nat.strongRecOn with
    | ind n21 ih21 =>
      intro v1 v2 v3 v4 v5 v6 w2 w3 w4 w5 w6 w7 w8 w9 w10 hm21
      have C173 : ∀  (v1 : Int) (v2 : Int) (v3 : Int) (v4 : Int) (v5 : Int) (v6 : Int), (1 ≤ v1 ∧ v1 ≤ 5129) → (0 ≤ v2 ∧ v2 ≤ 1) → (0 ≤ v3 ∧ v3 ≤ 5125) → (-1 ≤ v4 ∧ v4 ≤ 5125) → (-1 ≤ v5 ∧ v5 ≤ 5) → (0 ≤ v6 ∧ v6 ≤ 5125) → (v1 = Xi S 876 7 - 1) → (v3 ≠ 0 → 0 ≤ v4 ∧ 0 ≤ v5 ∧ 0 ≤ v1) → (v6 < v1) → (v3 ≤ v6 + 1) → ((5126 - v6).toNat ≤ n21) → Rl lay0 (d + 3) m_re_tellLoose 173 [(0, .ref 891), (1, iv v1), (2, iv v2), (3, iv v3), (4, iv v4), (5, iv v5), (6, iv v6)] [] S (Q_re_tellLoose S) := by
        intro v1 v2 v3 v4 v5 v6 w11 w12 w13 w14 w15 w16 w17 w18 w19 w20 w21
        refine l_iinc rfl rfl rfl rfl ?_
        refine l_goto rfl rfl ?_
        exact Rl_weak (ih21 _ (by omega) (v1) (v2) (v3) (v4) (v5) ((v6 + 1)) (by omega) (by omega) (by omega) (by omega) (by omega) (by omega) (by omega) (by omega) (by omega) rfl) (And.intro rfl (And.intro rfl (And.intro rfl (And.intro rfl (And.intro rfl (And.intro rfl (And.intro rfl (True.intro))))))))
      refine l_iload rfl rfl ?_
      refine l_iload_n rfl rfl ?_
      refine l_icmp_ge rfl rfl (by unfold rg; omega) (by unfold rg; omega) (fun w22 => ?_) (fun w23 => ?_)
      · refine l_iload_n rfl rfl ?_
        refine l_iconst rfl ?_
        refine l_icmp_eq rfl rfl (by unfold rg; omega) (by unfold rg; omega) (fun w24 => ?_) (fun w25 => ?_)
        · refine l_aload_n rfl rfl ?_
          refine l_iload rfl rfl ?_
          refine l_iload rfl rfl ?_
          refine l_iload_n rfl rfl ?_
          refine l_callV rfl rfl rfl (t_re_relateAll hH v5 v4 v1 ⟨by omega, by omega⟩ ⟨by omega, by omega⟩ ⟨by omega, by omega⟩ (by first | assumption | exact (LEX_FR hF rfl rfl (by assumption : LEX S))) _) ?_
          rintro _ T1 ⟨hHT1, w27, z26, rfl, w26⟩
          have hFT1 : FR md_re_tellLoose S T1 := FR.tr hF w27 rfl
          show Rl _ _ _ _ _ [iv z26] _ _
          refine l_if_ne rfl rfl (by unfold rg; omega) (fun w28 => ?_) (fun w29 => ?_)
          · refine l_iconst rfl ?_
            refine l_goto rfl rfl ?_
            refine l_ireturn rfl rfl ?_
            have w30 : Xi T1 876 8 = Xi S 876 8 := (show Xi T1 876 8 = Xi S 876 8 from w27.x _ _ rfl)
            have w31 : 0 ≤ Xi S 876 8 ∧ Xi S 876 8 ≤ 9 := hH.c _ _
            exact ⟨hHT1, hFT1, _, rfl, ⟨by omega, by omega⟩, (by first | (intro hz; omega) | (intro _; assumption) | (intro _; exact (WI_FR hH hFT1 rfl rfl rfl rfl rfl rfl rfl rfl rfl (by assumption : WI S)))), (by omega)⟩
          · refine l_aload_n rfl rfl ?_
            refine l_gfr rfl rfl rfl rfl rfl (hHT1.r 891 0 876 rfl) ?_
            refine l_iconst rfl ?_
            refine l_iconst rfl ?_
            refine l_callV rfl rfl rfl (t_to_wrong hHT1 5 0 ⟨by omega, by omega⟩ ⟨by omega, by omega⟩ _) ?_
            rintro _ T2 ⟨hHT2, w35, z34, rfl, w34, w32, w33⟩
            have hFT2 : FR md_re_tellLoose S T2 := FR.tr hFT1 w35 rfl
            show Rl _ _ _ _ _ [iv z34] _ _
            refine l_if_eq rfl rfl (by unfold rg; omega) (fun w36 => ?_) (fun w37 => ?_)
            · refine l_iconst rfl ?_
              refine l_ireturn rfl rfl ?_
              have w38 : 0 ≤ Xi T2 876 8 ∧ Xi T2 876 8 ≤ 9 := hHT2.c _ _
              exact ⟨hHT2, hFT2, _, rfl, ⟨by omega, by omega⟩, (by first | (intro hz; omega) | (intro _; assumption) | (intro _; exact (WI_FR hH hFT2 rfl rfl rfl rfl rfl rfl rfl rfl rfl (by assumption : WI S)))), (by omega)⟩
            · refine l_iconst rfl ?_
              refine l_goto rfl rfl ?_
              refine l_ireturn rfl rfl ?_
              have w39 : 0 ≤ Xi T2 876 8 ∧ Xi T2 876 8 ≤ 9 := hHT2.c _ _
              exact ⟨hHT2, hFT2, _, rfl, ⟨by omega, by omega⟩, (by first | (intro hz; omega) | (intro _; assumption) | (intro _; exact (WI_FR hH hFT2 rfl rfl rfl rfl rfl rfl rfl rfl rfl (by assumption : WI S)))), (by omega)⟩
        · refine l_aload_n rfl rfl ?_
          refine l_gfr rfl rfl rfl rfl rfl (hH.r 891 0 876 rfl) ?_
          refine l_iload_n rfl rfl ?_
          refine l_if_ne rfl rfl (by unfold rg; omega) (fun w40 => ?_) (fun w41 => ?_)
          · refine l_bipush rfl rfl ?_
            refine l_iconst rfl ?_
            refine l_callV rfl rfl rfl (t_to_wrong hH 7 0 ⟨by omega, by omega⟩ ⟨by omega, by omega⟩ _) ?_
            rintro _ T3 ⟨hHT3, w45, z44, rfl, w44, w42, w43⟩
            have hFT3 : FR md_re_tellLoose S T3 := FR.tr hF w45 rfl
            show Rl _ _ _ _ _ [iv z44] _ _
            refine l_ireturn rfl (retI_z (by omega)) ?_
            have w46 : 0 ≤ Xi T3 876 8 ∧ Xi T3 876 8 ≤ 9 := hHT3.c _ _
            exact ⟨hHT3, hFT3, _, rfl, ⟨by omega, by omega⟩, (by first | (intro hz; omega) | (intro _; assumption) | (intro _; exact (WI_FR hH hFT3 rfl rfl rfl rfl rfl rfl rfl rfl rfl (by assumption : WI S)))), (by omega)⟩
          · refine l_iconst rfl ?_
            refine l_goto rfl rfl ?_
            refine l_iconst rfl ?_
            refine l_callV rfl rfl rfl (t_to_wrong hH 4 0 ⟨by omega, by omega⟩ ⟨by omega, by omega⟩ _) ?_
            rintro _ T4 ⟨hHT4, w50, z49, rfl, w49, w47, w48⟩
            have hFT4 : FR md_re_tellLoose S T4 := FR.tr hF w50 rfl
            show Rl _ _ _ _ _ [iv z49] _ _
            refine l_ireturn rfl (retI_z (by omega)) ?_
            have w51 : 0 ≤ Xi T4 876 8 ∧ Xi T4 876 8 ≤ 9 := hHT4.c _ _
            exact ⟨hHT4, hFT4, _, rfl, ⟨by omega, by omega⟩, (by first | (intro hz; omega) | (intro _; assumption) | (intro _; exact (WI_FR hH hFT4 rfl rfl rfl rfl rfl rfl rfl rfl rfl (by assumption : WI S)))), (by omega)⟩
      · refine l_aload_n rfl rfl ?_
        refine l_gfr rfl rfl rfl rfl rfl (hH.r 891 0 876 rfl) ?_
        refine l_iload rfl rfl ?_
        have w52 : 0 ≤ Xi S 876 7 ∧ Xi S 876 7 ≤ 5125 := hH.c _ _
        refine l_callV rfl rfl rfl (t_to_typeAt hH v6 ⟨by omega, by omega⟩ _) ?_
        rintro _ _ ⟨rfl, z56, rfl, w56, w53, w54, w55⟩
        clear w54 w55
        show Rl _ _ _ _ _ [iv z56] _ _
        refine l_istore rfl rfl rfl ?_
        refine l_iload_n rfl rfl ?_
        refine l_if_ne rfl rfl (by unfold rg; omega) (fun w57 => ?_) (fun w58 => ?_)
        · refine l_iconst rfl ?_
          refine l_goto rfl rfl ?_
          refine l_istore_n rfl rfl rfl ?_
          refine l_iload rfl rfl ?_
          refine l_bipush rfl rfl ?_
          refine l_icmp_ne rfl rfl (by unfold rg; omega) (by unfold rg; omega) (fun w59 => ?_) (fun w60 => ?_)
          · refine l_iconst rfl ?_
            refine l_istore rfl rfl rfl ?_
            refine l_iload rfl rfl ?_
            refine l_iconst rfl ?_
            refine l_icmp_ne rfl rfl (by unfold rg; omega) (by unfold rg; omega) (fun w61 => absurd w61 (by omega)) (fun w62 => ?_)
            · refine l_goto rfl rfl ?_
              exact Rl_weak (C173 (v1) (1) (v3) (v4) (v5) (v6) (by omega) (by omega) (by omega) (by omega) (by omega) (by omega) (by omega) (by omega) (by omega) (by omega) (by omega)) (And.intro rfl (And.intro rfl (And.intro rfl (And.intro rfl (And.intro rfl (And.intro rfl (And.intro rfl (True.intro))))))))
          · refine l_aload_n rfl rfl ?_
            refine l_gfr rfl rfl rfl rfl rfl (hH.r 891 4 895 rfl) ?_
            refine l_iload_n rfl rfl ?_
            refine l_if_eq rfl rfl (by unfold rg; omega) (fun w63 => absurd w63 (by omega)) (fun w64 => ?_)
            · refine l_bipush rfl rfl ?_
              refine l_goto rfl rfl ?_
              refine l_iload rfl rfl ?_
              refine l_iload rfl rfl ?_
              refine l_iconst rfl ?_
              refine l_iadd rfl ?_
              refine l_callV rfl rfl rfl (t_me_find hH 7 v6 (v6 + 1) ⟨by omega, by omega⟩ ⟨by omega, by omega⟩ ⟨by omega, by omega⟩ (by first | assumption | exact (LEX_FR hF rfl rfl (by assumption : LEX S))) _) ?_
              rintro _ _ ⟨rfl, z68, rfl, w68, w65, w66, w67⟩
              have w69 : z68 ≠ -1 → _ := fun h => fb7 hH (w65 h)
              clear w66
              show Rl _ _ _ _ _ [iv z68] _ _
              refine l_goto rfl rfl ?_
              refine l_istore rfl rfl rfl ?_
              refine l_iload rfl rfl ?_
              refine l_iconst rfl ?_
              refine l_icmp_ne rfl rfl (by unfold rg; omega) (by unfold rg; omega) (fun w70 => ?_) (fun w71 => ?_)
              · refine l_aload_n rfl rfl ?_
                refine l_gfr rfl rfl rfl rfl rfl (hH.r 891 2 1 rfl) ?_
                refine l_gfr rfl rfl rfl rfl rfl (hH.r 1 17 18 rfl) ?_
                refine l_iload rfl rfl ?_
                refine l_iaload (n := 8) rfl rfl (by omega) (by omega) (by unfold rg; omega) ?_
                have w72 : 0 ≤ (Xi S 18 ((z68).toNat)) ∧ (Xi S 18 ((z68).toNat)) ≤ 5 := hH.c _ _
                refine l_istore rfl rfl rfl ?_
                refine l_aload_n rfl rfl ?_
                refine l_iconst rfl ?_
                refine l_iload rfl rfl ?_
                refine l_aload_n rfl rfl ?_
                refine l_gfr rfl rfl rfl rfl rfl (hH.r 891 2 1 rfl) ?_
                refine l_gfr rfl rfl rfl rfl rfl (hH.r 1 13 14 rfl) ?_
                refine l_iload rfl rfl ?_
                refine l_iaload (n := 6) rfl rfl (by omega) (by omega) (by unfold rg; omega) ?_
                have w73 : 0 ≤ (Xi S 14 (((Xi S 18 ((z68).toNat))).toNat)) ∧ (Xi S 14 (((Xi S 18 ((z68).toNat))).toNat)) ≤ 15 := hH.c _ _
                refine l_callV rfl rfl rfl (t_re_isObjectList hH 0 v6 (Xi S 14 (((Xi S 18 ((z68).toNat))).toNat)) ⟨by omega, by omega⟩ ⟨by omega, by omega⟩ ⟨by omega, by omega⟩ (by first | assumption | exact (LEX_FR hF rfl rfl (by assumption : LEX S))) _) ?_
                rintro _ _ ⟨rfl, z74, rfl, w74⟩
                show Rl _ _ _ _ _ [iv z74] _ _
                refine l_if_eq rfl rfl (by unfold rg; omega) (fun w75 => ?_) (fun w76 => ?_)
                · exact Rl_weak (C173 (v1) (1) (v3) (v4) (v5) (v6) (by omega) (by omega) (by omega) (by omega) (by omega) (by omega) (by omega) (by omega) (by omega) (by omega) (by omega)) (And.intro rfl (And.intro rfl (And.intro rfl (And.intro rfl (And.intro rfl (And.intro rfl (And.intro rfl (True.intro))))))))
                · refine l_aload_n rfl rfl ?_
                  refine l_iload rfl rfl ?_
                  refine l_iconst rfl ?_
                  refine l_iadd rfl ?_
                  refine l_iload_n rfl rfl ?_
                  refine l_aload_n rfl rfl ?_
                  refine l_gfr rfl rfl rfl rfl rfl (hH.r 891 2 1 rfl) ?_
                  refine l_gfr rfl rfl rfl rfl rfl (hH.r 1 14 15 rfl) ?_
                  refine l_iload rfl rfl ?_
                  refine l_iaload (n := 6) rfl rfl (by omega) (by omega) (by unfold rg; omega) ?_
                  have w77 : 0 ≤ (Xi S 15 (((Xi S 18 ((z68).toNat))).toNat)) ∧ (Xi S 15 (((Xi S 18 ((z68).toNat))).toNat)) ≤ 15 := hH.c _ _
                  refine l_callV rfl rfl rfl (t_re_isObjectList hH (v6 + 1) v1 (Xi S 15 (((Xi S 18 ((z68).toNat))).toNat)) ⟨by omega, by omega⟩ ⟨by omega, by omega⟩ ⟨by omega, by omega⟩ (by first | assumption | exact (LEX_FR hF rfl rfl (by assumption : LEX S))) _) ?_
                  rintro _ _ ⟨rfl, z78, rfl, w78⟩
                  show Rl _ _ _ _ _ [iv z78] _ _
                  refine l_if_eq rfl rfl (by unfold rg; omega) (fun w79 => ?_) (fun w80 => ?_)
                  · exact Rl_weak (C173 (v1) (1) (v3) (v4) (v5) (v6) (by omega) (by omega) (by omega) (by omega) (by omega) (by omega) (by omega) (by omega) (by omega) (by omega) (by omega)) (And.intro rfl (And.intro rfl (And.intro rfl (And.intro rfl (And.intro rfl (And.intro rfl (And.intro rfl (True.intro))))))))
                  · refine l_iload rfl rfl ?_
                    refine l_istore rfl rfl rfl ?_
                    refine l_iload rfl rfl ?_
                    refine l_istore rfl rfl rfl ?_
                    refine l_iinc rfl rfl rfl rfl ?_
                    exact Rl_weak (C173 (v1) (1) ((v3 + 1)) (v6) ((Xi S 18 ((z68).toNat))) (v6) (by omega) (by omega) (by omega) (by omega) (by omega) (by omega) (by omega) (by omega) (by omega) (by omega) (by omega)) (And.intro rfl (And.intro rfl (And.intro rfl (And.intro rfl (And.intro rfl (And.intro rfl (And.intro rfl (True.intro))))))))
              · refine l_goto rfl rfl ?_
                exact Rl_weak (C173 (v1) (1) (v3) (v4) (v5) (v6) (by omega) (by omega) (by omega) (by omega) (by omega) (by omega) (by omega) (by omega) (by omega) (by omega) (by omega)) (And.intro rfl (And.intro rfl (And.intro rfl (And.intro rfl (And.intro rfl (And.intro rfl (And.intro rfl (True.intro))))))))
        · refine l_iload rfl rfl ?_
          refine l_bipush rfl rfl ?_
          refine l_icmp_eq rfl rfl (by unfold rg; omega) (by unfold rg; omega) (fun w81 => ?_) (fun w82 => ?_)
          · refine l_iconst rfl ?_
            refine l_goto rfl rfl ?_
            refine l_istore_n rfl rfl rfl ?_
            refine l_iload rfl rfl ?_
            refine l_bipush rfl rfl ?_
            refine l_icmp_ne rfl rfl (by unfold rg; omega) (by unfold rg; omega) (fun w83 => ?_) (fun w84 => ?_)
            · refine l_iconst rfl ?_
              refine l_istore rfl rfl rfl ?_
              refine l_iload rfl rfl ?_
              refine l_iconst rfl ?_
              refine l_icmp_ne rfl rfl (by unfold rg; omega) (by unfold rg; omega) (fun w85 => absurd w85 (by omega)) (fun w86 => ?_)
              · refine l_goto rfl rfl ?_
                exact Rl_weak (C173 (v1) (1) (v3) (v4) (v5) (v6) (by omega) (by omega) (by omega) (by omega) (by omega) (by omega) (by omega) (by omega) (by omega) (by omega) (by omega)) (And.intro rfl (And.intro rfl (And.intro rfl (And.intro rfl (And.intro rfl (And.intro rfl (And.intro rfl (True.intro))))))))
            · refine l_aload_n rfl rfl ?_
              refine l_gfr rfl rfl rfl rfl rfl (hH.r 891 4 895 rfl) ?_
              refine l_iload_n rfl rfl ?_
              refine l_if_eq rfl rfl (by unfold rg; omega) (fun w87 => absurd w87 (by omega)) (fun w88 => ?_)
              · refine l_bipush rfl rfl ?_
                refine l_goto rfl rfl ?_
                refine l_iload rfl rfl ?_
                refine l_iload rfl rfl ?_
                refine l_iconst rfl ?_
                refine l_iadd rfl ?_
                refine l_callV rfl rfl rfl (t_me_find hH 7 v6 (v6 + 1) ⟨by omega, by omega⟩ ⟨by omega, by omega⟩ ⟨by omega, by omega⟩ (by first | assumption | exact (LEX_FR hF rfl rfl (by assumption : LEX S))) _) ?_
                rintro _ _ ⟨rfl, z92, rfl, w92, w89, w90, w91⟩
                have w93 : z92 ≠ -1 → _ := fun h => fb7 hH (w89 h)
                clear w90
                show Rl _ _ _ _ _ [iv z92] _ _
                refine l_goto rfl rfl ?_
                refine l_istore rfl rfl rfl ?_
                refine l_iload rfl rfl ?_
                refine l_iconst rfl ?_
                refine l_icmp_ne rfl rfl (by unfold rg; omega) (by unfold rg; omega) (fun w94 => ?_) (fun w95 => ?_)
                · refine l_aload_n rfl rfl ?_
                  refine l_gfr rfl rfl rfl rfl rfl (hH.r 891 2 1 rfl) ?_
                  refine l_gfr rfl rfl rfl rfl rfl (hH.r 1 17 18 rfl) ?_
                  refine l_iload rfl rfl ?_
                  refine l_iaload (n := 8) rfl rfl (by omega) (by omega) (by unfold rg; omega) ?_
                  have w96 : 0 ≤ (Xi S 18 ((z92).toNat)) ∧ (Xi S 18 ((z92).toNat)) ≤ 5 := hH.c _ _
                  refine l_istore rfl rfl rfl ?_
                  refine l_aload_n rfl rfl ?_
                  refine l_iconst rfl ?_
                  refine l_iload rfl rfl ?_
                  refine l_aload_n rfl rfl ?_
                  refine l_gfr rfl rfl rfl rfl rfl (hH.r 891 2 1 rfl) ?_
                  refine l_gfr rfl rfl rfl rfl rfl (hH.r 1 13 14 rfl) ?_
                  refine l_iload rfl rfl ?_
                  refine l_iaload (n := 6) rfl rfl (by omega) (by omega) (by unfold rg; omega) ?_
                  have w97 : 0 ≤ (Xi S 14 (((Xi S 18 ((z92).toNat))).toNat)) ∧ (Xi S 14 (((Xi S 18 ((z92).toNat))).toNat)) ≤ 15 := hH.c _ _
                  refine l_callV rfl rfl rfl (t_re_isObjectList hH 0 v6 (Xi S 14 (((Xi S 18 ((z92).toNat))).toNat)) ⟨by omega, by omega⟩ ⟨by omega, by omega⟩ ⟨by omega, by omega⟩ (by first | assumption | exact (LEX_FR hF rfl rfl (by assumption : LEX S))) _) ?_
                  rintro _ _ ⟨rfl, z98, rfl, w98⟩
                  show Rl _ _ _ _ _ [iv z98] _ _
                  refine l_if_eq rfl rfl (by unfold rg; omega) (fun w99 => ?_) (fun w100 => ?_)
                  · exact Rl_weak (C173 (v1) (1) (v3) (v4) (v5) (v6) (by omega) (by omega) (by omega) (by omega) (by omega) (by omega) (by omega) (by omega) (by omega) (by omega) (by omega)) (And.intro rfl (And.intro rfl (And.intro rfl (And.intro rfl (And.intro rfl (And.intro rfl (And.intro rfl (True.intro))))))))
                  · refine l_aload_n rfl rfl ?_
                    refine l_iload rfl rfl ?_
                    refine l_iconst rfl ?_
                    refine l_iadd rfl ?_
                    refine l_iload_n rfl rfl ?_
                    refine l_aload_n rfl rfl ?_
                    refine l_gfr rfl rfl rfl rfl rfl (hH.r 891 2 1 rfl) ?_
                    refine l_gfr rfl rfl rfl rfl rfl (hH.r 1 14 15 rfl) ?_
                    refine l_iload rfl rfl ?_
                    refine l_iaload (n := 6) rfl rfl (by omega) (by omega) (by unfold rg; omega) ?_
                    have w101 : 0 ≤ (Xi S 15 (((Xi S 18 ((z92).toNat))).toNat)) ∧ (Xi S 15 (((Xi S 18 ((z92).toNat))).toNat)) ≤ 15 := hH.c _ _
                    refine l_callV rfl rfl rfl (t_re_isObjectList hH (v6 + 1) v1 (Xi S 15 (((Xi S 18 ((z92).toNat))).toNat)) ⟨by omega, by omega⟩ ⟨by omega, by omega⟩ ⟨by omega, by omega⟩ (by first | assumption | exact (LEX_FR hF rfl rfl (by assumption : LEX S))) _) ?_
                    rintro _ _ ⟨rfl, z102, rfl, w102⟩
                    show Rl _ _ _ _ _ [iv z102] _ _
                    refine l_if_eq rfl rfl (by unfold rg; omega) (fun w103 => ?_) (fun w104 => ?_)
                    · exact Rl_weak (C173 (v1) (1) (v3) (v4) (v5) (v6) (by omega) (by omega) (by omega) (by omega) (by omega) (by omega) (by omega) (by omega) (by omega) (by omega) (by omega)) (And.intro rfl (And.intro rfl (And.intro rfl (And.intro rfl (And.intro rfl (And.intro rfl (And.intro rfl (True.intro))))))))
                    · refine l_iload rfl rfl ?_
                      refine l_istore rfl rfl rfl ?_
                      refine l_iload rfl rfl ?_
                      refine l_istore rfl rfl rfl ?_
                      refine l_iinc rfl rfl rfl rfl ?_
                      exact Rl_weak (C173 (v1) (1) ((v3 + 1)) (v6) ((Xi S 18 ((z92).toNat))) (v6) (by omega) (by omega) (by omega) (by omega) (by omega) (by omega) (by omega) (by omega) (by omega) (by omega) (by omega)) (And.intro rfl (And.intro rfl (And.intro rfl (And.intro rfl (And.intro rfl (And.intro rfl (And.intro rfl (True.intro))))))))
                · refine l_goto rfl rfl ?_
                  exact Rl_weak (C173 (v1) (1) (v3) (v4) (v5) (v6) (by omega) (by omega) (by omega) (by omega) (by omega) (by omega) (by omega) (by omega) (by omega) (by omega) (by omega)) (And.intro rfl (And.intro rfl (And.intro rfl (And.intro rfl (And.intro rfl (And.intro rfl (And.intro rfl (True.intro))))))))
          · refine l_iload rfl rfl ?_
            refine l_bipush rfl rfl ?_
            refine l_icmp_ne rfl rfl (by unfold rg; omega) (by unfold rg; omega) (fun w105 => ?_) (fun w106 => ?_)
            · refine l_iconst rfl ?_
              refine l_istore_n rfl rfl rfl ?_
              refine l_iload rfl rfl ?_
              refine l_bipush rfl rfl ?_
              refine l_icmp_ne rfl rfl (by unfold rg; omega) (by unfold rg; omega) (fun w107 => ?_) (fun w108 => ?_)
              · refine l_iconst rfl ?_
                refine l_istore rfl rfl rfl ?_
                refine l_iload rfl rfl ?_
                refine l_iconst rfl ?_
                refine l_icmp_ne rfl rfl (by unfold rg; omega) (by unfold rg; omega) (fun w109 => absurd w109 (by omega)) (fun w110 => ?_)
                · refine l_goto rfl rfl ?_
                  exact Rl_weak (C173 (v1) (0) (v3) (v4) (v5) (v6) (by omega) (by omega) (by omega) (by omega) (by omega) (by omega) (by omega) (by omega) (by omega) (by omega) (by omega)) (And.intro rfl (And.intro rfl (And.intro rfl (And.intro rfl (And.intro rfl (And.intro rfl (And.intro rfl (True.intro))))))))
              · refine l_aload_n rfl rfl ?_
                refine l_gfr rfl rfl rfl rfl rfl (hH.r 891 4 895 rfl) ?_
                refine l_iload_n rfl rfl ?_
                refine l_if_eq rfl rfl (by unfold rg; omega) (fun w111 => ?_) (fun w112 => absurd w112 (by omega))
                · refine l_bipush rfl rfl ?_
                  refine l_iload rfl rfl ?_
                  refine l_iload rfl rfl ?_
                  refine l_iconst rfl ?_
                  refine l_iadd rfl ?_
                  refine l_callV rfl rfl rfl (t_me_find hH 13 v6 (v6 + 1) ⟨by omega, by omega⟩ ⟨by omega, by omega⟩ ⟨by omega, by omega⟩ (by first | assumption | exact (LEX_FR hF rfl rfl (by assumption : LEX S))) _) ?_
                  rintro _ _ ⟨rfl, z116, rfl, w116, w113, w114, w115⟩
                  have w117 : z116 ≠ -1 → _ := fun h => fb13 hH (w113 h)
                  clear w114
                  show Rl _ _ _ _ _ [iv z116] _ _
                  refine l_goto rfl rfl ?_
                  refine l_istore rfl rfl rfl ?_
                  refine l_iload rfl rfl ?_
                  refine l_iconst rfl ?_
                  refine l_icmp_ne rfl rfl (by unfold rg; omega) (by unfold rg; omega) (fun w118 => ?_) (fun w119 => ?_)
                  · refine l_aload_n rfl rfl ?_
                    refine l_gfr rfl rfl rfl rfl rfl (hH.r 891 2 1 rfl) ?_
                    refine l_gfr rfl rfl rfl rfl rfl (hH.r 1 17 18 rfl) ?_
                    refine l_iload rfl rfl ?_
                    refine l_iaload (n := 8) rfl rfl (by omega) (by omega) (by unfold rg; omega) ?_
                    have w120 : 0 ≤ (Xi S 18 ((z116).toNat)) ∧ (Xi S 18 ((z116).toNat)) ≤ 5 := hH.c _ _
                    refine l_istore rfl rfl rfl ?_
                    refine l_aload_n rfl rfl ?_
                    refine l_iconst rfl ?_
                    refine l_iload rfl rfl ?_
                    refine l_aload_n rfl rfl ?_
                    refine l_gfr rfl rfl rfl rfl rfl (hH.r 891 2 1 rfl) ?_
                    refine l_gfr rfl rfl rfl rfl rfl (hH.r 1 13 14 rfl) ?_
                    refine l_iload rfl rfl ?_
                    refine l_iaload (n := 6) rfl rfl (by omega) (by omega) (by unfold rg; omega) ?_
                    have w121 : 0 ≤ (Xi S 14 (((Xi S 18 ((z116).toNat))).toNat)) ∧ (Xi S 14 (((Xi S 18 ((z116).toNat))).toNat)) ≤ 15 := hH.c _ _
                    refine l_callV rfl rfl rfl (t_re_isObjectList hH 0 v6 (Xi S 14 (((Xi S 18 ((z116).toNat))).toNat)) ⟨by omega, by omega⟩ ⟨by omega, by omega⟩ ⟨by omega, by omega⟩ (by first | assumption | exact (LEX_FR hF rfl rfl (by assumption : LEX S))) _) ?_
                    rintro _ _ ⟨rfl, z122, rfl, w122⟩
                    show Rl _ _ _ _ _ [iv z122] _ _
                    refine l_if_eq rfl rfl (by unfold rg; omega) (fun w123 => ?_) (fun w124 => ?_)
                    · exact Rl_weak (C173 (v1) (0) (v3) (v4) (v5) (v6) (by omega) (by omega) (by omega) (by omega) (by omega) (by omega) (by omega) (by omega) (by omega) (by omega) (by omega)) (And.intro rfl (And.intro rfl (And.intro rfl (And.intro rfl (And.intro rfl (And.intro rfl (And.intro rfl (True.intro))))))))
                    · refine l_aload_n rfl rfl ?_
                      refine l_iload rfl rfl ?_
                      refine l_iconst rfl ?_
                      refine l_iadd rfl ?_
                      refine l_iload_n rfl rfl ?_
                      refine l_aload_n rfl rfl ?_
                      refine l_gfr rfl rfl rfl rfl rfl (hH.r 891 2 1 rfl) ?_
                      refine l_gfr rfl rfl rfl rfl rfl (hH.r 1 14 15 rfl) ?_
                      refine l_iload rfl rfl ?_
                      refine l_iaload (n := 6) rfl rfl (by omega) (by omega) (by unfold rg; omega) ?_
                      have w125 : 0 ≤ (Xi S 15 (((Xi S 18 ((z116).toNat))).toNat)) ∧ (Xi S 15 (((Xi S 18 ((z116).toNat))).toNat)) ≤ 15 := hH.c _ _
                      refine l_callV rfl rfl rfl (t_re_isObjectList hH (v6 + 1) v1 (Xi S 15 (((Xi S 18 ((z116).toNat))).toNat)) ⟨by omega, by omega⟩ ⟨by omega, by omega⟩ ⟨by omega, by omega⟩ (by first | assumption | exact (LEX_FR hF rfl rfl (by assumption : LEX S))) _) ?_
                      rintro _ _ ⟨rfl, z126, rfl, w126⟩
                      show Rl _ _ _ _ _ [iv z126] _ _
                      refine l_if_eq rfl rfl (by unfold rg; omega) (fun w127 => ?_) (fun w128 => ?_)
                      · exact Rl_weak (C173 (v1) (0) (v3) (v4) (v5) (v6) (by omega) (by omega) (by omega) (by omega) (by omega) (by omega) (by omega) (by omega) (by omega) (by omega) (by omega)) (And.intro rfl (And.intro rfl (And.intro rfl (And.intro rfl (And.intro rfl (And.intro rfl (And.intro rfl (True.intro))))))))
                      · refine l_iload rfl rfl ?_
                        refine l_istore rfl rfl rfl ?_
                        refine l_iload rfl rfl ?_
                        refine l_istore rfl rfl rfl ?_
                        refine l_iinc rfl rfl rfl rfl ?_
                        exact Rl_weak (C173 (v1) (0) ((v3 + 1)) (v6) ((Xi S 18 ((z116).toNat))) (v6) (by omega) (by omega) (by omega) (by omega) (by omega) (by omega) (by omega) (by omega) (by omega) (by omega) (by omega)) (And.intro rfl (And.intro rfl (And.intro rfl (And.intro rfl (And.intro rfl (And.intro rfl (And.intro rfl (True.intro))))))))
                  · refine l_goto rfl rfl ?_
                    exact Rl_weak (C173 (v1) (0) (v3) (v4) (v5) (v6) (by omega) (by omega) (by omega) (by omega) (by omega) (by omega) (by omega) (by omega) (by omega) (by omega) (by omega)) (And.intro rfl (And.intro rfl (And.intro rfl (And.intro rfl (And.intro rfl (And.intro rfl (And.intro rfl (True.intro))))))))
            · refine l_iconst rfl ?_
              refine l_goto rfl rfl ?_
              refine l_istore_n rfl rfl rfl ?_
              refine l_iload rfl rfl ?_
              refine l_bipush rfl rfl ?_
              refine l_icmp_ne rfl rfl (by unfold rg; omega) (by unfold rg; omega) (fun w129 => ?_) (fun w130 => ?_)
              · refine l_iconst rfl ?_
                refine l_istore rfl rfl rfl ?_
                refine l_iload rfl rfl ?_
                refine l_iconst rfl ?_
                refine l_icmp_ne rfl rfl (by unfold rg; omega) (by unfold rg; omega) (fun w131 => absurd w131 (by omega)) (fun w132 => ?_)
                · refine l_goto rfl rfl ?_
                  exact Rl_weak (C173 (v1) (1) (v3) (v4) (v5) (v6) (by omega) (by omega) (by omega) (by omega) (by omega) (by omega) (by omega) (by omega) (by omega) (by omega) (by omega)) (And.intro rfl (And.intro rfl (And.intro rfl (And.intro rfl (And.intro rfl (And.intro rfl (And.intro rfl (True.intro))))))))
              · refine l_aload_n rfl rfl ?_
                refine l_gfr rfl rfl rfl rfl rfl (hH.r 891 4 895 rfl) ?_
                refine l_iload_n rfl rfl ?_
                refine l_if_eq rfl rfl (by unfold rg; omega) (fun w133 => absurd w133 (by omega)) (fun w134 => ?_)
                · refine l_bipush rfl rfl ?_
                  refine l_goto rfl rfl ?_
                  refine l_iload rfl rfl ?_
                  refine l_iload rfl rfl ?_
                  refine l_iconst rfl ?_
                  refine l_iadd rfl ?_
                  refine l_callV rfl rfl rfl (t_me_find hH 7 v6 (v6 + 1) ⟨by omega, by omega⟩ ⟨by omega, by omega⟩ ⟨by omega, by omega⟩ (by first | assumption | exact (LEX_FR hF rfl rfl (by assumption : LEX S))) _) ?_
                  rintro _ _ ⟨rfl, z138, rfl, w138, w135, w136, w137⟩
                  have w139 : z138 ≠ -1 → _ := fun h => fb7 hH (w135 h)
                  clear w136
                  show Rl _ _ _ _ _ [iv z138] _ _
                  refine l_goto rfl rfl ?_
                  refine l_istore rfl rfl rfl ?_
                  refine l_iload rfl rfl ?_
                  refine l_iconst rfl ?_
                  refine l_icmp_ne rfl rfl (by unfold rg; omega) (by unfold rg; omega) (fun w140 => ?_) (fun w141 => ?_)
                  · refine l_aload_n rfl rfl ?_
                    refine l_gfr rfl rfl rfl rfl rfl (hH.r 891 2 1 rfl) ?_
                    refine l_gfr rfl rfl rfl rfl rfl (hH.r 1 17 18 rfl) ?_
                    refine l_iload rfl rfl ?_
                    refine l_iaload (n := 8) rfl rfl (by omega) (by omega) (by unfold rg; omega) ?_
                    have w142 : 0 ≤ (Xi S 18 ((z138).toNat)) ∧ (Xi S 18 ((z138).toNat)) ≤ 5 := hH.c _ _
                    refine l_istore rfl rfl rfl ?_
                    refine l_aload_n rfl rfl ?_
                    refine l_iconst rfl ?_
                    refine l_iload rfl rfl ?_
                    refine l_aload_n rfl rfl ?_
                    refine l_gfr rfl rfl rfl rfl rfl (hH.r 891 2 1 rfl) ?_
                    refine l_gfr rfl rfl rfl rfl rfl (hH.r 1 13 14 rfl) ?_
                    refine l_iload rfl rfl ?_
                    refine l_iaload (n := 6) rfl rfl (by omega) (by omega) (by unfold rg; omega) ?_
                    have w143 : 0 ≤ (Xi S 14 (((Xi S 18 ((z138).toNat))).toNat)) ∧ (Xi S 14 (((Xi S 18 ((z138).toNat))).toNat)) ≤ 15 := hH.c _ _
                    refine l_callV rfl rfl rfl (t_re_isObjectList hH 0 v6 (Xi S 14 (((Xi S 18 ((z138).toNat))).toNat)) ⟨by omega, by omega⟩ ⟨by omega, by omega⟩ ⟨by omega, by omega⟩ (by first | assumption | exact (LEX_FR hF rfl rfl (by assumption : LEX S))) _) ?_
                    rintro _ _ ⟨rfl, z144, rfl, w144⟩
                    show Rl _ _ _ _ _ [iv z144] _ _
                    refine l_if_eq rfl rfl (by unfold rg; omega) (fun w145 => ?_) (fun w146 => ?_)
                    · exact Rl_weak (C173 (v1) (1) (v3) (v4) (v5) (v6) (by omega) (by omega) (by omega) (by omega) (by omega) (by omega) (by omega) (by omega) (by omega) (by omega) (by omega)) (And.intro rfl (And.intro rfl (And.intro rfl (And.intro rfl (And.intro rfl (And.intro rfl (And.intro rfl (True.intro))))))))
                    · refine l_aload_n rfl rfl ?_
                      refine l_iload rfl rfl ?_
                      refine l_iconst rfl ?_
                      refine l_iadd rfl ?_
                      refine l_iload_n rfl rfl ?_
                      refine l_aload_n rfl rfl ?_
                      refine l_gfr rfl rfl rfl rfl rfl (hH.r 891 2 1 rfl) ?_
                      refine l_gfr rfl rfl rfl rfl rfl (hH.r 1 14 15 rfl) ?_
                      refine l_iload rfl rfl ?_
                      refine l_iaload (n := 6) rfl rfl (by omega) (by omega) (by unfold rg; omega) ?_
                      have w147 : 0 ≤ (Xi S 15 (((Xi S 18 ((z138).toNat))).toNat)) ∧ (Xi S 15 (((Xi S 18 ((z138).toNat))).toNat)) ≤ 15 := hH.c _ _
                      refine l_callV rfl rfl rfl (t_re_isObjectList hH (v6 + 1) v1 (Xi S 15 (((Xi S 18 ((z138).toNat))).toNat)) ⟨by omega, by omega⟩ ⟨by omega, by omega⟩ ⟨by omega, by omega⟩ (by first | assumption | exact (LEX_FR hF rfl rfl (by assumption : LEX S))) _) ?_
                      rintro _ _ ⟨rfl, z148, rfl, w148⟩
                      show Rl _ _ _ _ _ [iv z148] _ _
                      refine l_if_eq rfl rfl (by unfold rg; omega) (fun w149 => ?_) (fun w150 => ?_)
                      · exact Rl_weak (C173 (v1) (1) (v3) (v4) (v5) (v6) (by omega) (by omega) (by omega) (by omega) (by omega) (by omega) (by omega) (by omega) (by omega) (by omega) (by omega)) (And.intro rfl (And.intro rfl (And.intro rfl (And.intro rfl (And.intro rfl (And.intro rfl (And.intro rfl (True.intro))))))))
                      · refine l_iload rfl rfl ?_
                        refine l_istore rfl rfl rfl ?_
                        refine l_iload rfl rfl ?_
                        refine l_istore rfl rfl rfl ?_
                        refine l_iinc rfl rfl rfl rfl ?_
                        exact Rl_weak (C173 (v1) (1) ((v3 + 1)) (v6) ((Xi S 18 ((z138).toNat))) (v6) (by omega) (by omega) (by omega) (by omega) (by omega) (by omega) (by omega) (by omega) (by omega) (by omega) (by omega)) (And.intro rfl (And.intro rfl (And.intro rfl (And.intro rfl (And.intro rfl (And.intro rfl (And.intro rfl (True.intro))))))))
                  · refine l_goto rfl rfl ?_
                    exact Rl_weak (C173 (v1) (1) (v3) (v4) (v5) (v6) (by omega) (by omega) (by omega) (by omega) (by omega) (by omega) (by omega) (by omega) (by omega) (by omega) (by omega)) (And.intro rfl (And.intro rfl (And.intro rfl (And.intro rfl (And.intro rfl (And.intro rfl (And.intro rfl (True.intro))))))))
  refine l_aload_n rfl rfl ?_
  refine l_gfr rfl rfl rfl rfl rfl (hH.r 891 0 876 rfl) ?_
  have w151 : 0 ≤ Xi S 876 7 ∧ Xi S 876 7 ≤ 5125 := hH.c _ _
  refine l_callV rfl rfl rfl (t_to_lastRow hH _) ?_
  rintro _ _ ⟨rfl, z153, rfl, w153, w152⟩
  show Rl _ _ _ _ _ [iv z153] _ _
  refine l_istore_n rfl rfl rfl ?_
  refine l_iconst rfl ?_
  refine l_istore_n rfl rfl rfl ?_
  refine l_iconst rfl ?_
  refine l_istore_n rfl rfl rfl ?_
  refine l_iconst rfl ?_
  refine l_istore rfl rfl rfl ?_
  refine l_iconst rfl ?_
  refine l_istore rfl rfl rfl ?_
  refine l_iconst rfl ?_
  refine l_istore rfl rfl rfl ?_
  exact Rl_weak (C21 _ (z153) (0) (0) ((-1)) ((-1)) (0) (by omega) (by omega) (by omega) (by omega) (by omega) (by omega) (by omega) (by omega) (by omega) rfl) (And.intro rfl (And.intro rfl (And.intro rfl (And.intro rfl (And.intro rfl (And.intro rfl (And.intro rfl (True.intro))))))))

