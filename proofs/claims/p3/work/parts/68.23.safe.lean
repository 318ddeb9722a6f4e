/-! SAFETY of methods: printed by wip/safe (vc.py, decl.py) -/
def md_re_tellObjects : List rec := [(1, 2, 3, 4), (2, 3, 0, 100000), (3, 4, 0, 100000), (4, 5, 0, 100000), (5, 6, 0, 100000), (21, 22, 0, 100000), (22, 23, 0, 100000), (23, 24, 0, 100000), (25, 65, 0, 100000), (66, 106, 0, 100000), (107, 147, 0, 100000), (148, 188, 0, 100000), (876, 877, 8, 9), (876, 877, 9, 10), (891, 892, 9, 10), (891, 892, 10, 11), (891, 892, 11, 12), (891, 892, 12, 13), (892, 893, 0, 100000), (893, 894, 0, 100000), (895, 896, 8, 9), (895, 896, 9, 10), (895, 896, 12, 13), (895, 896, 13, 14), (895, 896, 14, 15), (896, 897, 0, 100000), (897, 898, 0, 100000), (898, 899, 0, 100000)]
abbrev Q_re_tellObjects (S : sS) : pst := fun r S1 => HI S1 ∧ FR md_re_tellObjects S S1 ∧ (∃ z : Int, r = some (iv z) ∧ (0 ≤ z ∧ z ≤ 1) ∧ (z = 1 → WI S1) ∧ (z = 0 → Xi S1 876 8 ≠ 0))
set_option maxRecDepth 100000 in
theorem t_re_tellObjects {S : sS} (hH : HI S) (hW : WI S) (hn0 : Xi S 891 9 = 0) (hw0 : Xi S 891 11 = 0) (d : Nat) : Mt lay0 (d + 6) m_re_tellObjects [.ref 891] S (Q_re_tellObjects S) := by
  refine Mt_R rfl rfl ?_
  have hF : FR md_re_tellObjects S S := FR.rf
  have w1 : -1 ≤ Xi S 890 3 ∧ Xi S 890 3 ≤ 5124 := hH.c _ _
  have w2 : 0 ≤ Xi S 891 11 ∧ Xi S 891 11 ≤ 5 := hH.c _ _
  have w3 : 0 ≤ Xi S 891 9 ∧ Xi S 891 9 ≤ 24 := hH.c _ _
  have hL := hW.1
  have hX := hW.2.1
  have h890 : -1 ≤ Xi S 890 3 ∧ Xi S 890 3 ≤ 5124 := hH.c _ _
  have C68 : ∀  (T1 : sS) (_ : HI T1) (_ : FR md_re_tellObjects S T1) (v2 : Int) (v3 : Int), (0 ≤ v2 ∧ v2 ≤ 1) → (0 ≤ v3 ∧ v3 ≤ 5126) → (WI T1) → (NWO T1 (Xi S 890 3)) → (v2 = 1 → MAD T1) → (Xi T1 891 11 = 0) → Rl lay0 (d + 5) m_re_tellObjects 68 [(0, .ref 891), (2, iv v2), (3, iv v3)] [] T1 (Q_re_tellObjects S) := by
    intro T1 hHT1 hFT1 v2 v3 w4 w5 hW68 hN68 hM68 w6
    have w7 : Xi T1 876 7 = Xi S 876 7 := hFT1.x _ _ rfl
    have w8 : Xi T1 890 3 = Xi S 890 3 := hFT1.x _ _ rfl
    have w9 : 0 ≤ Xi T1 891 11 ∧ Xi T1 891 11 ≤ 5 := hHT1.c _ _
    refine l_aload_n rfl rfl ?_
    refine l_gfr rfl rfl rfl rfl rfl (hHT1.r 891 0 876 rfl) ?_
    refine l_iload_n rfl rfl ?_
    have w10 : 0 ≤ Xi T1 876 7 ∧ Xi T1 876 7 ≤ 5125 := hHT1.c _ _
    have w11 : -1 ≤ Xi T1 890 3 ∧ Xi T1 890 3 ≤ 5124 := hHT1.c _ _
    have w12 : 0 ≤ Xi T1 891 11 ∧ Xi T1 891 11 ≤ 5 := hHT1.c _ _
    have w13 : -1 ≤ Xi T1 891 12 ∧ Xi T1 891 12 ≤ 23 := hHT1.c _ _
    refine l_callV rfl rfl rfl (t_to_typeAt hHT1 v3 ⟨by omega, by omega⟩ _) ?_
    rintro _ _ ⟨rfl, z17, rfl, w17, w14, w15, w16⟩
    clear w15 w16
    show Rl _ _ _ _ _ [iv z17] _ _
    refine l_bipush rfl rfl ?_
    refine l_icmp_eq rfl rfl (by unfold rg; omega) (by unfold rg; omega) (fun w18 => ?_) (fun w19 => ?_)
    · refine l_aload_n rfl rfl ?_
      refine l_iload_n rfl rfl ?_
      have w20 : -1 ≤ Xi T1 890 3 ∧ Xi T1 890 3 ≤ 5124 := hHT1.c _ _
      have w21 : 0 ≤ Xi T1 891 11 ∧ Xi T1 891 11 ≤ 5 := hHT1.c _ _
      have w22 : -1 ≤ Xi T1 891 12 ∧ Xi T1 891 12 ≤ 23 := hHT1.c _ _
      refine l_callV rfl rfl rfl (t_re_doObjects hHT1 v2 ⟨by omega, by omega⟩ (by first | assumption | exact (by assumption : WI T1)) (by rw [show Xi T1 890 3 = Xi S 890 3 by omega]; first | exact hN83 | exact hN68) (by first | exact hM83 | exact hM68) (by first | assumption | omega) _) ?_
      rintro _ T2 ⟨hHT2, w26, z25, rfl, w25, w23, w24⟩
      have hFT2 : FR md_re_tellObjects S T2 := FR.tr hFT1 w26 rfl
      show Rl _ _ _ _ _ [iv z25] _ _
      refine l_if_eq rfl rfl (by unfold rg; omega) (fun w27 => ?_) (fun w28 => ?_)
      · refine l_iconst rfl ?_
        refine l_ireturn rfl rfl ?_
        have w29 : 0 ≤ Xi T2 876 8 ∧ Xi T2 876 8 ≤ 9 := hHT2.c _ _
        have w30 : Xi T2 890 3 = Xi T1 890 3 := (show Xi T2 890 3 = Xi T1 890 3 from w26.x _ _ rfl)
        have w31 : -1 ≤ Xi T1 890 3 ∧ Xi T1 890 3 ≤ 5124 := hHT1.c _ _
        have w32 : Xi T2 891 11 = Xi T1 891 11 := (show Xi T2 891 11 = Xi T1 891 11 from w26.x _ _ rfl)
        have w33 : 0 ≤ Xi T1 891 11 ∧ Xi T1 891 11 ≤ 5 := hHT1.c _ _
        have w34 : Xi T2 891 12 = Xi T1 891 12 := (show Xi T2 891 12 = Xi T1 891 12 from w26.x _ _ rfl)
        have w35 : -1 ≤ Xi T1 891 12 ∧ Xi T1 891 12 ≤ 23 := hHT1.c _ _
        exact ⟨hHT2, hFT2, _, rfl, ⟨by omega, by omega⟩, (by first | (intro hz; omega) | (intro _; assumption) | (intro hz; apply_assumption; omega) | (intro _; exact (by assumption : WI T2))), (by omega)⟩
      · refine l_iconst rfl ?_
        refine l_goto rfl rfl ?_
        refine l_ireturn rfl rfl ?_
        have w36 : 0 ≤ Xi T2 876 8 ∧ Xi T2 876 8 ≤ 9 := hHT2.c _ _
        have w37 : Xi T2 890 3 = Xi T1 890 3 := (show Xi T2 890 3 = Xi T1 890 3 from w26.x _ _ rfl)
        have w38 : -1 ≤ Xi T1 890 3 ∧ Xi T1 890 3 ≤ 5124 := hHT1.c _ _
        have w39 : Xi T2 891 11 = Xi T1 891 11 := (show Xi T2 891 11 = Xi T1 891 11 from w26.x _ _ rfl)
        have w40 : 0 ≤ Xi T1 891 11 ∧ Xi T1 891 11 ≤ 5 := hHT1.c _ _
        have w41 : Xi T2 891 12 = Xi T1 891 12 := (show Xi T2 891 12 = Xi T1 891 12 from w26.x _ _ rfl)
        have w42 : -1 ≤ Xi T1 891 12 ∧ Xi T1 891 12 ≤ 23 := hHT1.c _ _
        exact ⟨hHT2, hFT2, _, rfl, ⟨by omega, by omega⟩, (by first | (intro hz; omega) | (intro _; assumption) | (intro hz; apply_assumption; omega) | (intro _; exact (by assumption : WI T2))), (by omega)⟩
    · refine l_aload_n rfl rfl ?_
      refine l_iload_n rfl rfl ?_
      have w43 : -1 ≤ Xi T1 890 3 ∧ Xi T1 890 3 ≤ 5124 := hHT1.c _ _
      have w44 : 0 ≤ Xi T1 891 11 ∧ Xi T1 891 11 ≤ 5 := hHT1.c _ _
      have w45 : -1 ≤ Xi T1 891 12 ∧ Xi T1 891 12 ≤ 23 := hHT1.c _ _
      refine l_callV rfl rfl rfl (t_re_takePlace hHT1 v3 ⟨by omega, by omega⟩ (by first | assumption | exact (by first | assumption | exact (by assumption : WI T1).1 : LEX T1)) _) ?_
      rintro _ T3 ⟨hHT3, w49, z48, rfl, w48, w46, w47⟩
      have hFT3 : FR md_re_tellObjects S T3 := FR.tr hFT1 w49 rfl
      show Rl _ _ _ _ _ [iv z48] _ _
      have hN83 : NWO T3 (Xi S 890 3) := NWO_FR (by assumption : FR md_re_takePlace T1 T3) rfl hN68
      have hM83 : v2 = 1 → MAD T3 := fun q => MAD_FR (by assumption : FR md_re_takePlace T1 T3) rfl (hM68 q)
      refine l_if_eq rfl rfl (by unfold rg; omega) (fun w50 => ?_) (fun w51 => ?_)
      · refine l_iconst rfl ?_
        refine l_ireturn rfl rfl ?_
        have w52 : 0 ≤ Xi T3 876 8 ∧ Xi T3 876 8 ≤ 9 := hHT3.c _ _
        have w53 : Xi T3 890 3 = Xi T1 890 3 := (show Xi T3 890 3 = Xi T1 890 3 from w49.x _ _ rfl)
        have w54 : -1 ≤ Xi T1 890 3 ∧ Xi T1 890 3 ≤ 5124 := hHT1.c _ _
        have w55 : 0 ≤ Xi T3 891 11 ∧ Xi T3 891 11 ≤ 5 := hHT3.c _ _
        have w56 : -1 ≤ Xi T3 891 12 ∧ Xi T3 891 12 ≤ 23 := hHT3.c _ _
        exact ⟨hHT3, hFT3, _, rfl, ⟨by omega, by omega⟩, (by first | (intro hz; omega) | (intro _; assumption) | (intro hz; apply_assumption; omega) | (intro _; exact (WI_FR hHT1 w49 rfl rfl rfl rfl rfl rfl rfl rfl rfl (by assumption : WI T1)))), (by omega)⟩
      · refine l_aload_n rfl rfl ?_
        refine l_iload_n rfl rfl ?_
        have w57 : Xi T3 890 3 = Xi T1 890 3 := (show Xi T3 890 3 = Xi T1 890 3 from w49.x _ _ rfl)
        have w58 : -1 ≤ Xi T1 890 3 ∧ Xi T1 890 3 ≤ 5124 := hHT1.c _ _
        have w59 : 0 ≤ Xi T3 891 11 ∧ Xi T3 891 11 ≤ 5 := hHT3.c _ _
        have w60 : -1 ≤ Xi T3 891 12 ∧ Xi T3 891 12 ≤ 23 := hHT3.c _ _
        refine l_callV rfl rfl rfl (t_re_doObjects hHT3 v2 ⟨by omega, by omega⟩ (by first | assumption | exact (WI_FR hHT1 w49 rfl rfl rfl rfl rfl rfl rfl rfl rfl (by assumption : WI T1))) (by rw [show Xi T3 890 3 = Xi S 890 3 by omega]; first | exact hN83 | exact hN68) (by first | exact hM83 | exact hM68) (by first | assumption | omega) _) ?_
        rintro _ T4 ⟨hHT4, w64, z63, rfl, w63, w61, w62⟩
        have hFT4 : FR md_re_tellObjects S T4 := FR.tr hFT3 w64 rfl
        show Rl _ _ _ _ _ [iv z63] _ _
        refine l_if_eq rfl rfl (by unfold rg; omega) (fun w65 => ?_) (fun w66 => ?_)
        · refine l_iconst rfl ?_
          refine l_ireturn rfl rfl ?_
          have w67 : 0 ≤ Xi T4 876 8 ∧ Xi T4 876 8 ≤ 9 := hHT4.c _ _
          have w68 : Xi T4 890 3 = Xi T1 890 3 := (show Xi T4 890 3 = Xi T3 890 3 from w64.x _ _ rfl).trans ((show Xi T3 890 3 = Xi T1 890 3 from w49.x _ _ rfl))
          have w69 : -1 ≤ Xi T1 890 3 ∧ Xi T1 890 3 ≤ 5124 := hHT1.c _ _
          have w70 : Xi T4 891 11 = Xi T3 891 11 := (show Xi T4 891 11 = Xi T3 891 11 from w64.x _ _ rfl)
          have w71 : 0 ≤ Xi T3 891 11 ∧ Xi T3 891 11 ≤ 5 := hHT3.c _ _
          have w72 : Xi T4 891 12 = Xi T3 891 12 := (show Xi T4 891 12 = Xi T3 891 12 from w64.x _ _ rfl)
          have w73 : -1 ≤ Xi T3 891 12 ∧ Xi T3 891 12 ≤ 23 := hHT3.c _ _
          exact ⟨hHT4, hFT4, _, rfl, ⟨by omega, by omega⟩, (by first | (intro hz; omega) | (intro _; assumption) | (intro hz; apply_assumption; omega) | (intro _; exact (by assumption : WI T4))), (by omega)⟩
        · refine l_iconst rfl ?_
          refine l_goto rfl rfl ?_
          refine l_ireturn rfl rfl ?_
          have w74 : 0 ≤ Xi T4 876 8 ∧ Xi T4 876 8 ≤ 9 := hHT4.c _ _
          have w75 : Xi T4 890 3 = Xi T1 890 3 := (show Xi T4 890 3 = Xi T3 890 3 from w64.x _ _ rfl).trans ((show Xi T3 890 3 = Xi T1 890 3 from w49.x _ _ rfl))
          have w76 : -1 ≤ Xi T1 890 3 ∧ Xi T1 890 3 ≤ 5124 := hHT1.c _ _
          have w77 : Xi T4 891 11 = Xi T3 891 11 := (show Xi T4 891 11 = Xi T3 891 11 from w64.x _ _ rfl)
          have w78 : 0 ≤ Xi T3 891 11 ∧ Xi T3 891 11 ≤ 5 := hHT3.c _ _
          have w79 : Xi T4 891 12 = Xi T3 891 12 := (show Xi T4 891 12 = Xi T3 891 12 from w64.x _ _ rfl)
          have w80 : -1 ≤ Xi T3 891 12 ∧ Xi T3 891 12 ≤ 23 := hHT3.c _ _
          exact ⟨hHT4, hFT4, _, rfl, ⟨by omega, by omega⟩, (by first | (intro hz; omega) | (intro _; assumption) | (intro hz; apply_assumption; omega) | (intro _; exact (by assumption : WI T4))), (by omega)⟩
  refine l_aload_n rfl rfl ?_
  refine l_gfr rfl rfl rfl rfl rfl (hH.r 891 1 890 rfl) ?_
  refine l_gfi rfl rfl rfl rfl rfl ?_
  refine l_istore_n rfl rfl rfl ?_
  refine l_aload_n rfl rfl ?_
  refine l_gfr rfl rfl rfl rfl rfl (hH.r 891 1 890 rfl) ?_
  refine l_gfi rfl rfl rfl rfl rfl ?_
  have w81 : 0 ≤ (Xi S 890 2) ∧ (Xi S 890 2) ≤ 20 := hH.c _ _
  refine l_bipush rfl rfl ?_
  refine l_icmp_ne rfl rfl (by unfold rg; omega) (by unfold rg; omega) (fun w82 => ?_) (fun w83 => ?_)
  · refine l_iconst rfl ?_
    refine l_istore_n rfl rfl rfl ?_
    refine l_aload_n rfl rfl ?_
    have w84 : -1 ≤ Xi S 890 3 ∧ Xi S 890 3 ≤ 5124 := hH.c _ _
    have w85 : 0 ≤ Xi S 891 11 ∧ Xi S 891 11 ≤ 5 := hH.c _ _
    have w86 : -1 ≤ Xi S 891 12 ∧ Xi S 891 12 ≤ 23 := hH.c _ _
    have w87 : 0 ≤ Xi S 891 9 ∧ Xi S 891 9 ≤ 24 := hH.c _ _
    refine l_callV rfl rfl rfl (t_re_takeObjects hH (by first | assumption | exact (by first | assumption | exact (by assumption : WI S).1 : LEX S)) (by first | assumption | omega) _) ?_
    rintro _ T5 ⟨hHT5, w91, z90, rfl, w90, w88, w89⟩
    have hFT5 : FR md_re_tellObjects S T5 := FR.tr hF w91 rfl
    show Rl _ _ _ _ _ [iv z90] _ _
    have hN27 : z90 = 1 → NWO T5 (Xi S 890 3) := by assumption
    refine l_if_ne rfl rfl (by unfold rg; omega) (fun w92 => ?_) (fun w93 => ?_)
    · refine l_iload_n rfl rfl ?_
      refine l_iconst rfl ?_
      refine l_iadd rfl ?_
      refine l_istore_n rfl rfl rfl ?_
      refine l_iload_n rfl rfl ?_
      refine l_if_eq rfl rfl (by unfold rg; omega) (fun w94 => ?_) (fun w95 => absurd w95 (by omega))
      · have w96 : Xi T5 890 3 = Xi S 890 3 := (show Xi T5 890 3 = Xi S 890 3 from w91.x _ _ rfl)
        have w97 : -1 ≤ Xi S 890 3 ∧ Xi S 890 3 ≤ 5124 := hH.c _ _
        have w98 : Xi T5 891 11 = Xi S 891 11 := (show Xi T5 891 11 = Xi S 891 11 from w91.x _ _ rfl)
        have w99 : 0 ≤ Xi S 891 11 ∧ Xi S 891 11 ≤ 5 := hH.c _ _
        have w100 : Xi T5 891 12 = Xi S 891 12 := (show Xi T5 891 12 = Xi S 891 12 from w91.x _ _ rfl)
        have w101 : -1 ≤ Xi S 891 12 ∧ Xi S 891 12 ≤ 23 := hH.c _ _
        exact Rl_weak (C68 T5 hHT5 hFT5 (0) (((Xi S 890 3) + 1)) (by omega) (by omega) (by first | assumption | exact (WI_FR hH w91 rfl rfl rfl rfl rfl rfl rfl rfl rfl (by assumption : WI S))) (by first | exact hN60 | exact hN27 (by omega)) (by first | (intro q; omega) | (intro _; apply_assumption; omega)) (by omega)) (And.intro rfl (And.intro rfl (And.intro rfl (True.intro))))
    · refine l_iconst rfl ?_
      refine l_ireturn rfl rfl ?_
      have w102 : 0 ≤ Xi T5 876 8 ∧ Xi T5 876 8 ≤ 9 := hHT5.c _ _
      have w103 : Xi T5 890 3 = Xi S 890 3 := (show Xi T5 890 3 = Xi S 890 3 from w91.x _ _ rfl)
      have w104 : -1 ≤ Xi S 890 3 ∧ Xi S 890 3 ≤ 5124 := hH.c _ _
      have w105 : Xi T5 891 11 = Xi S 891 11 := (show Xi T5 891 11 = Xi S 891 11 from w91.x _ _ rfl)
      have w106 : 0 ≤ Xi S 891 11 ∧ Xi S 891 11 ≤ 5 := hH.c _ _
      have w107 : Xi T5 891 12 = Xi S 891 12 := (show Xi T5 891 12 = Xi S 891 12 from w91.x _ _ rfl)
      have w108 : -1 ≤ Xi S 891 12 ∧ Xi S 891 12 ≤ 23 := hH.c _ _
      exact ⟨hHT5, hFT5, _, rfl, ⟨by omega, by omega⟩, (by first | (intro hz; omega) | (intro _; assumption) | (intro hz; apply_assumption; omega) | (intro _; exact (WI_FR hH w91 rfl rfl rfl rfl rfl rfl rfl rfl rfl (by assumption : WI S)))), (by omega)⟩
  · refine l_iconst rfl ?_
    refine l_goto rfl rfl ?_
    refine l_istore_n rfl rfl rfl ?_
    refine l_aload_n rfl rfl ?_
    have w109 : -1 ≤ Xi S 890 3 ∧ Xi S 890 3 ≤ 5124 := hH.c _ _
    have w110 : 0 ≤ Xi S 891 11 ∧ Xi S 891 11 ≤ 5 := hH.c _ _
    have w111 : -1 ≤ Xi S 891 12 ∧ Xi S 891 12 ≤ 23 := hH.c _ _
    have w112 : 0 ≤ Xi S 891 9 ∧ Xi S 891 9 ≤ 24 := hH.c _ _
    refine l_callV rfl rfl rfl (t_re_takeObjects hH (by first | assumption | exact (by first | assumption | exact (by assumption : WI S).1 : LEX S)) (by first | assumption | omega) _) ?_
    rintro _ T6 ⟨hHT6, w116, z115, rfl, w115, w113, w114⟩
    have hFT6 : FR md_re_tellObjects S T6 := FR.tr hF w116 rfl
    show Rl _ _ _ _ _ [iv z115] _ _
    have hN27 : z115 = 1 → NWO T6 (Xi S 890 3) := by assumption
    refine l_if_ne rfl rfl (by unfold rg; omega) (fun w117 => ?_) (fun w118 => ?_)
    · refine l_iload_n rfl rfl ?_
      refine l_iconst rfl ?_
      refine l_iadd rfl ?_
      refine l_istore_n rfl rfl rfl ?_
      refine l_iload_n rfl rfl ?_
      refine l_if_eq rfl rfl (by unfold rg; omega) (fun w119 => absurd w119 (by omega)) (fun w120 => ?_)
      · refine l_aload_n rfl rfl ?_
        refine l_gfr rfl rfl rfl rfl rfl (hHT6.r 891 0 876 rfl) ?_
        refine l_iload_n rfl rfl ?_
        refine l_iconst rfl ?_
        refine l_iadd rfl ?_
        have w121 : Xi T6 876 7 = Xi S 876 7 := (show Xi T6 876 7 = Xi S 876 7 from w116.x _ _ rfl)
        have w122 : 0 ≤ Xi S 876 7 ∧ Xi S 876 7 ≤ 5125 := hH.c _ _
        have w123 : Xi T6 890 3 = Xi S 890 3 := (show Xi T6 890 3 = Xi S 890 3 from w116.x _ _ rfl)
        have w124 : -1 ≤ Xi S 890 3 ∧ Xi S 890 3 ≤ 5124 := hH.c _ _
        have w125 : Xi T6 891 11 = Xi S 891 11 := (show Xi T6 891 11 = Xi S 891 11 from w116.x _ _ rfl)
        have w126 : 0 ≤ Xi S 891 11 ∧ Xi S 891 11 ≤ 5 := hH.c _ _
        have w127 : Xi T6 891 12 = Xi S 891 12 := (show Xi T6 891 12 = Xi S 891 12 from w116.x _ _ rfl)
        have w128 : -1 ≤ Xi S 891 12 ∧ Xi S 891 12 ≤ 23 := hH.c _ _
        refine l_callV rfl rfl rfl (t_to_runEnd hHT6 ((Xi S 890 3) + 2) ⟨by omega, by omega⟩ _) ?_
        rintro _ _ ⟨rfl, z136, rfl, w136, w129, w130, w131, w132, w133, w134, w135⟩
        clear w131 w132 w133 w134
        show Rl _ _ _ _ _ [iv z136] _ _
        refine l_istore_n rfl rfl rfl ?_
        refine l_aload_n rfl rfl ?_
        refine l_iload_n rfl rfl ?_
        refine l_iconst rfl ?_
        refine l_iadd rfl ?_
        refine l_iload_n rfl rfl ?_
        refine l_iconst rfl ?_
        have w137 : Xi T6 890 3 = Xi S 890 3 := (show Xi T6 890 3 = Xi S 890 3 from w116.x _ _ rfl)
        have w138 : -1 ≤ Xi S 890 3 ∧ Xi S 890 3 ≤ 5124 := hH.c _ _
        have w139 : Xi T6 891 11 = Xi S 891 11 := (show Xi T6 891 11 = Xi S 891 11 from w116.x _ _ rfl)
        have w140 : 0 ≤ Xi S 891 11 ∧ Xi S 891 11 ≤ 5 := hH.c _ _
        have w141 : Xi T6 891 12 = Xi S 891 12 := (show Xi T6 891 12 = Xi S 891 12 from w116.x _ _ rfl)
        have w142 : -1 ≤ Xi S 891 12 ∧ Xi S 891 12 ≤ 23 := hH.c _ _
        refine l_callV rfl rfl rfl (t_re_takeDescription hHT6 ((Xi S 890 3) + 2) z136 0 ⟨by omega, by omega⟩ ⟨by omega, by omega⟩ ⟨by omega, by omega⟩ (by first | assumption | exact (LEX_FR w116 rfl rfl (by first | assumption | exact (by assumption : WI S).1 : LEX S))) _) ?_
        rintro _ T7 ⟨hHT7, w146, z145, rfl, w145, w143, w144⟩
        have hFT7 : FR md_re_tellObjects S T7 := FR.tr hFT6 w146 rfl
        show Rl _ _ _ _ _ [iv z145] _ _
        have hN60 : NWO T7 (Xi S 890 3) := NWO_FR (by assumption : FR md_re_takeDescription T6 T7) rfl (hN27 (by omega))
        refine l_if_ne rfl rfl (by unfold rg; omega) (fun w147 => ?_) (fun w148 => ?_)
        · have w149 : Xi T7 890 3 = Xi S 890 3 := (show Xi T7 890 3 = Xi T6 890 3 from w146.x _ _ rfl).trans ((show Xi T6 890 3 = Xi S 890 3 from w116.x _ _ rfl))
          have w150 : -1 ≤ Xi S 890 3 ∧ Xi S 890 3 ≤ 5124 := hH.c _ _
          have w151 : Xi T7 891 11 = Xi S 891 11 := (show Xi T7 891 11 = Xi T6 891 11 from w146.x _ _ rfl).trans ((show Xi T6 891 11 = Xi S 891 11 from w116.x _ _ rfl))
          have w152 : 0 ≤ Xi S 891 11 ∧ Xi S 891 11 ≤ 5 := hH.c _ _
          have w153 : Xi T7 891 12 = Xi S 891 12 := (show Xi T7 891 12 = Xi T6 891 12 from w146.x _ _ rfl).trans ((show Xi T6 891 12 = Xi S 891 12 from w116.x _ _ rfl))
          have w154 : -1 ≤ Xi S 891 12 ∧ Xi S 891 12 ≤ 23 := hH.c _ _
          exact Rl_weak (C68 T7 hHT7 hFT7 (1) (z136) (by omega) (by omega) (by first | assumption | exact (WI_FR hHT6 w146 rfl rfl rfl rfl rfl rfl rfl rfl rfl (WI_FR hH w116 rfl rfl rfl rfl rfl rfl rfl rfl rfl (by assumption : WI S)))) (by first | exact hN60 | exact hN27 (by omega)) (by first | (intro q; omega) | (intro _; apply_assumption; omega)) (by omega)) (And.intro rfl (And.intro rfl (And.intro rfl (True.intro))))
        · refine l_iconst rfl ?_
          refine l_ireturn rfl rfl ?_
          have w155 : 0 ≤ Xi T7 876 8 ∧ Xi T7 876 8 ≤ 9 := hHT7.c _ _
          have w156 : Xi T7 890 3 = Xi S 890 3 := (show Xi T7 890 3 = Xi T6 890 3 from w146.x _ _ rfl).trans ((show Xi T6 890 3 = Xi S 890 3 from w116.x _ _ rfl))
          have w157 : -1 ≤ Xi S 890 3 ∧ Xi S 890 3 ≤ 5124 := hH.c _ _
          have w158 : Xi T7 891 11 = Xi S 891 11 := (show Xi T7 891 11 = Xi T6 891 11 from w146.x _ _ rfl).trans ((show Xi T6 891 11 = Xi S 891 11 from w116.x _ _ rfl))
          have w159 : 0 ≤ Xi S 891 11 ∧ Xi S 891 11 ≤ 5 := hH.c _ _
          have w160 : Xi T7 891 12 = Xi S 891 12 := (show Xi T7 891 12 = Xi T6 891 12 from w146.x _ _ rfl).trans ((show Xi T6 891 12 = Xi S 891 12 from w116.x _ _ rfl))
          have w161 : -1 ≤ Xi S 891 12 ∧ Xi S 891 12 ≤ 23 := hH.c _ _
          exact ⟨hHT7, hFT7, _, rfl, ⟨by omega, by omega⟩, (by first | (intro hz; omega) | (intro _; assumption) | (intro hz; apply_assumption; omega) | (intro _; exact (WI_FR hHT6 w146 rfl rfl rfl rfl rfl rfl rfl rfl rfl (WI_FR hH w116 rfl rfl rfl rfl rfl rfl rfl rfl rfl (by assumption : WI S))))), (by omega)⟩
    · refine l_iconst rfl ?_
      refine l_ireturn rfl rfl ?_
      have w162 : 0 ≤ Xi T6 876 8 ∧ Xi T6 876 8 ≤ 9 := hHT6.c _ _
      have w163 : Xi T6 890 3 = Xi S 890 3 := (show Xi T6 890 3 = Xi S 890 3 from w116.x _ _ rfl)
      have w164 : -1 ≤ Xi S 890 3 ∧ Xi S 890 3 ≤ 5124 := hH.c _ _
      have w165 : Xi T6 891 11 = Xi S 891 11 := (show Xi T6 891 11 = Xi S 891 11 from w116.x _ _ rfl)
      have w166 : 0 ≤ Xi S 891 11 ∧ Xi S 891 11 ≤ 5 := hH.c _ _
      have w167 : Xi T6 891 12 = Xi S 891 12 := (show Xi T6 891 12 = Xi S 891 12 from w116.x _ _ rfl)
      have w168 : -1 ≤ Xi S 891 12 ∧ Xi S 891 12 ≤ 23 := hH.c _ _
      exact ⟨hHT6, hFT6, _, rfl, ⟨by omega, by omega⟩, (by first | (intro hz; omega) | (intro _; assumption) | (intro hz; apply_assumption; omega) | (intro _; exact (WI_FR hH w116 rfl rfl rfl rfl rfl rfl rfl rfl rfl (by assumption : WI S)))), (by omega)⟩
def md_re_tellPlain : List rec := [(1, 2, 3, 4), (2, 3, 0, 100000), (3, 4, 0, 100000), (4, 5, 0, 100000), (5, 6, 0, 100000), (21, 22, 0, 100000), (22, 23, 0, 100000), (23, 24, 0, 100000), (25, 65, 0, 100000), (66, 106, 0, 100000), (107, 147, 0, 100000), (148, 188, 0, 100000), (876, 877, 8, 9), (876, 877, 9, 10), (891, 892, 9, 10), (891, 892, 10, 11), (892, 893, 0, 100000), (893, 894, 0, 100000), (895, 896, 8, 9), (895, 896, 9, 10), (895, 896, 12, 13), (895, 896, 13, 14), (895, 896, 14, 15), (896, 897, 0, 100000), (897, 898, 0, 100000), (898, 899, 0, 100000)]
abbrev Q_re_tellPlain (S : sS) : pst := fun r S1 => HI S1 ∧ FR md_re_tellPlain S S1 ∧ (∃ z : Int, r = some (iv z) ∧ (0 ≤ z ∧ z ≤ 1) ∧ (z = 1 → WI S1) ∧ (z = 0 → Xi S1 876 8 ≠ 0))
set_option maxRecDepth 100000 in
theorem t_re_tellPlain {S : sS} (hH : HI S) (hW : WI S) (hn0 : Xi S 891 9 = 0) (hw0 : Xi S 891 11 = 0) (d : Nat) : Mt lay0 (d + 6) m_re_tellPlain [.ref 891] S (Q_re_tellPlain S) := by
  refine Mt_R rfl rfl ?_
  have hF : FR md_re_tellPlain S S := FR.rf
  have w1 : 0 ≤ Xi S 891 11 ∧ Xi S 891 11 ≤ 5 := hH.c _ _
  have w2 : 0 ≤ Xi S 891 9 ∧ Xi S 891 9 ≤ 24 := hH.c _ _
  have hL := hW.1
  have hX := hW.2.1
  have h890 : -1 ≤ Xi S 890 3 ∧ Xi S 890 3 ≤ 5124 := hH.c _ _
  have C191 : ∀  (T1 : sS) (_ : HI T1) (_ : FR md_re_tellPlain S T1) (v1 : Int) (v2 : Int) (v3 : Int) (v5 : Int), (0 ≤ v1 ∧ v1 ≤ 1) → (0 ≤ v2 ∧ v2 ≤ 5126) → (0 ≤ v3 ∧ v3 ≤ 5126) → (0 ≤ v5 ∧ v5 ≤ 1) → (WI T1) → (Xi T1 891 11 = 0) → (Xi T1 891 9 = 0) → Rl lay0 (d + 5) m_re_tellPlain 191 [(0, .ref 891), (1, iv v1), (2, iv v2), (3, iv v3), (5, iv v5)] [] T1 (Q_re_tellPlain S) := by
    intro T1 hHT1 hFT1 v1 v2 v3 v5 w3 w4 w5 w6 hW191 w7 w8
    have w9 : Xi T1 876 7 = Xi S 876 7 := hFT1.x _ _ rfl
    have w10 : Xi T1 890 3 = Xi S 890 3 := hFT1.x _ _ rfl
    have w11 : Xi T1 891 11 = Xi S 891 11 := hFT1.x _ _ rfl
    have w12 : Xi T1 891 12 = Xi S 891 12 := hFT1.x _ _ rfl
    have w13 : 0 ≤ Xi T1 891 11 ∧ Xi T1 891 11 ≤ 5 := hHT1.c _ _
    have w14 : 0 ≤ Xi T1 891 9 ∧ Xi T1 891 9 ≤ 24 := hHT1.c _ _
    refine l_aload_n rfl rfl ?_
    have w15 : -1 ≤ Xi T1 890 3 ∧ Xi T1 890 3 ≤ 5124 := hHT1.c _ _
    have w16 : 0 ≤ Xi T1 891 11 ∧ Xi T1 891 11 ≤ 5 := hHT1.c _ _
    have w17 : -1 ≤ Xi T1 891 12 ∧ Xi T1 891 12 ≤ 23 := hHT1.c _ _
    have w18 : 0 ≤ Xi T1 891 9 ∧ Xi T1 891 9 ≤ 24 := hHT1.c _ _
    refine l_callV rfl rfl rfl (t_re_takeOldObjects hHT1 (by first | assumption | exact (by first | assumption | exact (by assumption : WI T1).1 : LEX T1)) _) ?_
    rintro _ T2 ⟨hHT2, w21, z20, rfl, w20, w19⟩
    have hFT2 : FR md_re_tellPlain S T2 := FR.tr hFT1 w21 rfl
    show Rl _ _ _ _ _ [iv z20] _ _
    refine l_if_ne rfl rfl (by unfold rg; omega) (fun w22 => ?_) (fun w23 => ?_)
    · refine l_iload rfl rfl ?_
      refine l_if_eq rfl rfl (by unfold rg; omega) (fun w24 => ?_) (fun w25 => ?_)
      · refine l_aload_n rfl rfl ?_
        refine l_iload_n rfl rfl ?_
        refine l_iload_n rfl rfl ?_
        refine l_iload_n rfl rfl ?_
        have w26 : Xi T2 890 3 = Xi T1 890 3 := (show Xi T2 890 3 = Xi T1 890 3 from w21.x _ _ rfl)
        have w27 : -1 ≤ Xi T1 890 3 ∧ Xi T1 890 3 ≤ 5124 := hHT1.c _ _
        have w28 : Xi T2 891 11 = Xi T1 891 11 := (show Xi T2 891 11 = Xi T1 891 11 from w21.x _ _ rfl)
        have w29 : 0 ≤ Xi T1 891 11 ∧ Xi T1 891 11 ≤ 5 := hHT1.c _ _
        have w30 : Xi T2 891 12 = Xi T1 891 12 := (show Xi T2 891 12 = Xi T1 891 12 from w21.x _ _ rfl)
        have w31 : -1 ≤ Xi T1 891 12 ∧ Xi T1 891 12 ≤ 23 := hHT1.c _ _
        have w32 : Xi T2 891 9 = Xi T1 891 9 := (show Xi T2 891 9 = Xi T1 891 9 from w21.x _ _ rfl)
        have w33 : 0 ≤ Xi T1 891 9 ∧ Xi T1 891 9 ≤ 24 := hHT1.c _ _
        refine l_callV rfl rfl rfl (t_re_adjectiveSuits hHT2 v2 v3 v1 ⟨by omega, by omega⟩ ⟨by omega, by omega⟩ ⟨by omega, by omega⟩ (by first | assumption | exact (LEX_FR w21 rfl rfl (by first | assumption | exact (by assumption : WI T1).1 : LEX T1))) _) ?_
        rintro _ T3 ⟨hHT3, w37, z36, rfl, w36, w34, w35⟩
        have hFT3 : FR md_re_tellPlain S T3 := FR.tr hFT2 w37 rfl
        show Rl _ _ _ _ _ [iv z36] _ _
        have hA1 : z36 = 1 → ASU T2 v2 v3 v1 (Xi T2 890 3) := by assumption
        refine l_if_eq rfl rfl (by unfold rg; omega) (fun w38 => ?_) (fun w39 => ?_)
        · refine l_iconst rfl ?_
          refine l_ireturn rfl rfl ?_
          have w40 : 0 ≤ Xi T3 876 8 ∧ Xi T3 876 8 ≤ 9 := hHT3.c _ _
          have w41 : Xi T3 890 3 = Xi T1 890 3 := (show Xi T3 890 3 = Xi T2 890 3 from w37.x _ _ rfl).trans ((show Xi T2 890 3 = Xi T1 890 3 from w21.x _ _ rfl))
          have w42 : -1 ≤ Xi T1 890 3 ∧ Xi T1 890 3 ≤ 5124 := hHT1.c _ _
          have w43 : Xi T3 891 11 = Xi T1 891 11 := (show Xi T3 891 11 = Xi T2 891 11 from w37.x _ _ rfl).trans ((show Xi T2 891 11 = Xi T1 891 11 from w21.x _ _ rfl))
          have w44 : 0 ≤ Xi T1 891 11 ∧ Xi T1 891 11 ≤ 5 := hHT1.c _ _
          have w45 : Xi T3 891 12 = Xi T1 891 12 := (show Xi T3 891 12 = Xi T2 891 12 from w37.x _ _ rfl).trans ((show Xi T2 891 12 = Xi T1 891 12 from w21.x _ _ rfl))
          have w46 : -1 ≤ Xi T1 891 12 ∧ Xi T1 891 12 ≤ 23 := hHT1.c _ _
          have w47 : Xi T3 891 9 = Xi T1 891 9 := (show Xi T3 891 9 = Xi T2 891 9 from w37.x _ _ rfl).trans ((show Xi T2 891 9 = Xi T1 891 9 from w21.x _ _ rfl))
          have w48 : 0 ≤ Xi T1 891 9 ∧ Xi T1 891 9 ≤ 24 := hHT1.c _ _
          exact ⟨hHT3, hFT3, _, rfl, ⟨by omega, by omega⟩, (by first | (intro hz; omega) | (intro _; assumption) | (intro hz; apply_assumption; omega) | (intro _; exact (WI_FR hHT2 w37 rfl rfl rfl rfl rfl rfl rfl rfl rfl (WI_FR hHT1 w21 rfl rfl rfl rfl rfl rfl rfl rfl rfl (by assumption : WI T1))))), (by omega)⟩
        · refine l_aload_n rfl rfl ?_
          refine l_iload_n rfl rfl ?_
          refine l_iload_n rfl rfl ?_
          refine l_iload_n rfl rfl ?_
          have hWp : WI T3 := (WI_FR hHT2 w37 rfl rfl rfl rfl rfl rfl rfl rfl rfl (WI_FR hHT1 w21 rfl rfl rfl rfl rfl rfl rfl rfl rfl (by assumption : WI T1)))
          have hHp := hHT3
          have w49 : Xi T3 890 3 = Xi T1 890 3 := (show Xi T3 890 3 = Xi T2 890 3 from w37.x _ _ rfl).trans ((show Xi T2 890 3 = Xi T1 890 3 from w21.x _ _ rfl))
          have w50 : -1 ≤ Xi T1 890 3 ∧ Xi T1 890 3 ≤ 5124 := hHT1.c _ _
          have w51 : Xi T3 891 11 = Xi T1 891 11 := (show Xi T3 891 11 = Xi T2 891 11 from w37.x _ _ rfl).trans ((show Xi T2 891 11 = Xi T1 891 11 from w21.x _ _ rfl))
          have w52 : 0 ≤ Xi T1 891 11 ∧ Xi T1 891 11 ≤ 5 := hHT1.c _ _
          have w53 : Xi T3 891 12 = Xi T1 891 12 := (show Xi T3 891 12 = Xi T2 891 12 from w37.x _ _ rfl).trans ((show Xi T2 891 12 = Xi T1 891 12 from w21.x _ _ rfl))
          have w54 : -1 ≤ Xi T1 891 12 ∧ Xi T1 891 12 ≤ 23 := hHT1.c _ _
          have w55 : Xi T3 891 9 = Xi T1 891 9 := (show Xi T3 891 9 = Xi T2 891 9 from w37.x _ _ rfl).trans ((show Xi T2 891 9 = Xi T1 891 9 from w21.x _ _ rfl))
          have w56 : 0 ≤ Xi T1 891 9 ∧ Xi T1 891 9 ≤ 24 := hHT1.c _ _
          refine l_callV rfl rfl rfl (t_re_doAdjective hHT3 v2 v3 v1 ⟨by omega, by omega⟩ ⟨by omega, by omega⟩ ⟨by omega, by omega⟩ (by first | assumption | exact (LEX_FR w37 rfl rfl (LEX_FR w21 rfl rfl (by first | assumption | exact (by assumption : WI T1).1 : LEX T1)))) (by first | assumption | exact (TX_FR w37 rfl (TX_FR w21 rfl (by first | assumption | exact (by assumption : WI T1).2.1 : TX T1)))) (asu_t (by assumption : FR md_re_adjectiveSuits T2 T3) rfl rfl rfl rfl (hA1 (by omega))) _) ?_
          rintro _ T4 ⟨hHT4, w60, z59, rfl, w59, w57, w58⟩
          have hFT4 : FR md_re_tellPlain S T4 := FR.tr hFT3 w60 rfl
          show Rl _ _ _ _ _ [iv z59] _ _
          have hWq : WI T4 := WI_x hHp (by assumption : FR md_re_doAdjective T3 T4) rfl rfl rfl rfl rfl rfl rfl rfl (by assumption) hWp
          refine l_if_eq rfl rfl (by unfold rg; omega) (fun w61 => ?_) (fun w62 => ?_)
          · refine l_iconst rfl ?_
            refine l_ireturn rfl rfl ?_
            have w63 : 0 ≤ Xi T4 876 8 ∧ Xi T4 876 8 ≤ 9 := hHT4.c _ _
            have w64 : Xi T4 890 3 = Xi T1 890 3 := (show Xi T4 890 3 = Xi T3 890 3 from w60.x _ _ rfl).trans ( (show Xi T3 890 3 = Xi T2 890 3 from w37.x _ _ rfl).trans ((show Xi T2 890 3 = Xi T1 890 3 from w21.x _ _ rfl)))
            have w65 : -1 ≤ Xi T1 890 3 ∧ Xi T1 890 3 ≤ 5124 := hHT1.c _ _
            have w66 : Xi T4 891 11 = Xi T1 891 11 := (show Xi T4 891 11 = Xi T3 891 11 from w60.x _ _ rfl).trans ( (show Xi T3 891 11 = Xi T2 891 11 from w37.x _ _ rfl).trans ((show Xi T2 891 11 = Xi T1 891 11 from w21.x _ _ rfl)))
            have w67 : 0 ≤ Xi T1 891 11 ∧ Xi T1 891 11 ≤ 5 := hHT1.c _ _
            have w68 : Xi T4 891 12 = Xi T1 891 12 := (show Xi T4 891 12 = Xi T3 891 12 from w60.x _ _ rfl).trans ( (show Xi T3 891 12 = Xi T2 891 12 from w37.x _ _ rfl).trans ((show Xi T2 891 12 = Xi T1 891 12 from w21.x _ _ rfl)))
            have w69 : -1 ≤ Xi T1 891 12 ∧ Xi T1 891 12 ≤ 23 := hHT1.c _ _
            have w70 : Xi T4 891 9 = Xi T1 891 9 := (show Xi T4 891 9 = Xi T3 891 9 from w60.x _ _ rfl).trans ( (show Xi T3 891 9 = Xi T2 891 9 from w37.x _ _ rfl).trans ((show Xi T2 891 9 = Xi T1 891 9 from w21.x _ _ rfl)))
            have w71 : 0 ≤ Xi T1 891 9 ∧ Xi T1 891 9 ≤ 24 := hHT1.c _ _
            exact ⟨hHT4, hFT4, _, rfl, ⟨by omega, by omega⟩, (by first | (intro hz; omega) | (intro _; assumption) | (intro hz; apply_assumption; omega) | (intro _; exact (by assumption : WI T4))), (by omega)⟩
          · refine l_iconst rfl ?_
            refine l_goto rfl rfl ?_
            refine l_ireturn rfl rfl ?_
            have w72 : 0 ≤ Xi T4 876 8 ∧ Xi T4 876 8 ≤ 9 := hHT4.c _ _
            have w73 : Xi T4 890 3 = Xi T1 890 3 := (show Xi T4 890 3 = Xi T3 890 3 from w60.x _ _ rfl).trans ( (show Xi T3 890 3 = Xi T2 890 3 from w37.x _ _ rfl).trans ((show Xi T2 890 3 = Xi T1 890 3 from w21.x _ _ rfl)))
            have w74 : -1 ≤ Xi T1 890 3 ∧ Xi T1 890 3 ≤ 5124 := hHT1.c _ _
            have w75 : Xi T4 891 11 = Xi T1 891 11 := (show Xi T4 891 11 = Xi T3 891 11 from w60.x _ _ rfl).trans ( (show Xi T3 891 11 = Xi T2 891 11 from w37.x _ _ rfl).trans ((show Xi T2 891 11 = Xi T1 891 11 from w21.x _ _ rfl)))
            have w76 : 0 ≤ Xi T1 891 11 ∧ Xi T1 891 11 ≤ 5 := hHT1.c _ _
            have w77 : Xi T4 891 12 = Xi T1 891 12 := (show Xi T4 891 12 = Xi T3 891 12 from w60.x _ _ rfl).trans ( (show Xi T3 891 12 = Xi T2 891 12 from w37.x _ _ rfl).trans ((show Xi T2 891 12 = Xi T1 891 12 from w21.x _ _ rfl)))
            have w78 : -1 ≤ Xi T1 891 12 ∧ Xi T1 891 12 ≤ 23 := hHT1.c _ _
            have w79 : Xi T4 891 9 = Xi T1 891 9 := (show Xi T4 891 9 = Xi T3 891 9 from w60.x _ _ rfl).trans ( (show Xi T3 891 9 = Xi T2 891 9 from w37.x _ _ rfl).trans ((show Xi T2 891 9 = Xi T1 891 9 from w21.x _ _ rfl)))
            have w80 : 0 ≤ Xi T1 891 9 ∧ Xi T1 891 9 ≤ 24 := hHT1.c _ _
            exact ⟨hHT4, hFT4, _, rfl, ⟨by omega, by omega⟩, (by first | (intro hz; omega) | (intro _; assumption) | (intro hz; apply_assumption; omega) | (intro _; exact (by assumption : WI T4))), (by omega)⟩
      · refine l_aload_n rfl rfl ?_
        refine l_gfr rfl rfl rfl rfl rfl (hHT2.r 891 0 876 rfl) ?_
        refine l_bipush rfl rfl ?_
        refine l_iload_n rfl rfl ?_
        have w81 : Xi T2 890 3 = Xi T1 890 3 := (show Xi T2 890 3 = Xi T1 890 3 from w21.x _ _ rfl)
        have w82 : -1 ≤ Xi T1 890 3 ∧ Xi T1 890 3 ≤ 5124 := hHT1.c _ _
        have w83 : Xi T2 891 11 = Xi T1 891 11 := (show Xi T2 891 11 = Xi T1 891 11 from w21.x _ _ rfl)
        have w84 : 0 ≤ Xi T1 891 11 ∧ Xi T1 891 11 ≤ 5 := hHT1.c _ _
        have w85 : Xi T2 891 12 = Xi T1 891 12 := (show Xi T2 891 12 = Xi T1 891 12 from w21.x _ _ rfl)
        have w86 : -1 ≤ Xi T1 891 12 ∧ Xi T1 891 12 ≤ 23 := hHT1.c _ _
        have w87 : Xi T2 891 9 = Xi T1 891 9 := (show Xi T2 891 9 = Xi T1 891 9 from w21.x _ _ rfl)
        have w88 : 0 ≤ Xi T1 891 9 ∧ Xi T1 891 9 ≤ 24 := hHT1.c _ _
        refine l_callV rfl rfl rfl (t_to_wrong hHT2 7 v2 ⟨by omega, by omega⟩ ⟨by omega, by omega⟩ _) ?_
        rintro _ T5 ⟨hHT5, w92, z91, rfl, w91, w89, w90⟩
        have hFT5 : FR md_re_tellPlain S T5 := FR.tr hFT2 w92 rfl
        show Rl _ _ _ _ _ [iv z91] _ _
        refine l_ireturn rfl (retI_z (by omega)) ?_
        have w93 : 0 ≤ Xi T5 876 8 ∧ Xi T5 876 8 ≤ 9 := hHT5.c _ _
        have w94 : Xi T5 890 3 = Xi T1 890 3 := (show Xi T5 890 3 = Xi T2 890 3 from w92.x _ _ rfl).trans ((show Xi T2 890 3 = Xi T1 890 3 from w21.x _ _ rfl))
        have w95 : -1 ≤ Xi T1 890 3 ∧ Xi T1 890 3 ≤ 5124 := hHT1.c _ _
        have w96 : Xi T5 891 11 = Xi T1 891 11 := (show Xi T5 891 11 = Xi T2 891 11 from w92.x _ _ rfl).trans ((show Xi T2 891 11 = Xi T1 891 11 from w21.x _ _ rfl))
        have w97 : 0 ≤ Xi T1 891 11 ∧ Xi T1 891 11 ≤ 5 := hHT1.c _ _
        have w98 : Xi T5 891 12 = Xi T1 891 12 := (show Xi T5 891 12 = Xi T2 891 12 from w92.x _ _ rfl).trans ((show Xi T2 891 12 = Xi T1 891 12 from w21.x _ _ rfl))
        have w99 : -1 ≤ Xi T1 891 12 ∧ Xi T1 891 12 ≤ 23 := hHT1.c _ _
        have w100 : Xi T5 891 9 = Xi T1 891 9 := (show Xi T5 891 9 = Xi T2 891 9 from w92.x _ _ rfl).trans ((show Xi T2 891 9 = Xi T1 891 9 from w21.x _ _ rfl))
        have w101 : 0 ≤ Xi T1 891 9 ∧ Xi T1 891 9 ≤ 24 := hHT1.c _ _
        exact ⟨hHT5, hFT5, _, rfl, ⟨by omega, by omega⟩, (by first | (intro hz; omega) | (intro _; assumption) | (intro hz; apply_assumption; omega) | (intro _; exact (WI_FR hHT2 w92 rfl rfl rfl rfl rfl rfl rfl rfl rfl (WI_FR hHT1 w21 rfl rfl rfl rfl rfl rfl rfl rfl rfl (by assumption : WI T1))))), (by omega)⟩
    · refine l_iconst rfl ?_
      refine l_ireturn rfl rfl ?_
      have w102 : 0 ≤ Xi T2 876 8 ∧ Xi T2 876 8 ≤ 9 := hHT2.c _ _
      have w103 : Xi T2 890 3 = Xi T1 890 3 := (show Xi T2 890 3 = Xi T1 890 3 from w21.x _ _ rfl)
      have w104 : -1 ≤ Xi T1 890 3 ∧ Xi T1 890 3 ≤ 5124 := hHT1.c _ _
      have w105 : Xi T2 891 11 = Xi T1 891 11 := (show Xi T2 891 11 = Xi T1 891 11 from w21.x _ _ rfl)
      have w106 : 0 ≤ Xi T1 891 11 ∧ Xi T1 891 11 ≤ 5 := hHT1.c _ _
      have w107 : Xi T2 891 12 = Xi T1 891 12 := (show Xi T2 891 12 = Xi T1 891 12 from w21.x _ _ rfl)
      have w108 : -1 ≤ Xi T1 891 12 ∧ Xi T1 891 12 ≤ 23 := hHT1.c _ _
      have w109 : Xi T2 891 9 = Xi T1 891 9 := (show Xi T2 891 9 = Xi T1 891 9 from w21.x _ _ rfl)
      have w110 : 0 ≤ Xi T1 891 9 ∧ Xi T1 891 9 ≤ 24 := hHT1.c _ _
      exact ⟨hHT2, hFT2, _, rfl, ⟨by omega, by omega⟩, (by first | (intro hz; omega) | (intro _; assumption) | (intro hz; apply_assumption; omega) | (intro _; exact (WI_FR hHT1 w21 rfl rfl rfl rfl rfl rfl rfl rfl rfl (by assumption : WI T1)))), (by omega)⟩
  refine l_aload_n rfl rfl ?_
  refine l_gfr rfl rfl rfl rfl rfl (hH.r 891 0 876 rfl) ?_
  refine l_aload_n rfl rfl ?_
  refine l_gfr rfl rfl rfl rfl rfl (hH.r 891 1 890 rfl) ?_
  refine l_gfi rfl rfl rfl rfl rfl ?_
  have w111 : -1 ≤ (Xi S 890 3) ∧ (Xi S 890 3) ≤ 5124 := hH.c _ _
  refine l_iconst rfl ?_
  refine l_iadd rfl ?_
  have w112 : 0 ≤ Xi S 876 7 ∧ Xi S 876 7 ≤ 5125 := hH.c _ _
  have w113 : -1 ≤ Xi S 890 3 ∧ Xi S 890 3 ≤ 5124 := hH.c _ _
  have w114 : 0 ≤ Xi S 891 11 ∧ Xi S 891 11 ≤ 5 := hH.c _ _
  have w115 : -1 ≤ Xi S 891 12 ∧ Xi S 891 12 ≤ 23 := hH.c _ _
  have w116 : 0 ≤ Xi S 891 9 ∧ Xi S 891 9 ≤ 24 := hH.c _ _
  refine l_callV rfl rfl rfl (t_to_typeAt hH ((Xi S 890 3) + 1) ⟨by omega, by omega⟩ _) ?_
  rintro _ _ ⟨rfl, z120, rfl, w120, w117, w118, w119⟩
  clear w118 w119
  show Rl _ _ _ _ _ [iv z120] _ _
  refine l_bipush rfl rfl ?_
  refine l_icmp_ne rfl rfl (by unfold rg; omega) (by unfold rg; omega) (fun w121 => ?_) (fun w122 => ?_)
  · refine l_iconst rfl ?_
    refine l_istore_n rfl rfl rfl ?_
    refine l_aload_n rfl rfl ?_
    refine l_gfr rfl rfl rfl rfl rfl (hH.r 891 1 890 rfl) ?_
    refine l_gfi rfl rfl rfl rfl rfl ?_
    refine l_iload_n rfl rfl ?_
    refine l_if_eq rfl rfl (by unfold rg; omega) (fun w123 => ?_) (fun w124 => absurd w124 (by omega))
    · refine l_iconst rfl ?_
      refine l_iadd rfl ?_
      refine l_istore_n rfl rfl rfl ?_
      refine l_aload_n rfl rfl ?_
      refine l_gfr rfl rfl rfl rfl rfl (hH.r 891 0 876 rfl) ?_
      refine l_iload_n rfl rfl ?_
      have w125 : 0 ≤ Xi S 876 7 ∧ Xi S 876 7 ≤ 5125 := hH.c _ _
      have w126 : -1 ≤ Xi S 890 3 ∧ Xi S 890 3 ≤ 5124 := hH.c _ _
      have w127 : 0 ≤ Xi S 891 11 ∧ Xi S 891 11 ≤ 5 := hH.c _ _
      have w128 : -1 ≤ Xi S 891 12 ∧ Xi S 891 12 ≤ 23 := hH.c _ _
      have w129 : 0 ≤ Xi S 891 9 ∧ Xi S 891 9 ≤ 24 := hH.c _ _
      refine l_callV rfl rfl rfl (t_to_runEnd hH ((Xi S 890 3) + 1) ⟨by omega, by omega⟩ _) ?_
      rintro _ _ ⟨rfl, z137, rfl, w137, w130, w131, w132, w133, w134, w135, w136⟩
      clear w132 w133 w134 w135
      show Rl _ _ _ _ _ [iv z137] _ _
      refine l_istore_n rfl rfl rfl ?_
      refine l_aload_n rfl rfl ?_
      refine l_gfr rfl rfl rfl rfl rfl (hH.r 891 0 876 rfl) ?_
      refine l_aload_n rfl rfl ?_
      refine l_gfr rfl rfl rfl rfl rfl (hH.r 891 1 890 rfl) ?_
      refine l_gfi rfl rfl rfl rfl rfl ?_
      have w138 : 0 ≤ Xi S 876 7 ∧ Xi S 876 7 ≤ 5125 := hH.c _ _
      have w139 : -1 ≤ Xi S 890 3 ∧ Xi S 890 3 ≤ 5124 := hH.c _ _
      have w140 : 0 ≤ Xi S 891 11 ∧ Xi S 891 11 ≤ 5 := hH.c _ _
      have w141 : -1 ≤ Xi S 891 12 ∧ Xi S 891 12 ≤ 23 := hH.c _ _
      have w142 : 0 ≤ Xi S 891 9 ∧ Xi S 891 9 ≤ 24 := hH.c _ _
      refine l_callV rfl rfl rfl (t_to_typeAt hH (Xi S 890 3) ⟨by omega, by omega⟩ _) ?_
      rintro _ _ ⟨rfl, z146, rfl, w146, w143, w144, w145⟩
      clear w144 w145
      show Rl _ _ _ _ _ [iv z146] _ _
      refine l_iconst rfl ?_
      refine l_icmp_ne rfl rfl (by unfold rg; omega) (by unfold rg; omega) (fun w147 => ?_) (fun w148 => ?_)
      · refine l_iconst rfl ?_
        refine l_istore rfl rfl rfl ?_
        refine l_iload rfl rfl ?_
        refine l_if_eq rfl rfl (by unfold rg; omega) (fun w149 => ?_) (fun w150 => absurd w150 (by omega))
        · refine l_iconst rfl ?_
          refine l_istore rfl rfl rfl ?_
          refine l_aload_n rfl rfl ?_
          refine l_gfr rfl rfl rfl rfl rfl (hH.r 891 2 1 rfl) ?_
          refine l_aload_n rfl rfl ?_
          refine l_gfr rfl rfl rfl rfl rfl (hH.r 891 0 876 rfl) ?_
          refine l_gfr rfl rfl rfl rfl rfl (hH.r 876 2 879 rfl) ?_
          refine l_iload_n rfl rfl ?_
          refine l_iload_n rfl rfl ?_
          have w151 : -1 ≤ Xi S 890 3 ∧ Xi S 890 3 ≤ 5124 := hH.c _ _
          have w152 : 0 ≤ Xi S 891 11 ∧ Xi S 891 11 ≤ 5 := hH.c _ _
          have w153 : -1 ≤ Xi S 891 12 ∧ Xi S 891 12 ≤ 23 := hH.c _ _
          have w154 : 0 ≤ Xi S 891 9 ∧ Xi S 891 9 ≤ 24 := hH.c _ _
          refine l_callV rfl rfl rfl (t_vo_meaning hH 879 5130 ((Xi S 890 3) + 1) z137 rfl ⟨by omega, by omega⟩ ⟨by omega, by omega⟩ ⟨by omega, by omega⟩ (by first | assumption | exact (by first | assumption | exact (by assumption : WI S).1 : LEX S)) _) ?_
          rintro _ _ ⟨rfl, z158, rfl, w158, w155, w156, w157⟩
          show Rl _ _ _ _ _ [iv z158] _ _
          have hmnz158 := mOK_n (z := z158) (by assumption)
          refine l_bipush rfl rfl ?_
          refine l_ishr8 rfl (by unfold rg; omega) ?_
          refine l_istore rfl rfl rfl ?_
          refine l_iload rfl rfl ?_
          refine l_iconst rfl ?_
          refine l_icmp_eq rfl rfl (by unfold rg; omega) (by unfold rg; omega) (fun w160 => ?_) (fun w161 => ?_)
          · refine l_iconst rfl ?_
            refine l_goto rfl rfl ?_
            refine l_istore rfl rfl rfl ?_
            refine l_iload rfl rfl ?_
            refine l_if_eq rfl rfl (by unfold rg; omega) (fun w162 => ?_) (fun w163 => absurd w163 (by omega))
            · have w164 : -1 ≤ Xi S 890 3 ∧ Xi S 890 3 ≤ 5124 := hH.c _ _
              have w165 : 0 ≤ Xi S 891 11 ∧ Xi S 891 11 ≤ 5 := hH.c _ _
              have w166 : -1 ≤ Xi S 891 12 ∧ Xi S 891 12 ≤ 23 := hH.c _ _
              have w167 : 0 ≤ Xi S 891 9 ∧ Xi S 891 9 ≤ 24 := hH.c _ _
              exact Rl_weak (C191 S hH hF (0) (((Xi S 890 3) + 1)) (z137) (0) (by omega) (by omega) (by omega) (by omega) (by first | assumption | exact (by assumption : WI S)) (by omega) (by omega)) (And.intro rfl (And.intro rfl (And.intro rfl (And.intro rfl (And.intro rfl (True.intro))))))
          · refine l_iload rfl rfl ?_
            refine l_iconst rfl ?_
            refine l_icmp_ne rfl rfl (by unfold rg; omega) (by unfold rg; omega) (fun w168 => ?_) (fun w169 => ?_)
            · refine l_iconst rfl ?_
              refine l_istore rfl rfl rfl ?_
              refine l_iload rfl rfl ?_
              refine l_if_eq rfl rfl (by unfold rg; omega) (fun w170 => ?_) (fun w171 => absurd w171 (by omega))
              · have w172 : -1 ≤ Xi S 890 3 ∧ Xi S 890 3 ≤ 5124 := hH.c _ _
                have w173 : 0 ≤ Xi S 891 11 ∧ Xi S 891 11 ≤ 5 := hH.c _ _
                have w174 : -1 ≤ Xi S 891 12 ∧ Xi S 891 12 ≤ 23 := hH.c _ _
                have w175 : 0 ≤ Xi S 891 9 ∧ Xi S 891 9 ≤ 24 := hH.c _ _
                exact Rl_weak (C191 S hH hF (0) (((Xi S 890 3) + 1)) (z137) (0) (by omega) (by omega) (by omega) (by omega) (by first | assumption | exact (by assumption : WI S)) (by omega) (by omega)) (And.intro rfl (And.intro rfl (And.intro rfl (And.intro rfl (And.intro rfl (True.intro))))))
            · refine l_iconst rfl ?_
              refine l_goto rfl rfl ?_
              refine l_istore rfl rfl rfl ?_
              refine l_iload rfl rfl ?_
              refine l_if_eq rfl rfl (by unfold rg; omega) (fun w176 => ?_) (fun w177 => absurd w177 (by omega))
              · have w178 : -1 ≤ Xi S 890 3 ∧ Xi S 890 3 ≤ 5124 := hH.c _ _
                have w179 : 0 ≤ Xi S 891 11 ∧ Xi S 891 11 ≤ 5 := hH.c _ _
                have w180 : -1 ≤ Xi S 891 12 ∧ Xi S 891 12 ≤ 23 := hH.c _ _
                have w181 : 0 ≤ Xi S 891 9 ∧ Xi S 891 9 ≤ 24 := hH.c _ _
                exact Rl_weak (C191 S hH hF (0) (((Xi S 890 3) + 1)) (z137) (0) (by omega) (by omega) (by omega) (by omega) (by first | assumption | exact (by assumption : WI S)) (by omega) (by omega)) (And.intro rfl (And.intro rfl (And.intro rfl (And.intro rfl (And.intro rfl (True.intro))))))
      · refine l_iload_n rfl rfl ?_
        refine l_if_ne rfl rfl (by unfold rg; omega) (fun w182 => absurd w182 (by omega)) (fun w183 => ?_)
        · refine l_iconst rfl ?_
          refine l_goto rfl rfl ?_
          refine l_istore rfl rfl rfl ?_
          refine l_iload rfl rfl ?_
          refine l_if_eq rfl rfl (by unfold rg; omega) (fun w184 => absurd w184 (by omega)) (fun w185 => ?_)
          · refine l_aload_n rfl rfl ?_
            refine l_gfr rfl rfl rfl rfl rfl (hH.r 891 4 895 rfl) ?_
            refine l_iload_n rfl rfl ?_
            refine l_iload_n rfl rfl ?_
            refine l_iconst rfl ?_
            refine l_iconst rfl ?_
            refine l_iconst rfl ?_
            have w186 : -1 ≤ Xi S 890 3 ∧ Xi S 890 3 ≤ 5124 := hH.c _ _
            have w187 : 0 ≤ Xi S 891 11 ∧ Xi S 891 11 ≤ 5 := hH.c _ _
            have w188 : -1 ≤ Xi S 891 12 ∧ Xi S 891 12 ≤ 23 := hH.c _ _
            have w189 : 0 ≤ Xi S 891 9 ∧ Xi S 891 9 ≤ 24 := hH.c _ _
            refine l_callV rfl rfl rfl (t_me_countReadings hH ((Xi S 890 3) + 1) z137 1 0 (-1) ⟨by omega, by omega⟩ ⟨by omega, by omega⟩ ⟨by omega, by omega⟩ ⟨by omega, by omega⟩ ⟨by omega, by omega⟩ (by first | assumption | exact (by first | assumption | exact (by assumption : WI S).1 : LEX S)) _) ?_
            rintro _ T6 ⟨hHT6, w193, z192, rfl, w192, w190, w191⟩
            have hFT6 : FR md_re_tellPlain S T6 := FR.tr hF w193 rfl
            show Rl _ _ _ _ _ [iv z192] _ _
            refine l_if_le rfl rfl (by unfold rg; omega) (fun w194 => ?_) (fun w195 => ?_)
            · refine l_iconst rfl ?_
              refine l_istore rfl rfl rfl ?_
              refine l_aload_n rfl rfl ?_
              refine l_gfr rfl rfl rfl rfl rfl (hHT6.r 891 2 1 rfl) ?_
              refine l_aload_n rfl rfl ?_
              refine l_gfr rfl rfl rfl rfl rfl (hHT6.r 891 0 876 rfl) ?_
              refine l_gfr rfl rfl rfl rfl rfl (hHT6.r 876 2 879 rfl) ?_
              refine l_iload_n rfl rfl ?_
              refine l_iload_n rfl rfl ?_
              have w196 : Xi T6 890 3 = Xi S 890 3 := (show Xi T6 890 3 = Xi S 890 3 from w193.x _ _ rfl)
              have w197 : -1 ≤ Xi S 890 3 ∧ Xi S 890 3 ≤ 5124 := hH.c _ _
              have w198 : Xi T6 891 11 = Xi S 891 11 := (show Xi T6 891 11 = Xi S 891 11 from w193.x _ _ rfl)
              have w199 : 0 ≤ Xi S 891 11 ∧ Xi S 891 11 ≤ 5 := hH.c _ _
              have w200 : Xi T6 891 12 = Xi S 891 12 := (show Xi T6 891 12 = Xi S 891 12 from w193.x _ _ rfl)
              have w201 : -1 ≤ Xi S 891 12 ∧ Xi S 891 12 ≤ 23 := hH.c _ _
              have w202 : Xi T6 891 9 = Xi S 891 9 := (show Xi T6 891 9 = Xi S 891 9 from w193.x _ _ rfl)
              have w203 : 0 ≤ Xi S 891 9 ∧ Xi S 891 9 ≤ 24 := hH.c _ _
              refine l_callV rfl rfl rfl (t_vo_meaning hHT6 879 5130 ((Xi S 890 3) + 1) z137 rfl ⟨by omega, by omega⟩ ⟨by omega, by omega⟩ ⟨by omega, by omega⟩ (by first | assumption | exact (LEX_FR w193 rfl rfl (by first | assumption | exact (by assumption : WI S).1 : LEX S))) _) ?_
              rintro _ _ ⟨rfl, z207, rfl, w207, w204, w205, w206⟩
              show Rl _ _ _ _ _ [iv z207] _ _
              have hmnz207 := mOK_n (z := z207) (by assumption)
              refine l_bipush rfl rfl ?_
              refine l_ishr8 rfl (by unfold rg; omega) ?_
              refine l_istore rfl rfl rfl ?_
              refine l_iload rfl rfl ?_
              refine l_iconst rfl ?_
              refine l_icmp_eq rfl rfl (by unfold rg; omega) (by unfold rg; omega) (fun w209 => ?_) (fun w210 => ?_)
              · refine l_iconst rfl ?_
                refine l_goto rfl rfl ?_
                refine l_istore rfl rfl rfl ?_
                refine l_iload rfl rfl ?_
                refine l_if_eq rfl rfl (by unfold rg; omega) (fun w211 => ?_) (fun w212 => absurd w212 (by omega))
                · have w213 : Xi T6 890 3 = Xi S 890 3 := (show Xi T6 890 3 = Xi S 890 3 from w193.x _ _ rfl)
                  have w214 : -1 ≤ Xi S 890 3 ∧ Xi S 890 3 ≤ 5124 := hH.c _ _
                  have w215 : Xi T6 891 11 = Xi S 891 11 := (show Xi T6 891 11 = Xi S 891 11 from w193.x _ _ rfl)
                  have w216 : 0 ≤ Xi S 891 11 ∧ Xi S 891 11 ≤ 5 := hH.c _ _
                  have w217 : Xi T6 891 12 = Xi S 891 12 := (show Xi T6 891 12 = Xi S 891 12 from w193.x _ _ rfl)
                  have w218 : -1 ≤ Xi S 891 12 ∧ Xi S 891 12 ≤ 23 := hH.c _ _
                  have w219 : Xi T6 891 9 = Xi S 891 9 := (show Xi T6 891 9 = Xi S 891 9 from w193.x _ _ rfl)
                  have w220 : 0 ≤ Xi S 891 9 ∧ Xi S 891 9 ≤ 24 := hH.c _ _
                  exact Rl_weak (C191 T6 hHT6 hFT6 (0) (((Xi S 890 3) + 1)) (z137) (0) (by omega) (by omega) (by omega) (by omega) (by first | assumption | exact (WI_FR hH w193 rfl rfl rfl rfl rfl rfl rfl rfl rfl (by assumption : WI S))) (by omega) (by omega)) (And.intro rfl (And.intro rfl (And.intro rfl (And.intro rfl (And.intro rfl (True.intro))))))
              · refine l_iload rfl rfl ?_
                refine l_iconst rfl ?_
                refine l_icmp_ne rfl rfl (by unfold rg; omega) (by unfold rg; omega) (fun w221 => ?_) (fun w222 => ?_)
                · refine l_iconst rfl ?_
                  refine l_istore rfl rfl rfl ?_
                  refine l_iload rfl rfl ?_
                  refine l_if_eq rfl rfl (by unfold rg; omega) (fun w223 => ?_) (fun w224 => absurd w224 (by omega))
                  · have w225 : Xi T6 890 3 = Xi S 890 3 := (show Xi T6 890 3 = Xi S 890 3 from w193.x _ _ rfl)
                    have w226 : -1 ≤ Xi S 890 3 ∧ Xi S 890 3 ≤ 5124 := hH.c _ _
                    have w227 : Xi T6 891 11 = Xi S 891 11 := (show Xi T6 891 11 = Xi S 891 11 from w193.x _ _ rfl)
                    have w228 : 0 ≤ Xi S 891 11 ∧ Xi S 891 11 ≤ 5 := hH.c _ _
                    have w229 : Xi T6 891 12 = Xi S 891 12 := (show Xi T6 891 12 = Xi S 891 12 from w193.x _ _ rfl)
                    have w230 : -1 ≤ Xi S 891 12 ∧ Xi S 891 12 ≤ 23 := hH.c _ _
                    have w231 : Xi T6 891 9 = Xi S 891 9 := (show Xi T6 891 9 = Xi S 891 9 from w193.x _ _ rfl)
                    have w232 : 0 ≤ Xi S 891 9 ∧ Xi S 891 9 ≤ 24 := hH.c _ _
                    exact Rl_weak (C191 T6 hHT6 hFT6 (0) (((Xi S 890 3) + 1)) (z137) (0) (by omega) (by omega) (by omega) (by omega) (by first | assumption | exact (WI_FR hH w193 rfl rfl rfl rfl rfl rfl rfl rfl rfl (by assumption : WI S))) (by omega) (by omega)) (And.intro rfl (And.intro rfl (And.intro rfl (And.intro rfl (And.intro rfl (True.intro))))))
                · refine l_iconst rfl ?_
                  refine l_goto rfl rfl ?_
                  refine l_istore rfl rfl rfl ?_
                  refine l_iload rfl rfl ?_
                  refine l_if_eq rfl rfl (by unfold rg; omega) (fun w233 => ?_) (fun w234 => absurd w234 (by omega))
                  · have w235 : Xi T6 890 3 = Xi S 890 3 := (show Xi T6 890 3 = Xi S 890 3 from w193.x _ _ rfl)
                    have w236 : -1 ≤ Xi S 890 3 ∧ Xi S 890 3 ≤ 5124 := hH.c _ _
                    have w237 : Xi T6 891 11 = Xi S 891 11 := (show Xi T6 891 11 = Xi S 891 11 from w193.x _ _ rfl)
                    have w238 : 0 ≤ Xi S 891 11 ∧ Xi S 891 11 ≤ 5 := hH.c _ _
                    have w239 : Xi T6 891 12 = Xi S 891 12 := (show Xi T6 891 12 = Xi S 891 12 from w193.x _ _ rfl)
                    have w240 : -1 ≤ Xi S 891 12 ∧ Xi S 891 12 ≤ 23 := hH.c _ _
                    have w241 : Xi T6 891 9 = Xi S 891 9 := (show Xi T6 891 9 = Xi S 891 9 from w193.x _ _ rfl)
                    have w242 : 0 ≤ Xi S 891 9 ∧ Xi S 891 9 ≤ 24 := hH.c _ _
                    exact Rl_weak (C191 T6 hHT6 hFT6 (0) (((Xi S 890 3) + 1)) (z137) (0) (by omega) (by omega) (by omega) (by omega) (by first | assumption | exact (WI_FR hH w193 rfl rfl rfl rfl rfl rfl rfl rfl rfl (by assumption : WI S))) (by omega) (by omega)) (And.intro rfl (And.intro rfl (And.intro rfl (And.intro rfl (And.intro rfl (True.intro))))))
            · refine l_iconst rfl ?_
              refine l_goto rfl rfl ?_
              refine l_istore rfl rfl rfl ?_
              refine l_aload_n rfl rfl ?_
              refine l_gfr rfl rfl rfl rfl rfl (hHT6.r 891 2 1 rfl) ?_
              refine l_aload_n rfl rfl ?_
              refine l_gfr rfl rfl rfl rfl rfl (hHT6.r 891 0 876 rfl) ?_
              refine l_gfr rfl rfl rfl rfl rfl (hHT6.r 876 2 879 rfl) ?_
              refine l_iload_n rfl rfl ?_
              refine l_iload_n rfl rfl ?_
              have w243 : Xi T6 890 3 = Xi S 890 3 := (show Xi T6 890 3 = Xi S 890 3 from w193.x _ _ rfl)
              have w244 : -1 ≤ Xi S 890 3 ∧ Xi S 890 3 ≤ 5124 := hH.c _ _
              have w245 : Xi T6 891 11 = Xi S 891 11 := (show Xi T6 891 11 = Xi S 891 11 from w193.x _ _ rfl)
              have w246 : 0 ≤ Xi S 891 11 ∧ Xi S 891 11 ≤ 5 := hH.c _ _
              have w247 : Xi T6 891 12 = Xi S 891 12 := (show Xi T6 891 12 = Xi S 891 12 from w193.x _ _ rfl)
              have w248 : -1 ≤ Xi S 891 12 ∧ Xi S 891 12 ≤ 23 := hH.c _ _
              have w249 : Xi T6 891 9 = Xi S 891 9 := (show Xi T6 891 9 = Xi S 891 9 from w193.x _ _ rfl)
              have w250 : 0 ≤ Xi S 891 9 ∧ Xi S 891 9 ≤ 24 := hH.c _ _
              refine l_callV rfl rfl rfl (t_vo_meaning hHT6 879 5130 ((Xi S 890 3) + 1) z137 rfl ⟨by omega, by omega⟩ ⟨by omega, by omega⟩ ⟨by omega, by omega⟩ (by first | assumption | exact (LEX_FR w193 rfl rfl (by first | assumption | exact (by assumption : WI S).1 : LEX S))) _) ?_
              rintro _ _ ⟨rfl, z254, rfl, w254, w251, w252, w253⟩
              show Rl _ _ _ _ _ [iv z254] _ _
              have hmnz254 := mOK_n (z := z254) (by assumption)
              refine l_bipush rfl rfl ?_
              refine l_ishr8 rfl (by unfold rg; omega) ?_
              refine l_istore rfl rfl rfl ?_
              refine l_iload rfl rfl ?_
              refine l_iconst rfl ?_
              refine l_icmp_eq rfl rfl (by unfold rg; omega) (by unfold rg; omega) (fun w256 => ?_) (fun w257 => ?_)
              · refine l_iconst rfl ?_
                refine l_goto rfl rfl ?_
                refine l_istore rfl rfl rfl ?_
                refine l_iload rfl rfl ?_
                refine l_if_eq rfl rfl (by unfold rg; omega) (fun w258 => absurd w258 (by omega)) (fun w259 => ?_)
                · refine l_iload rfl rfl ?_
                  refine l_if_ne rfl rfl (by unfold rg; omega) (fun w260 => ?_) (fun w261 => absurd w261 (by omega))
                  · have w262 : Xi T6 890 3 = Xi S 890 3 := (show Xi T6 890 3 = Xi S 890 3 from w193.x _ _ rfl)
                    have w263 : -1 ≤ Xi S 890 3 ∧ Xi S 890 3 ≤ 5124 := hH.c _ _
                    have w264 : Xi T6 891 11 = Xi S 891 11 := (show Xi T6 891 11 = Xi S 891 11 from w193.x _ _ rfl)
                    have w265 : 0 ≤ Xi S 891 11 ∧ Xi S 891 11 ≤ 5 := hH.c _ _
                    have w266 : Xi T6 891 12 = Xi S 891 12 := (show Xi T6 891 12 = Xi S 891 12 from w193.x _ _ rfl)
                    have w267 : -1 ≤ Xi S 891 12 ∧ Xi S 891 12 ≤ 23 := hH.c _ _
                    have w268 : Xi T6 891 9 = Xi S 891 9 := (show Xi T6 891 9 = Xi S 891 9 from w193.x _ _ rfl)
                    have w269 : 0 ≤ Xi S 891 9 ∧ Xi S 891 9 ≤ 24 := hH.c _ _
                    exact Rl_weak (C191 T6 hHT6 hFT6 (0) (((Xi S 890 3) + 1)) (z137) (1) (by omega) (by omega) (by omega) (by omega) (by first | assumption | exact (WI_FR hH w193 rfl rfl rfl rfl rfl rfl rfl rfl rfl (by assumption : WI S))) (by omega) (by omega)) (And.intro rfl (And.intro rfl (And.intro rfl (And.intro rfl (And.intro rfl (True.intro))))))
              · refine l_iload rfl rfl ?_
                refine l_iconst rfl ?_
                refine l_icmp_ne rfl rfl (by unfold rg; omega) (by unfold rg; omega) (fun w270 => ?_) (fun w271 => ?_)
                · refine l_iconst rfl ?_
                  refine l_istore rfl rfl rfl ?_
                  refine l_iload rfl rfl ?_
                  refine l_if_eq rfl rfl (by unfold rg; omega) (fun w272 => absurd w272 (by omega)) (fun w273 => ?_)
                  · refine l_iload rfl rfl ?_
                    refine l_if_ne rfl rfl (by unfold rg; omega) (fun w274 => absurd w274 (by omega)) (fun w275 => ?_)
                    · refine l_aload_n rfl rfl ?_
                      have w276 : Xi T6 890 3 = Xi S 890 3 := (show Xi T6 890 3 = Xi S 890 3 from w193.x _ _ rfl)
                      have w277 : -1 ≤ Xi S 890 3 ∧ Xi S 890 3 ≤ 5124 := hH.c _ _
                      have w278 : Xi T6 891 11 = Xi S 891 11 := (show Xi T6 891 11 = Xi S 891 11 from w193.x _ _ rfl)
                      have w279 : 0 ≤ Xi S 891 11 ∧ Xi S 891 11 ≤ 5 := hH.c _ _
                      have w280 : Xi T6 891 12 = Xi S 891 12 := (show Xi T6 891 12 = Xi S 891 12 from w193.x _ _ rfl)
                      have w281 : -1 ≤ Xi S 891 12 ∧ Xi S 891 12 ≤ 23 := hH.c _ _
                      have w282 : Xi T6 891 9 = Xi S 891 9 := (show Xi T6 891 9 = Xi S 891 9 from w193.x _ _ rfl)
                      have w283 : 0 ≤ Xi S 891 9 ∧ Xi S 891 9 ≤ 24 := hH.c _ _
                      refine l_callV rfl rfl rfl (t_re_takeObjects hHT6 (by first | assumption | exact (LEX_FR w193 rfl rfl (by first | assumption | exact (by assumption : WI S).1 : LEX S))) (by first | assumption | omega) _) ?_
                      rintro _ T7 ⟨hHT7, w287, z286, rfl, w286, w284, w285⟩
                      have hFT7 : FR md_re_tellPlain S T7 := FR.tr hFT6 w287 rfl
                      show Rl _ _ _ _ _ [iv z286] _ _
                      have hN1 : z286 = 1 → NWO T7 (Xi T6 890 3) := by assumption
                      refine l_if_eq rfl rfl (by unfold rg; omega) (fun w288 => ?_) (fun w289 => ?_)
                      · refine l_iconst rfl ?_
                        refine l_ireturn rfl rfl ?_
                        have w290 : 0 ≤ Xi T7 876 8 ∧ Xi T7 876 8 ≤ 9 := hHT7.c _ _
                        have w291 : Xi T7 890 3 = Xi S 890 3 := (show Xi T7 890 3 = Xi T6 890 3 from w287.x _ _ rfl).trans ((show Xi T6 890 3 = Xi S 890 3 from w193.x _ _ rfl))
                        have w292 : -1 ≤ Xi S 890 3 ∧ Xi S 890 3 ≤ 5124 := hH.c _ _
                        have w293 : Xi T7 891 11 = Xi S 891 11 := (show Xi T7 891 11 = Xi T6 891 11 from w287.x _ _ rfl).trans ((show Xi T6 891 11 = Xi S 891 11 from w193.x _ _ rfl))
                        have w294 : 0 ≤ Xi S 891 11 ∧ Xi S 891 11 ≤ 5 := hH.c _ _
                        have w295 : Xi T7 891 12 = Xi S 891 12 := (show Xi T7 891 12 = Xi T6 891 12 from w287.x _ _ rfl).trans ((show Xi T6 891 12 = Xi S 891 12 from w193.x _ _ rfl))
                        have w296 : -1 ≤ Xi S 891 12 ∧ Xi S 891 12 ≤ 23 := hH.c _ _
                        have w297 : 0 ≤ Xi T7 891 9 ∧ Xi T7 891 9 ≤ 24 := hHT7.c _ _
                        exact ⟨hHT7, hFT7, _, rfl, ⟨by omega, by omega⟩, (by first | (intro hz; omega) | (intro _; assumption) | (intro hz; apply_assumption; omega) | (intro _; exact (WI_FR hHT6 w287 rfl rfl rfl rfl rfl rfl rfl rfl rfl (WI_FR hH w193 rfl rfl rfl rfl rfl rfl rfl rfl rfl (by assumption : WI S))))), (by omega)⟩
                      · refine l_aload_n rfl rfl ?_
                        refine l_iload_n rfl rfl ?_
                        refine l_iload_n rfl rfl ?_
                        refine l_iconst rfl ?_
                        have w298 : Xi T7 890 3 = Xi S 890 3 := (show Xi T7 890 3 = Xi T6 890 3 from w287.x _ _ rfl).trans ((show Xi T6 890 3 = Xi S 890 3 from w193.x _ _ rfl))
                        have w299 : -1 ≤ Xi S 890 3 ∧ Xi S 890 3 ≤ 5124 := hH.c _ _
                        have w300 : Xi T7 891 11 = Xi S 891 11 := (show Xi T7 891 11 = Xi T6 891 11 from w287.x _ _ rfl).trans ((show Xi T6 891 11 = Xi S 891 11 from w193.x _ _ rfl))
                        have w301 : 0 ≤ Xi S 891 11 ∧ Xi S 891 11 ≤ 5 := hH.c _ _
                        have w302 : Xi T7 891 12 = Xi S 891 12 := (show Xi T7 891 12 = Xi T6 891 12 from w287.x _ _ rfl).trans ((show Xi T6 891 12 = Xi S 891 12 from w193.x _ _ rfl))
                        have w303 : -1 ≤ Xi S 891 12 ∧ Xi S 891 12 ≤ 23 := hH.c _ _
                        have w304 : 0 ≤ Xi T7 891 9 ∧ Xi T7 891 9 ≤ 24 := hHT7.c _ _
                        refine l_callV rfl rfl rfl (t_re_takeDescription hHT7 ((Xi S 890 3) + 1) z137 1 ⟨by omega, by omega⟩ ⟨by omega, by omega⟩ ⟨by omega, by omega⟩ (by first | assumption | exact (LEX_FR w287 rfl rfl (LEX_FR w193 rfl rfl (by first | assumption | exact (by assumption : WI S).1 : LEX S)))) _) ?_
                        rintro _ T8 ⟨hHT8, w308, z307, rfl, w307, w305, w306⟩
                        have hFT8 : FR md_re_tellPlain S T8 := FR.tr hFT7 w308 rfl
                        show Rl _ _ _ _ _ [iv z307] _ _
                        have hN2 : NWO T8 (Xi S 890 3) := NWO_FR (by assumption : FR md_re_takeDescription T7 T8) rfl (by have t := hN1 (by omega); rw [show Xi _ 890 3 = Xi S 890 3 by omega] at t; exact t)
                        refine l_if_eq rfl rfl (by unfold rg; omega) (fun w309 => ?_) (fun w310 => ?_)
                        · refine l_iconst rfl ?_
                          refine l_ireturn rfl rfl ?_
                          have w311 : 0 ≤ Xi T8 876 8 ∧ Xi T8 876 8 ≤ 9 := hHT8.c _ _
                          have w312 : Xi T8 890 3 = Xi S 890 3 := (show Xi T8 890 3 = Xi T7 890 3 from w308.x _ _ rfl).trans ( (show Xi T7 890 3 = Xi T6 890 3 from w287.x _ _ rfl).trans ((show Xi T6 890 3 = Xi S 890 3 from w193.x _ _ rfl)))
                          have w313 : -1 ≤ Xi S 890 3 ∧ Xi S 890 3 ≤ 5124 := hH.c _ _
                          have w314 : Xi T8 891 11 = Xi S 891 11 := (show Xi T8 891 11 = Xi T7 891 11 from w308.x _ _ rfl).trans ( (show Xi T7 891 11 = Xi T6 891 11 from w287.x _ _ rfl).trans ((show Xi T6 891 11 = Xi S 891 11 from w193.x _ _ rfl)))
                          have w315 : 0 ≤ Xi S 891 11 ∧ Xi S 891 11 ≤ 5 := hH.c _ _
                          have w316 : Xi T8 891 12 = Xi S 891 12 := (show Xi T8 891 12 = Xi T7 891 12 from w308.x _ _ rfl).trans ( (show Xi T7 891 12 = Xi T6 891 12 from w287.x _ _ rfl).trans ((show Xi T6 891 12 = Xi S 891 12 from w193.x _ _ rfl)))
                          have w317 : -1 ≤ Xi S 891 12 ∧ Xi S 891 12 ≤ 23 := hH.c _ _
                          have w318 : Xi T8 891 9 = Xi T7 891 9 := (show Xi T8 891 9 = Xi T7 891 9 from w308.x _ _ rfl)
                          have w319 : 0 ≤ Xi T7 891 9 ∧ Xi T7 891 9 ≤ 24 := hHT7.c _ _
                          exact ⟨hHT8, hFT8, _, rfl, ⟨by omega, by omega⟩, (by first | (intro hz; omega) | (intro _; assumption) | (intro hz; apply_assumption; omega) | (intro _; exact (WI_FR hHT7 w308 rfl rfl rfl rfl rfl rfl rfl rfl rfl (WI_FR hHT6 w287 rfl rfl rfl rfl rfl rfl rfl rfl rfl (WI_FR hH w193 rfl rfl rfl rfl rfl rfl rfl rfl rfl (by assumption : WI S)))))), (by omega)⟩
                        · refine l_aload_n rfl rfl ?_
                          refine l_iconst rfl ?_
                          have w320 : Xi T8 890 3 = Xi S 890 3 := (show Xi T8 890 3 = Xi T7 890 3 from w308.x _ _ rfl).trans ( (show Xi T7 890 3 = Xi T6 890 3 from w287.x _ _ rfl).trans ((show Xi T6 890 3 = Xi S 890 3 from w193.x _ _ rfl)))
                          have w321 : -1 ≤ Xi S 890 3 ∧ Xi S 890 3 ≤ 5124 := hH.c _ _
                          have w322 : Xi T8 891 11 = Xi S 891 11 := (show Xi T8 891 11 = Xi T7 891 11 from w308.x _ _ rfl).trans ( (show Xi T7 891 11 = Xi T6 891 11 from w287.x _ _ rfl).trans ((show Xi T6 891 11 = Xi S 891 11 from w193.x _ _ rfl)))
                          have w323 : 0 ≤ Xi S 891 11 ∧ Xi S 891 11 ≤ 5 := hH.c _ _
                          have w324 : Xi T8 891 12 = Xi S 891 12 := (show Xi T8 891 12 = Xi T7 891 12 from w308.x _ _ rfl).trans ( (show Xi T7 891 12 = Xi T6 891 12 from w287.x _ _ rfl).trans ((show Xi T6 891 12 = Xi S 891 12 from w193.x _ _ rfl)))
                          have w325 : -1 ≤ Xi S 891 12 ∧ Xi S 891 12 ≤ 23 := hH.c _ _
                          have w326 : Xi T8 891 9 = Xi T7 891 9 := (show Xi T8 891 9 = Xi T7 891 9 from w308.x _ _ rfl)
                          have w327 : 0 ≤ Xi T7 891 9 ∧ Xi T7 891 9 ≤ 24 := hHT7.c _ _
                          refine l_callV rfl rfl rfl (t_re_doObjects hHT8 1 ⟨by omega, by omega⟩ (by first | assumption | exact (WI_FR hHT7 w308 rfl rfl rfl rfl rfl rfl rfl rfl rfl (WI_FR hHT6 w287 rfl rfl rfl rfl rfl rfl rfl rfl rfl (WI_FR hH w193 rfl rfl rfl rfl rfl rfl rfl rfl rfl (by assumption : WI S))))) (by rw [show Xi T8 890 3 = Xi S 890 3 by omega]; exact hN2) (fun _ => by apply_assumption; omega) (by first | assumption | omega) _) ?_
                          rintro _ T9 ⟨hHT9, w331, z330, rfl, w330, w328, w329⟩
                          have hFT9 : FR md_re_tellPlain S T9 := FR.tr hFT8 w331 rfl
                          show Rl _ _ _ _ _ [iv z330] _ _
                          refine l_if_eq rfl rfl (by unfold rg; omega) (fun w332 => ?_) (fun w333 => ?_)
                          · refine l_iconst rfl ?_
                            refine l_ireturn rfl rfl ?_
                            have w334 : 0 ≤ Xi T9 876 8 ∧ Xi T9 876 8 ≤ 9 := hHT9.c _ _
                            have w335 : Xi T9 890 3 = Xi S 890 3 := (show Xi T9 890 3 = Xi T8 890 3 from w331.x _ _ rfl).trans ( (show Xi T8 890 3 = Xi T7 890 3 from w308.x _ _ rfl).trans ( (show Xi T7 890 3 = Xi T6 890 3 from w287.x _ _ rfl).trans ((show Xi T6 890 3 = Xi S 890 3 from w193.x _ _ rfl))))
                            have w336 : -1 ≤ Xi S 890 3 ∧ Xi S 890 3 ≤ 5124 := hH.c _ _
                            have w337 : Xi T9 891 11 = Xi S 891 11 := (show Xi T9 891 11 = Xi T8 891 11 from w331.x _ _ rfl).trans ( (show Xi T8 891 11 = Xi T7 891 11 from w308.x _ _ rfl).trans ( (show Xi T7 891 11 = Xi T6 891 11 from w287.x _ _ rfl).trans ((show Xi T6 891 11 = Xi S 891 11 from w193.x _ _ rfl))))
                            have w338 : 0 ≤ Xi S 891 11 ∧ Xi S 891 11 ≤ 5 := hH.c _ _
                            have w339 : Xi T9 891 12 = Xi S 891 12 := (show Xi T9 891 12 = Xi T8 891 12 from w331.x _ _ rfl).trans ( (show Xi T8 891 12 = Xi T7 891 12 from w308.x _ _ rfl).trans ( (show Xi T7 891 12 = Xi T6 891 12 from w287.x _ _ rfl).trans ((show Xi T6 891 12 = Xi S 891 12 from w193.x _ _ rfl))))
                            have w340 : -1 ≤ Xi S 891 12 ∧ Xi S 891 12 ≤ 23 := hH.c _ _
                            have w341 : Xi T9 891 9 = Xi T7 891 9 := (show Xi T9 891 9 = Xi T8 891 9 from w331.x _ _ rfl).trans ((show Xi T8 891 9 = Xi T7 891 9 from w308.x _ _ rfl))
                            have w342 : 0 ≤ Xi T7 891 9 ∧ Xi T7 891 9 ≤ 24 := hHT7.c _ _
                            exact ⟨hHT9, hFT9, _, rfl, ⟨by omega, by omega⟩, (by first | (intro hz; omega) | (intro _; assumption) | (intro hz; apply_assumption; omega) | (intro _; exact (by assumption : WI T9))), (by omega)⟩
                          · refine l_iconst rfl ?_
                            refine l_goto rfl rfl ?_
                            refine l_ireturn rfl rfl ?_
                            have w343 : 0 ≤ Xi T9 876 8 ∧ Xi T9 876 8 ≤ 9 := hHT9.c _ _
                            have w344 : Xi T9 890 3 = Xi S 890 3 := (show Xi T9 890 3 = Xi T8 890 3 from w331.x _ _ rfl).trans ( (show Xi T8 890 3 = Xi T7 890 3 from w308.x _ _ rfl).trans ( (show Xi T7 890 3 = Xi T6 890 3 from w287.x _ _ rfl).trans ((show Xi T6 890 3 = Xi S 890 3 from w193.x _ _ rfl))))
                            have w345 : -1 ≤ Xi S 890 3 ∧ Xi S 890 3 ≤ 5124 := hH.c _ _
                            have w346 : Xi T9 891 11 = Xi S 891 11 := (show Xi T9 891 11 = Xi T8 891 11 from w331.x _ _ rfl).trans ( (show Xi T8 891 11 = Xi T7 891 11 from w308.x _ _ rfl).trans ( (show Xi T7 891 11 = Xi T6 891 11 from w287.x _ _ rfl).trans ((show Xi T6 891 11 = Xi S 891 11 from w193.x _ _ rfl))))
                            have w347 : 0 ≤ Xi S 891 11 ∧ Xi S 891 11 ≤ 5 := hH.c _ _
                            have w348 : Xi T9 891 12 = Xi S 891 12 := (show Xi T9 891 12 = Xi T8 891 12 from w331.x _ _ rfl).trans ( (show Xi T8 891 12 = Xi T7 891 12 from w308.x _ _ rfl).trans ( (show Xi T7 891 12 = Xi T6 891 12 from w287.x _ _ rfl).trans ((show Xi T6 891 12 = Xi S 891 12 from w193.x _ _ rfl))))
                            have w349 : -1 ≤ Xi S 891 12 ∧ Xi S 891 12 ≤ 23 := hH.c _ _
                            have w350 : Xi T9 891 9 = Xi T7 891 9 := (show Xi T9 891 9 = Xi T8 891 9 from w331.x _ _ rfl).trans ((show Xi T8 891 9 = Xi T7 891 9 from w308.x _ _ rfl))
                            have w351 : 0 ≤ Xi T7 891 9 ∧ Xi T7 891 9 ≤ 24 := hHT7.c _ _
                            exact ⟨hHT9, hFT9, _, rfl, ⟨by omega, by omega⟩, (by first | (intro hz; omega) | (intro _; assumption) | (intro hz; apply_assumption; omega) | (intro _; exact (by assumption : WI T9))), (by omega)⟩
                · refine l_iconst rfl ?_
                  refine l_goto rfl rfl ?_
                  refine l_istore rfl rfl rfl ?_
                  refine l_iload rfl rfl ?_
                  refine l_if_eq rfl rfl (by unfold rg; omega) (fun w352 => absurd w352 (by omega)) (fun w353 => ?_)
                  · refine l_iload rfl rfl ?_
                    refine l_if_ne rfl rfl (by unfold rg; omega) (fun w354 => ?_) (fun w355 => absurd w355 (by omega))
                    · have w356 : Xi T6 890 3 = Xi S 890 3 := (show Xi T6 890 3 = Xi S 890 3 from w193.x _ _ rfl)
                      have w357 : -1 ≤ Xi S 890 3 ∧ Xi S 890 3 ≤ 5124 := hH.c _ _
                      have w358 : Xi T6 891 11 = Xi S 891 11 := (show Xi T6 891 11 = Xi S 891 11 from w193.x _ _ rfl)
                      have w359 : 0 ≤ Xi S 891 11 ∧ Xi S 891 11 ≤ 5 := hH.c _ _
                      have w360 : Xi T6 891 12 = Xi S 891 12 := (show Xi T6 891 12 = Xi S 891 12 from w193.x _ _ rfl)
                      have w361 : -1 ≤ Xi S 891 12 ∧ Xi S 891 12 ≤ 23 := hH.c _ _
                      have w362 : Xi T6 891 9 = Xi S 891 9 := (show Xi T6 891 9 = Xi S 891 9 from w193.x _ _ rfl)
                      have w363 : 0 ≤ Xi S 891 9 ∧ Xi S 891 9 ≤ 24 := hH.c _ _
                      exact Rl_weak (C191 T6 hHT6 hFT6 (0) (((Xi S 890 3) + 1)) (z137) (1) (by omega) (by omega) (by omega) (by omega) (by first | assumption | exact (WI_FR hH w193 rfl rfl rfl rfl rfl rfl rfl rfl rfl (by assumption : WI S))) (by omega) (by omega)) (And.intro rfl (And.intro rfl (And.intro rfl (And.intro rfl (And.intro rfl (True.intro))))))
  · refine l_iconst rfl ?_
    refine l_goto rfl rfl ?_
    refine l_istore_n rfl rfl rfl ?_
    refine l_aload_n rfl rfl ?_
    refine l_gfr rfl rfl rfl rfl rfl (hH.r 891 1 890 rfl) ?_
    refine l_gfi rfl rfl rfl rfl rfl ?_
    refine l_iload_n rfl rfl ?_
    refine l_if_eq rfl rfl (by unfold rg; omega) (fun w364 => absurd w364 (by omega)) (fun w365 => ?_)
    · refine l_iconst rfl ?_
      refine l_goto rfl rfl ?_
      refine l_iadd rfl ?_
      refine l_istore_n rfl rfl rfl ?_
      refine l_aload_n rfl rfl ?_
      refine l_gfr rfl rfl rfl rfl rfl (hH.r 891 0 876 rfl) ?_
      refine l_iload_n rfl rfl ?_
      have w366 : 0 ≤ Xi S 876 7 ∧ Xi S 876 7 ≤ 5125 := hH.c _ _
      have w367 : -1 ≤ Xi S 890 3 ∧ Xi S 890 3 ≤ 5124 := hH.c _ _
      have w368 : 0 ≤ Xi S 891 11 ∧ Xi S 891 11 ≤ 5 := hH.c _ _
      have w369 : -1 ≤ Xi S 891 12 ∧ Xi S 891 12 ≤ 23 := hH.c _ _
      have w370 : 0 ≤ Xi S 891 9 ∧ Xi S 891 9 ≤ 24 := hH.c _ _
      refine l_callV rfl rfl rfl (t_to_runEnd hH ((Xi S 890 3) + 2) ⟨by omega, by omega⟩ _) ?_
      rintro _ _ ⟨rfl, z378, rfl, w378, w371, w372, w373, w374, w375, w376, w377⟩
      clear w373 w374 w375 w376
      show Rl _ _ _ _ _ [iv z378] _ _
      refine l_istore_n rfl rfl rfl ?_
      refine l_aload_n rfl rfl ?_
      refine l_gfr rfl rfl rfl rfl rfl (hH.r 891 0 876 rfl) ?_
      refine l_aload_n rfl rfl ?_
      refine l_gfr rfl rfl rfl rfl rfl (hH.r 891 1 890 rfl) ?_
      refine l_gfi rfl rfl rfl rfl rfl ?_
      have w379 : 0 ≤ Xi S 876 7 ∧ Xi S 876 7 ≤ 5125 := hH.c _ _
      have w380 : -1 ≤ Xi S 890 3 ∧ Xi S 890 3 ≤ 5124 := hH.c _ _
      have w381 : 0 ≤ Xi S 891 11 ∧ Xi S 891 11 ≤ 5 := hH.c _ _
      have w382 : -1 ≤ Xi S 891 12 ∧ Xi S 891 12 ≤ 23 := hH.c _ _
      have w383 : 0 ≤ Xi S 891 9 ∧ Xi S 891 9 ≤ 24 := hH.c _ _
      refine l_callV rfl rfl rfl (t_to_typeAt hH (Xi S 890 3) ⟨by omega, by omega⟩ _) ?_
      rintro _ _ ⟨rfl, z387, rfl, w387, w384, w385, w386⟩
      clear w385 w386
      show Rl _ _ _ _ _ [iv z387] _ _
      refine l_iconst rfl ?_
      refine l_icmp_ne rfl rfl (by unfold rg; omega) (by unfold rg; omega) (fun w388 => ?_) (fun w389 => ?_)
      · refine l_iconst rfl ?_
        refine l_istore rfl rfl rfl ?_
        refine l_iload rfl rfl ?_
        refine l_if_eq rfl rfl (by unfold rg; omega) (fun w390 => ?_) (fun w391 => absurd w391 (by omega))
        · refine l_iconst rfl ?_
          refine l_istore rfl rfl rfl ?_
          refine l_aload_n rfl rfl ?_
          refine l_gfr rfl rfl rfl rfl rfl (hH.r 891 2 1 rfl) ?_
          refine l_aload_n rfl rfl ?_
          refine l_gfr rfl rfl rfl rfl rfl (hH.r 891 0 876 rfl) ?_
          refine l_gfr rfl rfl rfl rfl rfl (hH.r 876 2 879 rfl) ?_
          refine l_iload_n rfl rfl ?_
          refine l_iload_n rfl rfl ?_
          have w392 : -1 ≤ Xi S 890 3 ∧ Xi S 890 3 ≤ 5124 := hH.c _ _
          have w393 : 0 ≤ Xi S 891 11 ∧ Xi S 891 11 ≤ 5 := hH.c _ _
          have w394 : -1 ≤ Xi S 891 12 ∧ Xi S 891 12 ≤ 23 := hH.c _ _
          have w395 : 0 ≤ Xi S 891 9 ∧ Xi S 891 9 ≤ 24 := hH.c _ _
          refine l_callV rfl rfl rfl (t_vo_meaning hH 879 5130 ((Xi S 890 3) + 2) z378 rfl ⟨by omega, by omega⟩ ⟨by omega, by omega⟩ ⟨by omega, by omega⟩ (by first | assumption | exact (by first | assumption | exact (by assumption : WI S).1 : LEX S)) _) ?_
          rintro _ _ ⟨rfl, z399, rfl, w399, w396, w397, w398⟩
          show Rl _ _ _ _ _ [iv z399] _ _
          have hmnz399 := mOK_n (z := z399) (by assumption)
          refine l_bipush rfl rfl ?_
          refine l_ishr8 rfl (by unfold rg; omega) ?_
          refine l_istore rfl rfl rfl ?_
          refine l_iload rfl rfl ?_
          refine l_iconst rfl ?_
          refine l_icmp_eq rfl rfl (by unfold rg; omega) (by unfold rg; omega) (fun w401 => ?_) (fun w402 => ?_)
          · refine l_iconst rfl ?_
            refine l_goto rfl rfl ?_
            refine l_istore rfl rfl rfl ?_
            refine l_iload rfl rfl ?_
            refine l_if_eq rfl rfl (by unfold rg; omega) (fun w403 => ?_) (fun w404 => absurd w404 (by omega))
            · have w405 : -1 ≤ Xi S 890 3 ∧ Xi S 890 3 ≤ 5124 := hH.c _ _
              have w406 : 0 ≤ Xi S 891 11 ∧ Xi S 891 11 ≤ 5 := hH.c _ _
              have w407 : -1 ≤ Xi S 891 12 ∧ Xi S 891 12 ≤ 23 := hH.c _ _
              have w408 : 0 ≤ Xi S 891 9 ∧ Xi S 891 9 ≤ 24 := hH.c _ _
              exact Rl_weak (C191 S hH hF (1) (((Xi S 890 3) + 2)) (z378) (0) (by omega) (by omega) (by omega) (by omega) (by first | assumption | exact (by assumption : WI S)) (by omega) (by omega)) (And.intro rfl (And.intro rfl (And.intro rfl (And.intro rfl (And.intro rfl (True.intro))))))
          · refine l_iload rfl rfl ?_
            refine l_iconst rfl ?_
            refine l_icmp_ne rfl rfl (by unfold rg; omega) (by unfold rg; omega) (fun w409 => ?_) (fun w410 => ?_)
            · refine l_iconst rfl ?_
              refine l_istore rfl rfl rfl ?_
              refine l_iload rfl rfl ?_
              refine l_if_eq rfl rfl (by unfold rg; omega) (fun w411 => ?_) (fun w412 => absurd w412 (by omega))
              · have w413 : -1 ≤ Xi S 890 3 ∧ Xi S 890 3 ≤ 5124 := hH.c _ _
                have w414 : 0 ≤ Xi S 891 11 ∧ Xi S 891 11 ≤ 5 := hH.c _ _
                have w415 : -1 ≤ Xi S 891 12 ∧ Xi S 891 12 ≤ 23 := hH.c _ _
                have w416 : 0 ≤ Xi S 891 9 ∧ Xi S 891 9 ≤ 24 := hH.c _ _
                exact Rl_weak (C191 S hH hF (1) (((Xi S 890 3) + 2)) (z378) (0) (by omega) (by omega) (by omega) (by omega) (by first | assumption | exact (by assumption : WI S)) (by omega) (by omega)) (And.intro rfl (And.intro rfl (And.intro rfl (And.intro rfl (And.intro rfl (True.intro))))))
            · refine l_iconst rfl ?_
              refine l_goto rfl rfl ?_
              refine l_istore rfl rfl rfl ?_
              refine l_iload rfl rfl ?_
              refine l_if_eq rfl rfl (by unfold rg; omega) (fun w417 => ?_) (fun w418 => absurd w418 (by omega))
              · have w419 : -1 ≤ Xi S 890 3 ∧ Xi S 890 3 ≤ 5124 := hH.c _ _
                have w420 : 0 ≤ Xi S 891 11 ∧ Xi S 891 11 ≤ 5 := hH.c _ _
                have w421 : -1 ≤ Xi S 891 12 ∧ Xi S 891 12 ≤ 23 := hH.c _ _
                have w422 : 0 ≤ Xi S 891 9 ∧ Xi S 891 9 ≤ 24 := hH.c _ _
                exact Rl_weak (C191 S hH hF (1) (((Xi S 890 3) + 2)) (z378) (0) (by omega) (by omega) (by omega) (by omega) (by first | assumption | exact (by assumption : WI S)) (by omega) (by omega)) (And.intro rfl (And.intro rfl (And.intro rfl (And.intro rfl (And.intro rfl (True.intro))))))
      · refine l_iload_n rfl rfl ?_
        refine l_if_ne rfl rfl (by unfold rg; omega) (fun w423 => ?_) (fun w424 => absurd w424 (by omega))
        · refine l_iconst rfl ?_
          refine l_istore rfl rfl rfl ?_
          refine l_iload rfl rfl ?_
          refine l_if_eq rfl rfl (by unfold rg; omega) (fun w425 => ?_) (fun w426 => absurd w426 (by omega))
          · refine l_iconst rfl ?_
            refine l_istore rfl rfl rfl ?_
            refine l_aload_n rfl rfl ?_
            refine l_gfr rfl rfl rfl rfl rfl (hH.r 891 2 1 rfl) ?_
            refine l_aload_n rfl rfl ?_
            refine l_gfr rfl rfl rfl rfl rfl (hH.r 891 0 876 rfl) ?_
            refine l_gfr rfl rfl rfl rfl rfl (hH.r 876 2 879 rfl) ?_
            refine l_iload_n rfl rfl ?_
            refine l_iload_n rfl rfl ?_
            have w427 : -1 ≤ Xi S 890 3 ∧ Xi S 890 3 ≤ 5124 := hH.c _ _
            have w428 : 0 ≤ Xi S 891 11 ∧ Xi S 891 11 ≤ 5 := hH.c _ _
            have w429 : -1 ≤ Xi S 891 12 ∧ Xi S 891 12 ≤ 23 := hH.c _ _
            have w430 : 0 ≤ Xi S 891 9 ∧ Xi S 891 9 ≤ 24 := hH.c _ _
            refine l_callV rfl rfl rfl (t_vo_meaning hH 879 5130 ((Xi S 890 3) + 2) z378 rfl ⟨by omega, by omega⟩ ⟨by omega, by omega⟩ ⟨by omega, by omega⟩ (by first | assumption | exact (by first | assumption | exact (by assumption : WI S).1 : LEX S)) _) ?_
            rintro _ _ ⟨rfl, z434, rfl, w434, w431, w432, w433⟩
            show Rl _ _ _ _ _ [iv z434] _ _
            have hmnz434 := mOK_n (z := z434) (by assumption)
            refine l_bipush rfl rfl ?_
            refine l_ishr8 rfl (by unfold rg; omega) ?_
            refine l_istore rfl rfl rfl ?_
            refine l_iload rfl rfl ?_
            refine l_iconst rfl ?_
            refine l_icmp_eq rfl rfl (by unfold rg; omega) (by unfold rg; omega) (fun w436 => ?_) (fun w437 => ?_)
            · refine l_iconst rfl ?_
              refine l_goto rfl rfl ?_
              refine l_istore rfl rfl rfl ?_
              refine l_iload rfl rfl ?_
              refine l_if_eq rfl rfl (by unfold rg; omega) (fun w438 => ?_) (fun w439 => absurd w439 (by omega))
              · have w440 : -1 ≤ Xi S 890 3 ∧ Xi S 890 3 ≤ 5124 := hH.c _ _
                have w441 : 0 ≤ Xi S 891 11 ∧ Xi S 891 11 ≤ 5 := hH.c _ _
                have w442 : -1 ≤ Xi S 891 12 ∧ Xi S 891 12 ≤ 23 := hH.c _ _
                have w443 : 0 ≤ Xi S 891 9 ∧ Xi S 891 9 ≤ 24 := hH.c _ _
                exact Rl_weak (C191 S hH hF (1) (((Xi S 890 3) + 2)) (z378) (0) (by omega) (by omega) (by omega) (by omega) (by first | assumption | exact (by assumption : WI S)) (by omega) (by omega)) (And.intro rfl (And.intro rfl (And.intro rfl (And.intro rfl (And.intro rfl (True.intro))))))
            · refine l_iload rfl rfl ?_
              refine l_iconst rfl ?_
              refine l_icmp_ne rfl rfl (by unfold rg; omega) (by unfold rg; omega) (fun w444 => ?_) (fun w445 => ?_)
              · refine l_iconst rfl ?_
                refine l_istore rfl rfl rfl ?_
                refine l_iload rfl rfl ?_
                refine l_if_eq rfl rfl (by unfold rg; omega) (fun w446 => ?_) (fun w447 => absurd w447 (by omega))
                · have w448 : -1 ≤ Xi S 890 3 ∧ Xi S 890 3 ≤ 5124 := hH.c _ _
                  have w449 : 0 ≤ Xi S 891 11 ∧ Xi S 891 11 ≤ 5 := hH.c _ _
                  have w450 : -1 ≤ Xi S 891 12 ∧ Xi S 891 12 ≤ 23 := hH.c _ _
                  have w451 : 0 ≤ Xi S 891 9 ∧ Xi S 891 9 ≤ 24 := hH.c _ _
                  exact Rl_weak (C191 S hH hF (1) (((Xi S 890 3) + 2)) (z378) (0) (by omega) (by omega) (by omega) (by omega) (by first | assumption | exact (by assumption : WI S)) (by omega) (by omega)) (And.intro rfl (And.intro rfl (And.intro rfl (And.intro rfl (And.intro rfl (True.intro))))))
              · refine l_iconst rfl ?_
                refine l_goto rfl rfl ?_
                refine l_istore rfl rfl rfl ?_
                refine l_iload rfl rfl ?_
                refine l_if_eq rfl rfl (by unfold rg; omega) (fun w452 => ?_) (fun w453 => absurd w453 (by omega))
                · have w454 : -1 ≤ Xi S 890 3 ∧ Xi S 890 3 ≤ 5124 := hH.c _ _
                  have w455 : 0 ≤ Xi S 891 11 ∧ Xi S 891 11 ≤ 5 := hH.c _ _
                  have w456 : -1 ≤ Xi S 891 12 ∧ Xi S 891 12 ≤ 23 := hH.c _ _
                  have w457 : 0 ≤ Xi S 891 9 ∧ Xi S 891 9 ≤ 24 := hH.c _ _
                  exact Rl_weak (C191 S hH hF (1) (((Xi S 890 3) + 2)) (z378) (0) (by omega) (by omega) (by omega) (by omega) (by first | assumption | exact (by assumption : WI S)) (by omega) (by omega)) (And.intro rfl (And.intro rfl (And.intro rfl (And.intro rfl (And.intro rfl (True.intro))))))

