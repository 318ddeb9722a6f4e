/-! SAFETY of methods: printed by wip/safe (vc.py, decl.py) -/
def md_mo_meant : List rec := [(904, 905, 104, 105), (904, 905, 105, 106), (904, 905, 106, 107)]
abbrev Q_mo_meant (S : sS) (n : Nat) (td : Int) (rn : Int) : pst := fun r S1 => HI S1 ∧ FR md_mo_meant S S1 ∧ (∃ z : Int, r = some (iv z) ∧ (-9 ≤ z ∧ z ≤ 23) ∧ (z ≠ -9 → z ≠ -1 → z ≠ -2 → 0 ≤ z ∧ z < Xi S 904 19) ∧ (z = -1 → 0 ≤ Xi S1 904 115) ∧ (z = -2 → 0 ≤ Xi S1 904 116) ∧ (z = -9 → Xi S1 904 106 ≠ 0) ∧ (Xi S 904 106 ≠ 0 → Xi S1 904 106 ≠ 0))
set_option maxRecDepth 100000 in
theorem t_mo_meant {S : sS} (hH : HI S) (n : Nat) (td : Int) (rn : Int) (htd : 0 ≤ td ∧ td ≤ 25010) (hrn : -1 ≤ rn ∧ rn ≤ 2600) (hT : TK S n) (hv : RNV S n) (hrr : 20000 ≤ td → 0 ≤ rn ∧ rn < Xi S 904 69) (ht : td % 10000 ≤ 5001) (hM : LXM S) (d : Nat) : Mt lay0 (d + 5) m_mo_meant [.ref 904, iv td, iv rn] S (Q_mo_meant S n td rn) := by
  refine Mt_R rfl rfl ?_
  have hF : FR md_mo_meant S S := FR.rf
  have w1 : 0 ≤ Xi S 904 106 ∧ Xi S 904 106 ≤ 9 := hH.c _ _
  have w2 : 0 ≤ Xi S 904 19 ∧ Xi S 904 19 ≤ 24 := hH.c _ _
  have w3 : 0 ≤ Xi S 904 69 ∧ Xi S 904 69 ≤ 2600 := hH.c _ _
  have hc69 : 0 ≤ Xi S 904 69 ∧ Xi S 904 69 ≤ 2600 := hH.c _ _
  have hc19 : 0 ≤ Xi S 904 19 ∧ Xi S 904 19 ≤ 24 := hH.c _ _
  refine l_iload_n rfl rfl ?_
  refine l_sipush rfl rfl ?_
  refine l_idivP rfl (by omega) (by omega) (by unfold rg; omega) (by unfold rg; omega) ?_
  refine l_istore_n rfl rfl rfl ?_
  refine l_iload_n rfl rfl ?_
  refine l_sipush rfl rfl ?_
  refine l_iremP rfl (by omega) (by omega) (by unfold rg; omega) (by unfold rg; omega) ?_
  refine l_istore rfl rfl rfl ?_
  refine l_iload_n rfl rfl ?_
  refine l_if_ne rfl rfl (by unfold rg; omega) (fun w6 => ?_) (fun w7 => ?_)
  · refine l_iload_n rfl rfl ?_
    refine l_iconst rfl ?_
    refine l_icmp_ne rfl rfl (by unfold rg; omega) (by unfold rg; omega) (fun w8 => ?_) (fun w9 => ?_)
    · refine l_aload_n rfl rfl ?_
      refine l_iload_n rfl rfl ?_
      refine l_iconst rfl ?_
      have w10 : -1 ≤ Xi S 904 115 ∧ Xi S 904 115 ≤ 15 := hH.c _ _
      have w11 : -1 ≤ Xi S 904 116 ∧ Xi S 904 116 ≤ 15 := hH.c _ _
      have w12 : 0 ≤ Xi S 904 19 ∧ Xi S 904 19 ≤ 24 := hH.c _ _
      have w13 : 0 ≤ Xi S 904 69 ∧ Xi S 904 69 ≤ 2600 := hH.c _ _
      refine l_callV rfl rfl rfl (t_mo_meansRun hH n rn 4 ⟨by omega, by omega⟩ ⟨by omega, by omega⟩ (by first | assumption | exact (TK_FR hF rfl (by assumption : TK S _))) (by first | assumption | exact (RNV_FR hF rfl (by assumption : RNV S _))) (by first | assumption | omega) (by first | assumption | exact (LXM_FR hF rfl (by assumption : LXM S))) _) ?_
      rintro _ _ ⟨rfl, z15, rfl, w15, w14⟩
      show Rl _ _ _ _ _ [iv z15] _ _
      have x60 : z15 ≠ -1 → z15 < Xi S 904 19 := fun q => by have t := (by assumption : z15 ≠ -1 → z15 < cM S 4) q; rw [cM4] at t; exact t
      refine l_istore rfl rfl rfl ?_
      refine l_iload_n rfl rfl ?_
      refine l_iconst rfl ?_
      refine l_icmp_ne rfl rfl (by unfold rg; omega) (by unfold rg; omega) (fun w16 => ?_) (fun w17 => ?_)
      · refine l_iload rfl rfl ?_
        refine l_istore rfl rfl rfl ?_
        refine l_aload_n rfl rfl ?_
        refine l_iload rfl rfl ?_
        refine l_bipush rfl rfl ?_
        refine l_icmp_eq rfl rfl (by unfold rg; omega) (by unfold rg; omega) (fun w18 => ?_) (fun w19 => ?_)
        · refine l_iconst rfl ?_
          refine l_iconst rfl ?_
          refine l_iload rfl rfl ?_
          have w20 : 0 ≤ Xi S 904 106 ∧ Xi S 904 106 ≤ 9 := hH.c _ _
          have w21 : -1 ≤ Xi S 904 115 ∧ Xi S 904 115 ≤ 15 := hH.c _ _
          have w22 : -1 ≤ Xi S 904 116 ∧ Xi S 904 116 ≤ 15 := hH.c _ _
          have w23 : 0 ≤ Xi S 904 19 ∧ Xi S 904 19 ≤ 24 := hH.c _ _
          refine l_callV rfl rfl rfl (t_mo_need hH 0 4 (td % 10000) ⟨by omega, by omega⟩ ⟨by omega, by omega⟩ ⟨by omega, by omega⟩ _) ?_
          rintro _ T1 ⟨hHT1, w27, rfl, w24, w25⟩
          have hFT1 : FR md_mo_meant S T1 := FR.tr hF w27 rfl
          show Rl _ _ _ _ _ [] _ _
          refine l_iload rfl rfl ?_
          refine l_ireturn rfl rfl ?_
          have w28 : 0 ≤ Xi T1 904 106 ∧ Xi T1 904 106 ≤ 9 := hHT1.c _ _
          have w29 : Xi T1 904 115 = Xi S 904 115 := (show Xi T1 904 115 = Xi S 904 115 from w27.x _ _ rfl)
          have w30 : -1 ≤ Xi S 904 115 ∧ Xi S 904 115 ≤ 15 := hH.c _ _
          have w31 : Xi T1 904 116 = Xi S 904 116 := (show Xi T1 904 116 = Xi S 904 116 from w27.x _ _ rfl)
          have w32 : -1 ≤ Xi S 904 116 ∧ Xi S 904 116 ≤ 15 := hH.c _ _
          have w33 : Xi T1 904 19 = Xi S 904 19 := (show Xi T1 904 19 = Xi S 904 19 from w27.x _ _ rfl)
          have w34 : 0 ≤ Xi S 904 19 ∧ Xi S 904 19 ≤ 24 := hH.c _ _
          exact ⟨hHT1, hFT1, _, rfl, ⟨by omega, by omega⟩, (by omega), (by omega), (by omega), (by omega), (by omega)⟩
        · refine l_iconst rfl ?_
          refine l_goto rfl rfl ?_
          refine l_iconst rfl ?_
          refine l_iload rfl rfl ?_
          have w35 : 0 ≤ Xi S 904 106 ∧ Xi S 904 106 ≤ 9 := hH.c _ _
          have w36 : -1 ≤ Xi S 904 115 ∧ Xi S 904 115 ≤ 15 := hH.c _ _
          have w37 : -1 ≤ Xi S 904 116 ∧ Xi S 904 116 ≤ 15 := hH.c _ _
          have w38 : 0 ≤ Xi S 904 19 ∧ Xi S 904 19 ≤ 24 := hH.c _ _
          refine l_callV rfl rfl rfl (t_mo_need hH 1 4 (td % 10000) ⟨by omega, by omega⟩ ⟨by omega, by omega⟩ ⟨by omega, by omega⟩ _) ?_
          rintro _ T2 ⟨hHT2, w42, rfl, w39, w40⟩
          have hFT2 : FR md_mo_meant S T2 := FR.tr hF w42 rfl
          show Rl _ _ _ _ _ [] _ _
          refine l_iload rfl rfl ?_
          refine l_ireturn rfl rfl ?_
          have w43 : 0 ≤ Xi T2 904 106 ∧ Xi T2 904 106 ≤ 9 := hHT2.c _ _
          have w44 : Xi T2 904 115 = Xi S 904 115 := (show Xi T2 904 115 = Xi S 904 115 from w42.x _ _ rfl)
          have w45 : -1 ≤ Xi S 904 115 ∧ Xi S 904 115 ≤ 15 := hH.c _ _
          have w46 : Xi T2 904 116 = Xi S 904 116 := (show Xi T2 904 116 = Xi S 904 116 from w42.x _ _ rfl)
          have w47 : -1 ≤ Xi S 904 116 ∧ Xi S 904 116 ≤ 15 := hH.c _ _
          have w48 : Xi T2 904 19 = Xi S 904 19 := (show Xi T2 904 19 = Xi S 904 19 from w42.x _ _ rfl)
          have w49 : 0 ≤ Xi S 904 19 ∧ Xi S 904 19 ≤ 24 := hH.c _ _
          exact ⟨hHT2, hFT2, _, rfl, ⟨by omega, by omega⟩, (by omega), (by omega), (by omega), (by omega), (by omega)⟩
      · refine l_iload rfl rfl ?_
        refine l_iconst rfl ?_
        refine l_icmp_ne rfl rfl (by unfold rg; omega) (by unfold rg; omega) (fun w50 => ?_) (fun w51 => ?_)
        · refine l_iload rfl rfl ?_
          refine l_istore rfl rfl rfl ?_
          refine l_aload_n rfl rfl ?_
          refine l_iload rfl rfl ?_
          refine l_bipush rfl rfl ?_
          refine l_icmp_eq rfl rfl (by unfold rg; omega) (by unfold rg; omega) (fun w52 => ?_) (fun w53 => ?_)
          · refine l_iconst rfl ?_
            refine l_iconst rfl ?_
            refine l_iload rfl rfl ?_
            have w54 : 0 ≤ Xi S 904 106 ∧ Xi S 904 106 ≤ 9 := hH.c _ _
            have w55 : -1 ≤ Xi S 904 115 ∧ Xi S 904 115 ≤ 15 := hH.c _ _
            have w56 : -1 ≤ Xi S 904 116 ∧ Xi S 904 116 ≤ 15 := hH.c _ _
            have w57 : 0 ≤ Xi S 904 19 ∧ Xi S 904 19 ≤ 24 := hH.c _ _
            refine l_callV rfl rfl rfl (t_mo_need hH 0 4 (td % 10000) ⟨by omega, by omega⟩ ⟨by omega, by omega⟩ ⟨by omega, by omega⟩ _) ?_
            rintro _ T3 ⟨hHT3, w61, rfl, w58, w59⟩
            have hFT3 : FR md_mo_meant S T3 := FR.tr hF w61 rfl
            show Rl _ _ _ _ _ [] _ _
            refine l_iload rfl rfl ?_
            refine l_ireturn rfl rfl ?_
            have w62 : 0 ≤ Xi T3 904 106 ∧ Xi T3 904 106 ≤ 9 := hHT3.c _ _
            have w63 : Xi T3 904 115 = Xi S 904 115 := (show Xi T3 904 115 = Xi S 904 115 from w61.x _ _ rfl)
            have w64 : -1 ≤ Xi S 904 115 ∧ Xi S 904 115 ≤ 15 := hH.c _ _
            have w65 : Xi T3 904 116 = Xi S 904 116 := (show Xi T3 904 116 = Xi S 904 116 from w61.x _ _ rfl)
            have w66 : -1 ≤ Xi S 904 116 ∧ Xi S 904 116 ≤ 15 := hH.c _ _
            have w67 : Xi T3 904 19 = Xi S 904 19 := (show Xi T3 904 19 = Xi S 904 19 from w61.x _ _ rfl)
            have w68 : 0 ≤ Xi S 904 19 ∧ Xi S 904 19 ≤ 24 := hH.c _ _
            exact ⟨hHT3, hFT3, _, rfl, ⟨by omega, by omega⟩, (by omega), (by omega), (by omega), (by omega), (by omega)⟩
          · refine l_iconst rfl ?_
            refine l_goto rfl rfl ?_
            refine l_iconst rfl ?_
            refine l_iload rfl rfl ?_
            have w69 : 0 ≤ Xi S 904 106 ∧ Xi S 904 106 ≤ 9 := hH.c _ _
            have w70 : -1 ≤ Xi S 904 115 ∧ Xi S 904 115 ≤ 15 := hH.c _ _
            have w71 : -1 ≤ Xi S 904 116 ∧ Xi S 904 116 ≤ 15 := hH.c _ _
            have w72 : 0 ≤ Xi S 904 19 ∧ Xi S 904 19 ≤ 24 := hH.c _ _
            refine l_callV rfl rfl rfl (t_mo_need hH 1 4 (td % 10000) ⟨by omega, by omega⟩ ⟨by omega, by omega⟩ ⟨by omega, by omega⟩ _) ?_
            rintro _ T4 ⟨hHT4, w76, rfl, w73, w74⟩
            have hFT4 : FR md_mo_meant S T4 := FR.tr hF w76 rfl
            show Rl _ _ _ _ _ [] _ _
            refine l_iload rfl rfl ?_
            refine l_ireturn rfl rfl ?_
            have w77 : 0 ≤ Xi T4 904 106 ∧ Xi T4 904 106 ≤ 9 := hHT4.c _ _
            have w78 : Xi T4 904 115 = Xi S 904 115 := (show Xi T4 904 115 = Xi S 904 115 from w76.x _ _ rfl)
            have w79 : -1 ≤ Xi S 904 115 ∧ Xi S 904 115 ≤ 15 := hH.c _ _
            have w80 : Xi T4 904 116 = Xi S 904 116 := (show Xi T4 904 116 = Xi S 904 116 from w76.x _ _ rfl)
            have w81 : -1 ≤ Xi S 904 116 ∧ Xi S 904 116 ≤ 15 := hH.c _ _
            have w82 : Xi T4 904 19 = Xi S 904 19 := (show Xi T4 904 19 = Xi S 904 19 from w76.x _ _ rfl)
            have w83 : 0 ≤ Xi S 904 19 ∧ Xi S 904 19 ≤ 24 := hH.c _ _
            exact ⟨hHT4, hFT4, _, rfl, ⟨by omega, by omega⟩, (by omega), (by omega), (by omega), (by omega), (by omega)⟩
        · refine l_bipush rfl rfl ?_
          refine l_goto rfl rfl ?_
          refine l_istore rfl rfl rfl ?_
          refine l_aload_n rfl rfl ?_
          refine l_iload rfl rfl ?_
          refine l_bipush rfl rfl ?_
          refine l_icmp_eq rfl rfl (by unfold rg; omega) (by unfold rg; omega) (fun w84 => ?_) (fun w85 => absurd w85 (by omega))
          · refine l_iconst rfl ?_
            refine l_iconst rfl ?_
            refine l_iload rfl rfl ?_
            have w86 : 0 ≤ Xi S 904 106 ∧ Xi S 904 106 ≤ 9 := hH.c _ _
            have w87 : -1 ≤ Xi S 904 115 ∧ Xi S 904 115 ≤ 15 := hH.c _ _
            have w88 : -1 ≤ Xi S 904 116 ∧ Xi S 904 116 ≤ 15 := hH.c _ _
            have w89 : 0 ≤ Xi S 904 19 ∧ Xi S 904 19 ≤ 24 := hH.c _ _
            refine l_callV rfl rfl rfl (t_mo_need hH 0 4 (td % 10000) ⟨by omega, by omega⟩ ⟨by omega, by omega⟩ ⟨by omega, by omega⟩ _) ?_
            rintro _ T5 ⟨hHT5, w93, rfl, w90, w91⟩
            have hFT5 : FR md_mo_meant S T5 := FR.tr hF w93 rfl
            show Rl _ _ _ _ _ [] _ _
            refine l_iload rfl rfl ?_
            refine l_ireturn rfl rfl ?_
            have w94 : 0 ≤ Xi T5 904 106 ∧ Xi T5 904 106 ≤ 9 := hHT5.c _ _
            have w95 : Xi T5 904 115 = Xi S 904 115 := (show Xi T5 904 115 = Xi S 904 115 from w93.x _ _ rfl)
            have w96 : -1 ≤ Xi S 904 115 ∧ Xi S 904 115 ≤ 15 := hH.c _ _
            have w97 : Xi T5 904 116 = Xi S 904 116 := (show Xi T5 904 116 = Xi S 904 116 from w93.x _ _ rfl)
            have w98 : -1 ≤ Xi S 904 116 ∧ Xi S 904 116 ≤ 15 := hH.c _ _
            have w99 : Xi T5 904 19 = Xi S 904 19 := (show Xi T5 904 19 = Xi S 904 19 from w93.x _ _ rfl)
            have w100 : 0 ≤ Xi S 904 19 ∧ Xi S 904 19 ≤ 24 := hH.c _ _
            exact ⟨hHT5, hFT5, _, rfl, ⟨by omega, by omega⟩, (by omega), (by omega), (by omega), (by omega), (by omega)⟩
    · refine l_aload_n rfl rfl ?_
      refine l_gfi rfl rfl rfl rfl rfl ?_
      have w101 : -1 ≤ (Xi S 904 116) ∧ (Xi S 904 116) ≤ 15 := hH.c _ _
      refine l_iconst rfl ?_
      refine l_icmp_ne rfl rfl (by unfold rg; omega) (by unfold rg; omega) (fun w102 => ?_) (fun w103 => ?_)
      · refine l_bipush rfl rfl ?_
        refine l_goto rfl rfl ?_
        refine l_istore rfl rfl rfl ?_
        refine l_iload_n rfl rfl ?_
        refine l_iconst rfl ?_
        refine l_icmp_ne rfl rfl (by unfold rg; omega) (by unfold rg; omega) (fun w104 => ?_) (fun w105 => ?_)
        · refine l_iload rfl rfl ?_
          refine l_istore rfl rfl rfl ?_
          refine l_aload_n rfl rfl ?_
          refine l_iload rfl rfl ?_
          refine l_bipush rfl rfl ?_
          refine l_icmp_eq rfl rfl (by unfold rg; omega) (by unfold rg; omega) (fun w106 => absurd w106 (by omega)) (fun w107 => ?_)
          · refine l_iconst rfl ?_
            refine l_goto rfl rfl ?_
            refine l_iconst rfl ?_
            refine l_iload rfl rfl ?_
            have w108 : 0 ≤ Xi S 904 106 ∧ Xi S 904 106 ≤ 9 := hH.c _ _
            have w109 : -1 ≤ Xi S 904 115 ∧ Xi S 904 115 ≤ 15 := hH.c _ _
            have w110 : -1 ≤ Xi S 904 116 ∧ Xi S 904 116 ≤ 15 := hH.c _ _
            have w111 : 0 ≤ Xi S 904 19 ∧ Xi S 904 19 ≤ 24 := hH.c _ _
            refine l_callV rfl rfl rfl (t_mo_need hH 1 4 (td % 10000) ⟨by omega, by omega⟩ ⟨by omega, by omega⟩ ⟨by omega, by omega⟩ _) ?_
            rintro _ T6 ⟨hHT6, w115, rfl, w112, w113⟩
            have hFT6 : FR md_mo_meant S T6 := FR.tr hF w115 rfl
            show Rl _ _ _ _ _ [] _ _
            refine l_iload rfl rfl ?_
            refine l_ireturn rfl rfl ?_
            have w116 : 0 ≤ Xi T6 904 106 ∧ Xi T6 904 106 ≤ 9 := hHT6.c _ _
            have w117 : Xi T6 904 115 = Xi S 904 115 := (show Xi T6 904 115 = Xi S 904 115 from w115.x _ _ rfl)
            have w118 : -1 ≤ Xi S 904 115 ∧ Xi S 904 115 ≤ 15 := hH.c _ _
            have w119 : Xi T6 904 116 = Xi S 904 116 := (show Xi T6 904 116 = Xi S 904 116 from w115.x _ _ rfl)
            have w120 : -1 ≤ Xi S 904 116 ∧ Xi S 904 116 ≤ 15 := hH.c _ _
            have w121 : Xi T6 904 19 = Xi S 904 19 := (show Xi T6 904 19 = Xi S 904 19 from w115.x _ _ rfl)
            have w122 : 0 ≤ Xi S 904 19 ∧ Xi S 904 19 ≤ 24 := hH.c _ _
            exact ⟨hHT6, hFT6, _, rfl, ⟨by omega, by omega⟩, (by omega), (by omega), (by omega), (by omega), (by omega)⟩
        · refine l_iload rfl rfl ?_
          refine l_iconst rfl ?_
          refine l_icmp_ne rfl rfl (by unfold rg; omega) (by unfold rg; omega) (fun w123 => ?_) (fun w124 => absurd w124 (by omega))
          · refine l_iload rfl rfl ?_
            refine l_istore rfl rfl rfl ?_
            refine l_aload_n rfl rfl ?_
            refine l_iload rfl rfl ?_
            refine l_bipush rfl rfl ?_
            refine l_icmp_eq rfl rfl (by unfold rg; omega) (by unfold rg; omega) (fun w125 => absurd w125 (by omega)) (fun w126 => ?_)
            · refine l_iconst rfl ?_
              refine l_goto rfl rfl ?_
              refine l_iconst rfl ?_
              refine l_iload rfl rfl ?_
              have w127 : 0 ≤ Xi S 904 106 ∧ Xi S 904 106 ≤ 9 := hH.c _ _
              have w128 : -1 ≤ Xi S 904 115 ∧ Xi S 904 115 ≤ 15 := hH.c _ _
              have w129 : -1 ≤ Xi S 904 116 ∧ Xi S 904 116 ≤ 15 := hH.c _ _
              have w130 : 0 ≤ Xi S 904 19 ∧ Xi S 904 19 ≤ 24 := hH.c _ _
              refine l_callV rfl rfl rfl (t_mo_need hH 1 4 (td % 10000) ⟨by omega, by omega⟩ ⟨by omega, by omega⟩ ⟨by omega, by omega⟩ _) ?_
              rintro _ T7 ⟨hHT7, w134, rfl, w131, w132⟩
              have hFT7 : FR md_mo_meant S T7 := FR.tr hF w134 rfl
              show Rl _ _ _ _ _ [] _ _
              refine l_iload rfl rfl ?_
              refine l_ireturn rfl rfl ?_
              have w135 : 0 ≤ Xi T7 904 106 ∧ Xi T7 904 106 ≤ 9 := hHT7.c _ _
              have w136 : Xi T7 904 115 = Xi S 904 115 := (show Xi T7 904 115 = Xi S 904 115 from w134.x _ _ rfl)
              have w137 : -1 ≤ Xi S 904 115 ∧ Xi S 904 115 ≤ 15 := hH.c _ _
              have w138 : Xi T7 904 116 = Xi S 904 116 := (show Xi T7 904 116 = Xi S 904 116 from w134.x _ _ rfl)
              have w139 : -1 ≤ Xi S 904 116 ∧ Xi S 904 116 ≤ 15 := hH.c _ _
              have w140 : Xi T7 904 19 = Xi S 904 19 := (show Xi T7 904 19 = Xi S 904 19 from w134.x _ _ rfl)
              have w141 : 0 ≤ Xi S 904 19 ∧ Xi S 904 19 ≤ 24 := hH.c _ _
              exact ⟨hHT7, hFT7, _, rfl, ⟨by omega, by omega⟩, (by omega), (by omega), (by omega), (by omega), (by omega)⟩
      · refine l_bipush rfl rfl ?_
        refine l_goto rfl rfl ?_
        refine l_istore rfl rfl rfl ?_
        refine l_iload_n rfl rfl ?_
        refine l_iconst rfl ?_
        refine l_icmp_ne rfl rfl (by unfold rg; omega) (by unfold rg; omega) (fun w142 => ?_) (fun w143 => ?_)
        · refine l_iload rfl rfl ?_
          refine l_istore rfl rfl rfl ?_
          refine l_aload_n rfl rfl ?_
          refine l_iload rfl rfl ?_
          refine l_bipush rfl rfl ?_
          refine l_icmp_eq rfl rfl (by unfold rg; omega) (by unfold rg; omega) (fun w144 => ?_) (fun w145 => absurd w145 (by omega))
          · refine l_iconst rfl ?_
            refine l_iconst rfl ?_
            refine l_iload rfl rfl ?_
            have w146 : 0 ≤ Xi S 904 106 ∧ Xi S 904 106 ≤ 9 := hH.c _ _
            have w147 : -1 ≤ Xi S 904 115 ∧ Xi S 904 115 ≤ 15 := hH.c _ _
            have w148 : -1 ≤ Xi S 904 116 ∧ Xi S 904 116 ≤ 15 := hH.c _ _
            have w149 : 0 ≤ Xi S 904 19 ∧ Xi S 904 19 ≤ 24 := hH.c _ _
            refine l_callV rfl rfl rfl (t_mo_need hH 0 4 (td % 10000) ⟨by omega, by omega⟩ ⟨by omega, by omega⟩ ⟨by omega, by omega⟩ _) ?_
            rintro _ T8 ⟨hHT8, w153, rfl, w150, w151⟩
            have hFT8 : FR md_mo_meant S T8 := FR.tr hF w153 rfl
            show Rl _ _ _ _ _ [] _ _
            refine l_iload rfl rfl ?_
            refine l_ireturn rfl rfl ?_
            have w154 : 0 ≤ Xi T8 904 106 ∧ Xi T8 904 106 ≤ 9 := hHT8.c _ _
            have w155 : Xi T8 904 115 = Xi S 904 115 := (show Xi T8 904 115 = Xi S 904 115 from w153.x _ _ rfl)
            have w156 : -1 ≤ Xi S 904 115 ∧ Xi S 904 115 ≤ 15 := hH.c _ _
            have w157 : Xi T8 904 116 = Xi S 904 116 := (show Xi T8 904 116 = Xi S 904 116 from w153.x _ _ rfl)
            have w158 : -1 ≤ Xi S 904 116 ∧ Xi S 904 116 ≤ 15 := hH.c _ _
            have w159 : Xi T8 904 19 = Xi S 904 19 := (show Xi T8 904 19 = Xi S 904 19 from w153.x _ _ rfl)
            have w160 : 0 ≤ Xi S 904 19 ∧ Xi S 904 19 ≤ 24 := hH.c _ _
            exact ⟨hHT8, hFT8, _, rfl, ⟨by omega, by omega⟩, (by omega), (by omega), (by omega), (by omega), (by omega)⟩
        · refine l_iload rfl rfl ?_
          refine l_iconst rfl ?_
          refine l_icmp_ne rfl rfl (by unfold rg; omega) (by unfold rg; omega) (fun w161 => ?_) (fun w162 => absurd w162 (by omega))
          · refine l_iload rfl rfl ?_
            refine l_istore rfl rfl rfl ?_
            refine l_aload_n rfl rfl ?_
            refine l_iload rfl rfl ?_
            refine l_bipush rfl rfl ?_
            refine l_icmp_eq rfl rfl (by unfold rg; omega) (by unfold rg; omega) (fun w163 => ?_) (fun w164 => absurd w164 (by omega))
            · refine l_iconst rfl ?_
              refine l_iconst rfl ?_
              refine l_iload rfl rfl ?_
              have w165 : 0 ≤ Xi S 904 106 ∧ Xi S 904 106 ≤ 9 := hH.c _ _
              have w166 : -1 ≤ Xi S 904 115 ∧ Xi S 904 115 ≤ 15 := hH.c _ _
              have w167 : -1 ≤ Xi S 904 116 ∧ Xi S 904 116 ≤ 15 := hH.c _ _
              have w168 : 0 ≤ Xi S 904 19 ∧ Xi S 904 19 ≤ 24 := hH.c _ _
              refine l_callV rfl rfl rfl (t_mo_need hH 0 4 (td % 10000) ⟨by omega, by omega⟩ ⟨by omega, by omega⟩ ⟨by omega, by omega⟩ _) ?_
              rintro _ T9 ⟨hHT9, w172, rfl, w169, w170⟩
              have hFT9 : FR md_mo_meant S T9 := FR.tr hF w172 rfl
              show Rl _ _ _ _ _ [] _ _
              refine l_iload rfl rfl ?_
              refine l_ireturn rfl rfl ?_
              have w173 : 0 ≤ Xi T9 904 106 ∧ Xi T9 904 106 ≤ 9 := hHT9.c _ _
              have w174 : Xi T9 904 115 = Xi S 904 115 := (show Xi T9 904 115 = Xi S 904 115 from w172.x _ _ rfl)
              have w175 : -1 ≤ Xi S 904 115 ∧ Xi S 904 115 ≤ 15 := hH.c _ _
              have w176 : Xi T9 904 116 = Xi S 904 116 := (show Xi T9 904 116 = Xi S 904 116 from w172.x _ _ rfl)
              have w177 : -1 ≤ Xi S 904 116 ∧ Xi S 904 116 ≤ 15 := hH.c _ _
              have w178 : Xi T9 904 19 = Xi S 904 19 := (show Xi T9 904 19 = Xi S 904 19 from w172.x _ _ rfl)
              have w179 : 0 ≤ Xi S 904 19 ∧ Xi S 904 19 ≤ 24 := hH.c _ _
              exact ⟨hHT9, hFT9, _, rfl, ⟨by omega, by omega⟩, (by omega), (by omega), (by omega), (by omega), (by omega)⟩
  · refine l_aload_n rfl rfl ?_
    refine l_gfi rfl rfl rfl rfl rfl ?_
    have w180 : -1 ≤ (Xi S 904 115) ∧ (Xi S 904 115) ≤ 15 := hH.c _ _
    refine l_iconst rfl ?_
    refine l_icmp_ne rfl rfl (by unfold rg; omega) (by unfold rg; omega) (fun w181 => ?_) (fun w182 => ?_)
    · refine l_iconst rfl ?_
      refine l_goto rfl rfl ?_
      refine l_istore rfl rfl rfl ?_
      refine l_iload_n rfl rfl ?_
      refine l_iconst rfl ?_
      refine l_icmp_ne rfl rfl (by unfold rg; omega) (by unfold rg; omega) (fun w183 => ?_) (fun w184 => ?_)
      · refine l_iload rfl rfl ?_
        refine l_istore rfl rfl rfl ?_
        refine l_aload_n rfl rfl ?_
        refine l_iload rfl rfl ?_
        refine l_bipush rfl rfl ?_
        refine l_icmp_eq rfl rfl (by unfold rg; omega) (by unfold rg; omega) (fun w185 => absurd w185 (by omega)) (fun w186 => ?_)
        · refine l_iconst rfl ?_
          refine l_goto rfl rfl ?_
          refine l_iconst rfl ?_
          refine l_iload rfl rfl ?_
          have w187 : 0 ≤ Xi S 904 106 ∧ Xi S 904 106 ≤ 9 := hH.c _ _
          have w188 : -1 ≤ Xi S 904 115 ∧ Xi S 904 115 ≤ 15 := hH.c _ _
          have w189 : -1 ≤ Xi S 904 116 ∧ Xi S 904 116 ≤ 15 := hH.c _ _
          have w190 : 0 ≤ Xi S 904 19 ∧ Xi S 904 19 ≤ 24 := hH.c _ _
          refine l_callV rfl rfl rfl (t_mo_need hH 1 4 (td % 10000) ⟨by omega, by omega⟩ ⟨by omega, by omega⟩ ⟨by omega, by omega⟩ _) ?_
          rintro _ T10 ⟨hHT10, w194, rfl, w191, w192⟩
          have hFT10 : FR md_mo_meant S T10 := FR.tr hF w194 rfl
          show Rl _ _ _ _ _ [] _ _
          refine l_iload rfl rfl ?_
          refine l_ireturn rfl rfl ?_
          have w195 : 0 ≤ Xi T10 904 106 ∧ Xi T10 904 106 ≤ 9 := hHT10.c _ _
          have w196 : Xi T10 904 115 = Xi S 904 115 := (show Xi T10 904 115 = Xi S 904 115 from w194.x _ _ rfl)
          have w197 : -1 ≤ Xi S 904 115 ∧ Xi S 904 115 ≤ 15 := hH.c _ _
          have w198 : Xi T10 904 116 = Xi S 904 116 := (show Xi T10 904 116 = Xi S 904 116 from w194.x _ _ rfl)
          have w199 : -1 ≤ Xi S 904 116 ∧ Xi S 904 116 ≤ 15 := hH.c _ _
          have w200 : Xi T10 904 19 = Xi S 904 19 := (show Xi T10 904 19 = Xi S 904 19 from w194.x _ _ rfl)
          have w201 : 0 ≤ Xi S 904 19 ∧ Xi S 904 19 ≤ 24 := hH.c _ _
          exact ⟨hHT10, hFT10, _, rfl, ⟨by omega, by omega⟩, (by omega), (by omega), (by omega), (by omega), (by omega)⟩
      · refine l_iload rfl rfl ?_
        refine l_iconst rfl ?_
        refine l_icmp_ne rfl rfl (by unfold rg; omega) (by unfold rg; omega) (fun w202 => absurd w202 (by omega)) (fun w203 => ?_)
        · refine l_bipush rfl rfl ?_
          refine l_goto rfl rfl ?_
          refine l_istore rfl rfl rfl ?_
          refine l_aload_n rfl rfl ?_
          refine l_iload rfl rfl ?_
          refine l_bipush rfl rfl ?_
          refine l_icmp_eq rfl rfl (by unfold rg; omega) (by unfold rg; omega) (fun w204 => ?_) (fun w205 => absurd w205 (by omega))
          · refine l_iconst rfl ?_
            refine l_iconst rfl ?_
            refine l_iload rfl rfl ?_
            have w206 : 0 ≤ Xi S 904 106 ∧ Xi S 904 106 ≤ 9 := hH.c _ _
            have w207 : -1 ≤ Xi S 904 115 ∧ Xi S 904 115 ≤ 15 := hH.c _ _
            have w208 : -1 ≤ Xi S 904 116 ∧ Xi S 904 116 ≤ 15 := hH.c _ _
            have w209 : 0 ≤ Xi S 904 19 ∧ Xi S 904 19 ≤ 24 := hH.c _ _
            refine l_callV rfl rfl rfl (t_mo_need hH 0 4 (td % 10000) ⟨by omega, by omega⟩ ⟨by omega, by omega⟩ ⟨by omega, by omega⟩ _) ?_
            rintro _ T11 ⟨hHT11, w213, rfl, w210, w211⟩
            have hFT11 : FR md_mo_meant S T11 := FR.tr hF w213 rfl
            show Rl _ _ _ _ _ [] _ _
            refine l_iload rfl rfl ?_
            refine l_ireturn rfl rfl ?_
            have w214 : 0 ≤ Xi T11 904 106 ∧ Xi T11 904 106 ≤ 9 := hHT11.c _ _
            have w215 : Xi T11 904 115 = Xi S 904 115 := (show Xi T11 904 115 = Xi S 904 115 from w213.x _ _ rfl)
            have w216 : -1 ≤ Xi S 904 115 ∧ Xi S 904 115 ≤ 15 := hH.c _ _
            have w217 : Xi T11 904 116 = Xi S 904 116 := (show Xi T11 904 116 = Xi S 904 116 from w213.x _ _ rfl)
            have w218 : -1 ≤ Xi S 904 116 ∧ Xi S 904 116 ≤ 15 := hH.c _ _
            have w219 : Xi T11 904 19 = Xi S 904 19 := (show Xi T11 904 19 = Xi S 904 19 from w213.x _ _ rfl)
            have w220 : 0 ≤ Xi S 904 19 ∧ Xi S 904 19 ≤ 24 := hH.c _ _
            exact ⟨hHT11, hFT11, _, rfl, ⟨by omega, by omega⟩, (by omega), (by omega), (by omega), (by omega), (by omega)⟩
    · refine l_bipush rfl rfl ?_
      refine l_goto rfl rfl ?_
      refine l_istore rfl rfl rfl ?_
      refine l_iload_n rfl rfl ?_
      refine l_iconst rfl ?_
      refine l_icmp_ne rfl rfl (by unfold rg; omega) (by unfold rg; omega) (fun w221 => ?_) (fun w222 => ?_)
      · refine l_iload rfl rfl ?_
        refine l_istore rfl rfl rfl ?_
        refine l_aload_n rfl rfl ?_
        refine l_iload rfl rfl ?_
        refine l_bipush rfl rfl ?_
        refine l_icmp_eq rfl rfl (by unfold rg; omega) (by unfold rg; omega) (fun w223 => ?_) (fun w224 => absurd w224 (by omega))
        · refine l_iconst rfl ?_
          refine l_iconst rfl ?_
          refine l_iload rfl rfl ?_
          have w225 : 0 ≤ Xi S 904 106 ∧ Xi S 904 106 ≤ 9 := hH.c _ _
          have w226 : -1 ≤ Xi S 904 115 ∧ Xi S 904 115 ≤ 15 := hH.c _ _
          have w227 : -1 ≤ Xi S 904 116 ∧ Xi S 904 116 ≤ 15 := hH.c _ _
          have w228 : 0 ≤ Xi S 904 19 ∧ Xi S 904 19 ≤ 24 := hH.c _ _
          refine l_callV rfl rfl rfl (t_mo_need hH 0 4 (td % 10000) ⟨by omega, by omega⟩ ⟨by omega, by omega⟩ ⟨by omega, by omega⟩ _) ?_
          rintro _ T12 ⟨hHT12, w232, rfl, w229, w230⟩
          have hFT12 : FR md_mo_meant S T12 := FR.tr hF w232 rfl
          show Rl _ _ _ _ _ [] _ _
          refine l_iload rfl rfl ?_
          refine l_ireturn rfl rfl ?_
          have w233 : 0 ≤ Xi T12 904 106 ∧ Xi T12 904 106 ≤ 9 := hHT12.c _ _
          have w234 : Xi T12 904 115 = Xi S 904 115 := (show Xi T12 904 115 = Xi S 904 115 from w232.x _ _ rfl)
          have w235 : -1 ≤ Xi S 904 115 ∧ Xi S 904 115 ≤ 15 := hH.c _ _
          have w236 : Xi T12 904 116 = Xi S 904 116 := (show Xi T12 904 116 = Xi S 904 116 from w232.x _ _ rfl)
          have w237 : -1 ≤ Xi S 904 116 ∧ Xi S 904 116 ≤ 15 := hH.c _ _
          have w238 : Xi T12 904 19 = Xi S 904 19 := (show Xi T12 904 19 = Xi S 904 19 from w232.x _ _ rfl)
          have w239 : 0 ≤ Xi S 904 19 ∧ Xi S 904 19 ≤ 24 := hH.c _ _
          exact ⟨hHT12, hFT12, _, rfl, ⟨by omega, by omega⟩, (by omega), (by omega), (by omega), (by omega), (by omega)⟩
      · refine l_iload rfl rfl ?_
        refine l_iconst rfl ?_
        refine l_icmp_ne rfl rfl (by unfold rg; omega) (by unfold rg; omega) (fun w240 => ?_) (fun w241 => absurd w241 (by omega))
        · refine l_iload rfl rfl ?_
          refine l_istore rfl rfl rfl ?_
          refine l_aload_n rfl rfl ?_
          refine l_iload rfl rfl ?_
          refine l_bipush rfl rfl ?_
          refine l_icmp_eq rfl rfl (by unfold rg; omega) (by unfold rg; omega) (fun w242 => ?_) (fun w243 => absurd w243 (by omega))
          · refine l_iconst rfl ?_
            refine l_iconst rfl ?_
            refine l_iload rfl rfl ?_
            have w244 : 0 ≤ Xi S 904 106 ∧ Xi S 904 106 ≤ 9 := hH.c _ _
            have w245 : -1 ≤ Xi S 904 115 ∧ Xi S 904 115 ≤ 15 := hH.c _ _
            have w246 : -1 ≤ Xi S 904 116 ∧ Xi S 904 116 ≤ 15 := hH.c _ _
            have w247 : 0 ≤ Xi S 904 19 ∧ Xi S 904 19 ≤ 24 := hH.c _ _
            refine l_callV rfl rfl rfl (t_mo_need hH 0 4 (td % 10000) ⟨by omega, by omega⟩ ⟨by omega, by omega⟩ ⟨by omega, by omega⟩ _) ?_
            rintro _ T13 ⟨hHT13, w251, rfl, w248, w249⟩
            have hFT13 : FR md_mo_meant S T13 := FR.tr hF w251 rfl
            show Rl _ _ _ _ _ [] _ _
            refine l_iload rfl rfl ?_
            refine l_ireturn rfl rfl ?_
            have w252 : 0 ≤ Xi T13 904 106 ∧ Xi T13 904 106 ≤ 9 := hHT13.c _ _
            have w253 : Xi T13 904 115 = Xi S 904 115 := (show Xi T13 904 115 = Xi S 904 115 from w251.x _ _ rfl)
            have w254 : -1 ≤ Xi S 904 115 ∧ Xi S 904 115 ≤ 15 := hH.c _ _
            have w255 : Xi T13 904 116 = Xi S 904 116 := (show Xi T13 904 116 = Xi S 904 116 from w251.x _ _ rfl)
            have w256 : -1 ≤ Xi S 904 116 ∧ Xi S 904 116 ≤ 15 := hH.c _ _
            have w257 : Xi T13 904 19 = Xi S 904 19 := (show Xi T13 904 19 = Xi S 904 19 from w251.x _ _ rfl)
            have w258 : 0 ≤ Xi S 904 19 ∧ Xi S 904 19 ≤ 24 := hH.c _ _
            exact ⟨hHT13, hFT13, _, rfl, ⟨by omega, by omega⟩, (by omega), (by omega), (by omega), (by omega), (by omega)⟩
