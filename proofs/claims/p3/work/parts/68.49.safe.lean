/-! SAFETY of methods: printed by wip/safe (vc.py, decl.py) -/
def md_rr_insert : List rec := [(246, 247, 8, 9), (274, 275, 0, 100000), (275, 276, 0, 100000), (876, 877, 7, 8), (877, 878, 0, 100000), (878, 879, 0, 100000), (879, 880, 0, 100000), (895, 896, 5, 6), (895, 896, 6, 7), (895, 896, 7, 8)]
abbrev Q_rr_insert (S : sS) (ts : Nat) (from_ : Int) (to : Int) : pst := fun r S1 => HI S1 ∧ FR md_rr_insert S S1 ∧ (∃ z : Int, r = some (iv z) ∧ (0 ≤ z ∧ z ≤ 1) ∧ (TOK S1) ∧ (Xi S 876 6 ≤ Xi S1 876 7) ∧ (KTK S S1 (Xi S 876 6)) ∧ (IGR S S1 (0 ≤ Xi S 895 4)) ∧ (z = 1 → Xi S1 246 8 = Xi S 246 8 + 1 ∨ 1666 ≤ Xi S1 246 8))
set_option maxRecDepth 100000 in
theorem t_rr_insert {S : sS} (hH : HI S) (ts : Nat) (from_ : Int) (to : Int) (hfrom_ : 0 ≤ from_ ∧ from_ ≤ 5000) (hto : 0 ≤ to ∧ to ≤ 5000) (hts : S.2.2 876 4 = some ts) (htp : tp ts) (hL : LEX S) (hT : TOK S) (hcr : Xi S 876 6 ≤ Xi S 876 7) (hft : to ≤ from_ + 121) (d : Nat) : Mt lay0 (d + 4) m_rr_insert [.ref 899, iv from_, iv to] S (Q_rr_insert S ts from_ to) := by
  refine Mt_R rfl rfl ?_
  have hF : FR md_rr_insert S S := FR.rf
  have w1 : 0 ≤ Xi S 246 8 ∧ Xi S 246 8 ≤ 1666 := hH.c _ _
  have w2 : 0 ≤ Xi S 876 6 ∧ Xi S 876 6 ≤ 5002 := hH.c _ _
  have w3 : 0 ≤ Xi S 876 7 ∧ Xi S 876 7 ≤ 5125 := hH.c _ _
  have w4 : -1 ≤ Xi S 895 4 ∧ Xi S 895 4 ≤ 15 := hH.c _ _
  refine l_aload_n rfl rfl ?_
  refine l_gfr rfl rfl rfl rfl rfl (hH.r 899 0 876 rfl) ?_
  refine l_iload_n rfl rfl ?_
  refine l_iload_n rfl rfl ?_
  have w5 : 0 ≤ Xi S 246 8 ∧ Xi S 246 8 ≤ 1666 := hH.c _ _
  have w6 : 0 ≤ Xi S 876 6 ∧ Xi S 876 6 ≤ 5002 := hH.c _ _
  have w7 : 0 ≤ Xi S 876 7 ∧ Xi S 876 7 ≤ 5125 := hH.c _ _
  have w8 : -1 ≤ Xi S 895 4 ∧ Xi S 895 4 ≤ 15 := hH.c _ _
  refine l_callV rfl rfl rfl (t_to_takeInside__2 hH ts from_ to ⟨by omega, by omega⟩ ⟨by omega, by omega⟩ ((hF 876 4 rfl).2.2.trans hts) htp (by first | assumption | exact (by assumption : TOK S)) (by first | assumption | omega) (by first | assumption | omega) _) ?_
  rintro _ T1 ⟨hHT1, w14, z13, rfl, w13, w9, w10, w11, w12⟩
  have hFT1 : FR md_rr_insert S T1 := FR.tr hF w14 rfl
  show Rl _ _ _ _ _ [iv z13] _ _
  have k6 : KTK S T1 (Xi S 876 6) := by assumption
  have i6 : IGR S T1 (0 ≤ Xi S 895 4) := igr_f (by assumption : FR md_to_takeInside__2 S T1) rfl (IGR.rf hH)
  refine l_istore_n rfl rfl rfl ?_
  refine l_iconst rfl ?_
  refine l_istore rfl rfl rfl ?_
  refine l_iload_n rfl rfl ?_
  refine l_iconst rfl ?_
  refine l_icmp_ne rfl rfl (by unfold rg; omega) (by unfold rg; omega) (fun w15 => ?_) (fun w16 => ?_)
  · refine l_aload_n rfl rfl ?_
    refine l_gfr rfl rfl rfl rfl rfl (hHT1.r 899 0 876 rfl) ?_
    refine l_iload_n rfl rfl ?_
    have w17 : Xi T1 246 8 = Xi S 246 8 := (show Xi T1 246 8 = Xi S 246 8 from w14.x _ _ rfl)
    have w18 : 0 ≤ Xi S 246 8 ∧ Xi S 246 8 ≤ 1666 := hH.c _ _
    have w19 : 0 ≤ Xi T1 876 7 ∧ Xi T1 876 7 ≤ 5125 := hHT1.c _ _
    have w20 : Xi T1 895 4 = Xi S 895 4 := (show Xi T1 895 4 = Xi S 895 4 from w14.x _ _ rfl)
    have w21 : -1 ≤ Xi S 895 4 ∧ Xi S 895 4 ≤ 15 := hH.c _ _
    refine l_callV rfl rfl rfl (t_to_beginsProperty hHT1 z13 ⟨by omega, by omega⟩ _) ?_
    rintro _ _ ⟨rfl, z23, rfl, w23, w22⟩
    show Rl _ _ _ _ _ [iv z23] _ _
    refine l_istore rfl rfl rfl ?_
    refine l_iload_n rfl rfl ?_
    refine l_iconst rfl ?_
    refine l_iadd rfl ?_
    refine l_istore rfl rfl rfl ?_
    refine l_aload_n rfl rfl ?_
    refine l_gfr rfl rfl rfl rfl rfl (hHT1.r 899 0 876 rfl) ?_
    refine l_iload rfl rfl ?_
    have w24 : Xi T1 246 8 = Xi S 246 8 := (show Xi T1 246 8 = Xi S 246 8 from w14.x _ _ rfl)
    have w25 : 0 ≤ Xi S 246 8 ∧ Xi S 246 8 ≤ 1666 := hH.c _ _
    have w26 : 0 ≤ Xi T1 876 7 ∧ Xi T1 876 7 ≤ 5125 := hHT1.c _ _
    have w27 : Xi T1 895 4 = Xi S 895 4 := (show Xi T1 895 4 = Xi S 895 4 from w14.x _ _ rfl)
    have w28 : -1 ≤ Xi S 895 4 ∧ Xi S 895 4 ≤ 15 := hH.c _ _
    refine l_callV rfl rfl rfl (t_to_runEnd hHT1 (z13 + 1) ⟨by omega, by omega⟩ _) ?_
    rintro _ _ ⟨rfl, z36, rfl, w36, w29, w30, w31, w32, w33, w34, w35⟩
    clear w31 w32 w33 w34
    show Rl _ _ _ _ _ [iv z36] _ _
    refine l_istore rfl rfl rfl ?_
    refine l_iload rfl rfl ?_
    refine l_if_eq rfl rfl (by unfold rg; omega) (fun w37 => ?_) (fun w38 => ?_)
    · refine l_iload_n rfl rfl ?_
      refine l_istore rfl rfl rfl ?_
      refine l_aload_n rfl rfl ?_
      refine l_gfr rfl rfl rfl rfl rfl (hHT1.r 899 2 895 rfl) ?_
      refine l_iload rfl rfl ?_
      refine l_aload_n rfl rfl ?_
      refine l_gfr rfl rfl rfl rfl rfl (hHT1.r 899 0 876 rfl) ?_
      have w39 : Xi T1 246 8 = Xi S 246 8 := (show Xi T1 246 8 = Xi S 246 8 from w14.x _ _ rfl)
      have w40 : 0 ≤ Xi S 246 8 ∧ Xi S 246 8 ≤ 1666 := hH.c _ _
      have w41 : 0 ≤ Xi T1 876 7 ∧ Xi T1 876 7 ≤ 5125 := hHT1.c _ _
      have w42 : Xi T1 895 4 = Xi S 895 4 := (show Xi T1 895 4 = Xi S 895 4 from w14.x _ _ rfl)
      have w43 : -1 ≤ Xi S 895 4 ∧ Xi S 895 4 ≤ 15 := hH.c _ _
      refine l_callV rfl rfl rfl (t_to_lastRow hHT1 _) ?_
      rintro _ _ ⟨rfl, z45, rfl, w45, w44⟩
      show Rl _ _ _ _ _ [iv z45, iv z13, .ref 895] _ _
      have w46 : Xi T1 246 8 = Xi S 246 8 := (show Xi T1 246 8 = Xi S 246 8 from w14.x _ _ rfl)
      have w47 : 0 ≤ Xi S 246 8 ∧ Xi S 246 8 ≤ 1666 := hH.c _ _
      have w48 : 0 ≤ Xi T1 876 7 ∧ Xi T1 876 7 ≤ 5125 := hHT1.c _ _
      have w49 : Xi T1 895 4 = Xi S 895 4 := (show Xi T1 895 4 = Xi S 895 4 from w14.x _ _ rfl)
      have w50 : -1 ≤ Xi S 895 4 ∧ Xi S 895 4 ≤ 15 := hH.c _ _
      refine l_callV rfl rfl rfl (t_me_readThing hHT1 z13 z45 ⟨by omega, by omega⟩ ⟨by omega, by omega⟩ (by first | assumption | exact (LEX_FR hFT1 rfl rfl (by assumption : LEX S))) _) ?_
      rintro _ T2 ⟨hHT2, w56, z55, rfl, w55, w51, w52, w53, w54⟩
      have hFT2 : FR md_rr_insert S T2 := FR.tr hFT1 w56 rfl
      show Rl _ _ _ _ _ [iv z55] _ _
      have wo74 : Xi T2 895 5 ≠ -1 → WHO (0 ≤ Xi S 895 4) (Xi T2 895 5) := fun q => who_of q (hHT2.c 895 5).1 (fun e => by have t := (by assumption : Xi T2 895 5 = -2 → 0 ≤ Xi T1 895 4) e; omega)
      have k74 : KTK S T2 (Xi S 876 6) := ktk_f (by assumption : FR md_me_readThing T1 T2) rfl k6
      have i74 : IGR S T2 (0 ≤ Xi S 895 4) := igr_f (by assumption : FR md_me_readThing T1 T2) rfl i6
      refine l_aload_n rfl rfl ?_
      refine l_gfr rfl rfl rfl rfl rfl (hHT2.r 899 0 876 rfl) ?_
      have w57 : Xi T2 246 8 = Xi S 246 8 := (show Xi T2 246 8 = Xi T1 246 8 from w56.x _ _ rfl).trans ((show Xi T1 246 8 = Xi S 246 8 from w14.x _ _ rfl))
      have w58 : 0 ≤ Xi S 246 8 ∧ Xi S 246 8 ≤ 1666 := hH.c _ _
      have w59 : Xi T2 876 7 = Xi T1 876 7 := (show Xi T2 876 7 = Xi T1 876 7 from w56.x _ _ rfl)
      have w60 : 0 ≤ Xi T1 876 7 ∧ Xi T1 876 7 ≤ 5125 := hHT1.c _ _
      have w61 : Xi T2 895 4 = Xi S 895 4 := (show Xi T2 895 4 = Xi T1 895 4 from w56.x _ _ rfl).trans ((show Xi T1 895 4 = Xi S 895 4 from w14.x _ _ rfl))
      have w62 : -1 ≤ Xi S 895 4 ∧ Xi S 895 4 ≤ 15 := hH.c _ _
      refine l_callV rfl rfl rfl (t_to_lastRow hHT2 _) ?_
      rintro _ _ ⟨rfl, z64, rfl, w64, w63⟩
      show Rl _ _ _ _ _ [iv z64, iv z55] _ _
      refine l_icmp_ne rfl rfl (by unfold rg; omega) (by unfold rg; omega) (fun w65 => ?_) (fun w66 => ?_)
      · refine l_iconst rfl ?_
        refine l_ireturn rfl rfl ?_
        have w67 : Xi T2 246 8 = Xi S 246 8 := (show Xi T2 246 8 = Xi T1 246 8 from w56.x _ _ rfl).trans ((show Xi T1 246 8 = Xi S 246 8 from w14.x _ _ rfl))
        have w68 : 0 ≤ Xi S 246 8 ∧ Xi S 246 8 ≤ 1666 := hH.c _ _
        have w69 : Xi T2 876 7 = Xi T1 876 7 := (show Xi T2 876 7 = Xi T1 876 7 from w56.x _ _ rfl)
        have w70 : 0 ≤ Xi T1 876 7 ∧ Xi T1 876 7 ≤ 5125 := hHT1.c _ _
        have w71 : Xi T2 895 4 = Xi S 895 4 := (show Xi T2 895 4 = Xi T1 895 4 from w56.x _ _ rfl).trans ((show Xi T1 895 4 = Xi S 895 4 from w14.x _ _ rfl))
        have w72 : -1 ≤ Xi S 895 4 ∧ Xi S 895 4 ≤ 15 := hH.c _ _
        exact ⟨hHT2, hFT2, _, rfl, ⟨by omega, by omega⟩, (by first | assumption | exact (TOK_FR w56 rfl rfl rfl (by assumption : TOK T1))), (by omega), (by first | exact k162 | exact k74 | exact k6), (by first | exact i162 | exact i74 | exact i6), (by omega)⟩
      · refine l_aload_n rfl rfl ?_
        refine l_gfr rfl rfl rfl rfl rfl (hHT2.r 899 2 895 rfl) ?_
        refine l_gfi rfl rfl rfl rfl rfl ?_
        have w73 : -2 ≤ (Xi T2 895 5) ∧ (Xi T2 895 5) ≤ 23 := hHT2.c _ _
        refine l_iconst rfl ?_
        refine l_icmp_ne rfl rfl (by unfold rg; omega) (by unfold rg; omega) (fun w74 => ?_) (fun w75 => ?_)
        · refine l_iload rfl rfl ?_
          refine l_if_eq rfl rfl (by unfold rg; omega) (fun w76 => ?_) (fun w77 => ?_)
          · refine l_aload_n rfl rfl ?_
            refine l_gfr rfl rfl rfl rfl rfl (hHT2.r 899 3 246 rfl) ?_
            refine l_aload_n rfl rfl ?_
            refine l_gfr rfl rfl rfl rfl rfl (hHT2.r 899 2 895 rfl) ?_
            refine l_gfi rfl rfl rfl rfl rfl ?_
            refine l_iload rfl rfl ?_
            have w78 : Xi T2 246 8 = Xi S 246 8 := (show Xi T2 246 8 = Xi T1 246 8 from w56.x _ _ rfl).trans ((show Xi T1 246 8 = Xi S 246 8 from w14.x _ _ rfl))
            have w79 : 0 ≤ Xi S 246 8 ∧ Xi S 246 8 ≤ 1666 := hH.c _ _
            have w80 : Xi T2 876 7 = Xi T1 876 7 := (show Xi T2 876 7 = Xi T1 876 7 from w56.x _ _ rfl)
            have w81 : 0 ≤ Xi T1 876 7 ∧ Xi T1 876 7 ≤ 5125 := hHT1.c _ _
            have w82 : Xi T2 895 4 = Xi S 895 4 := (show Xi T2 895 4 = Xi T1 895 4 from w56.x _ _ rfl).trans ((show Xi T1 895 4 = Xi S 895 4 from w14.x _ _ rfl))
            have w83 : -1 ≤ Xi S 895 4 ∧ Xi S 895 4 ≤ 15 := hH.c _ _
            refine l_callV rfl rfl rfl (t_bo_addInsert__2 hHT2 (Xi T2 895 5) (-1) ⟨by omega, by omega⟩ ⟨by omega, by omega⟩ _) ?_
            rintro _ T3 ⟨hHT3, w87, rfl, w84, w85⟩
            have hFT3 : FR md_rr_insert S T3 := FR.tr hFT2 w87 rfl
            show Rl _ _ _ _ _ [] _ _
            have k162 : KTK S T3 (Xi S 876 6) := ktk_f (by assumption : FR md_bo_addInsert__2 T2 T3) rfl k74
            have i162 : IGR S T3 (0 ≤ Xi S 895 4) := IGR.tr i74 ((by assumption : IAD T2 T3 _ _) (0 ≤ Xi S 895 4) (fun q => wo74 (by omega))) (fun x => x)
            refine l_iconst rfl ?_
            refine l_ireturn rfl rfl ?_
            have w88 : 0 ≤ Xi T3 246 8 ∧ Xi T3 246 8 ≤ 1666 := hHT3.c _ _
            have w89 : Xi T3 876 7 = Xi T1 876 7 := (show Xi T3 876 7 = Xi T2 876 7 from w87.x _ _ rfl).trans ((show Xi T2 876 7 = Xi T1 876 7 from w56.x _ _ rfl))
            have w90 : 0 ≤ Xi T1 876 7 ∧ Xi T1 876 7 ≤ 5125 := hHT1.c _ _
            have w91 : Xi T3 895 4 = Xi S 895 4 := (show Xi T3 895 4 = Xi T2 895 4 from w87.x _ _ rfl).trans ( (show Xi T2 895 4 = Xi T1 895 4 from w56.x _ _ rfl).trans ((show Xi T1 895 4 = Xi S 895 4 from w14.x _ _ rfl)))
            have w92 : -1 ≤ Xi S 895 4 ∧ Xi S 895 4 ≤ 15 := hH.c _ _
            exact ⟨hHT3, hFT3, _, rfl, ⟨by omega, by omega⟩, (by first | assumption | exact (TOK_FR w87 rfl rfl rfl (TOK_FR w56 rfl rfl rfl (by assumption : TOK T1)))), (by omega), (by first | exact k162 | exact k74 | exact k6), (by first | exact i162 | exact i74 | exact i6), (by omega)⟩
          · refine l_aload_n rfl rfl ?_
            refine l_gfr rfl rfl rfl rfl rfl (hHT2.r 899 2 895 rfl) ?_
            refine l_iconst rfl ?_
            refine l_iload rfl rfl ?_
            refine l_iload rfl rfl ?_
            have w93 : Xi T2 246 8 = Xi S 246 8 := (show Xi T2 246 8 = Xi T1 246 8 from w56.x _ _ rfl).trans ((show Xi T1 246 8 = Xi S 246 8 from w14.x _ _ rfl))
            have w94 : 0 ≤ Xi S 246 8 ∧ Xi S 246 8 ≤ 1666 := hH.c _ _
            have w95 : Xi T2 876 7 = Xi T1 876 7 := (show Xi T2 876 7 = Xi T1 876 7 from w56.x _ _ rfl)
            have w96 : 0 ≤ Xi T1 876 7 ∧ Xi T1 876 7 ≤ 5125 := hHT1.c _ _
            have w97 : Xi T2 895 4 = Xi S 895 4 := (show Xi T2 895 4 = Xi T1 895 4 from w56.x _ _ rfl).trans ((show Xi T1 895 4 = Xi S 895 4 from w14.x _ _ rfl))
            have w98 : -1 ≤ Xi S 895 4 ∧ Xi S 895 4 ≤ 15 := hH.c _ _
            refine l_callV rfl rfl rfl (t_me_find hHT2 5 (z13 + 1) z36 ⟨by omega, by omega⟩ ⟨by omega, by omega⟩ ⟨by omega, by omega⟩ (by first | assumption | exact (LEX_FR hFT2 rfl rfl (by assumption : LEX S))) _) ?_
            rintro _ _ ⟨rfl, z102, rfl, w102, w99, w100, w101⟩
            have w103 : z102 ≠ -1 → _ := fun h => fb5 hHT2 (w99 h)
            clear w100
            show Rl _ _ _ _ _ [iv z102] _ _
            refine l_istore rfl rfl rfl ?_
            refine l_iload rfl rfl ?_
            refine l_iconst rfl ?_
            refine l_icmp_eq rfl rfl (by unfold rg; omega) (by unfold rg; omega) (fun w104 => ?_) (fun w105 => ?_)
            · refine l_iconst rfl ?_
              refine l_ireturn rfl rfl ?_
              have w106 : Xi T2 246 8 = Xi S 246 8 := (show Xi T2 246 8 = Xi T1 246 8 from w56.x _ _ rfl).trans ((show Xi T1 246 8 = Xi S 246 8 from w14.x _ _ rfl))
              have w107 : 0 ≤ Xi S 246 8 ∧ Xi S 246 8 ≤ 1666 := hH.c _ _
              have w108 : Xi T2 876 7 = Xi T1 876 7 := (show Xi T2 876 7 = Xi T1 876 7 from w56.x _ _ rfl)
              have w109 : 0 ≤ Xi T1 876 7 ∧ Xi T1 876 7 ≤ 5125 := hHT1.c _ _
              have w110 : Xi T2 895 4 = Xi S 895 4 := (show Xi T2 895 4 = Xi T1 895 4 from w56.x _ _ rfl).trans ((show Xi T1 895 4 = Xi S 895 4 from w14.x _ _ rfl))
              have w111 : -1 ≤ Xi S 895 4 ∧ Xi S 895 4 ≤ 15 := hH.c _ _
              exact ⟨hHT2, hFT2, _, rfl, ⟨by omega, by omega⟩, (by first | assumption | exact (TOK_FR w56 rfl rfl rfl (by assumption : TOK T1))), (by omega), (by first | exact k162 | exact k74 | exact k6), (by first | exact i162 | exact i74 | exact i6), (by omega)⟩
            · refine l_aload_n rfl rfl ?_
              refine l_gfr rfl rfl rfl rfl rfl (hHT2.r 899 1 1 rfl) ?_
              refine l_aload_n rfl rfl ?_
              refine l_gfr rfl rfl rfl rfl rfl (hHT2.r 899 2 895 rfl) ?_
              refine l_gfi rfl rfl rfl rfl rfl ?_
              have w112 : -1 ≤ (Xi T2 895 6) ∧ (Xi T2 895 6) ≤ 15 := hHT2.c _ _
              have w113 : Xi T2 246 8 = Xi S 246 8 := (show Xi T2 246 8 = Xi T1 246 8 from w56.x _ _ rfl).trans ((show Xi T1 246 8 = Xi S 246 8 from w14.x _ _ rfl))
              have w114 : 0 ≤ Xi S 246 8 ∧ Xi S 246 8 ≤ 1666 := hH.c _ _
              have w115 : Xi T2 876 7 = Xi T1 876 7 := (show Xi T2 876 7 = Xi T1 876 7 from w56.x _ _ rfl)
              have w116 : 0 ≤ Xi T1 876 7 ∧ Xi T1 876 7 ≤ 5125 := hHT1.c _ _
              have w117 : Xi T2 895 4 = Xi S 895 4 := (show Xi T2 895 4 = Xi T1 895 4 from w56.x _ _ rfl).trans ((show Xi T1 895 4 = Xi S 895 4 from w14.x _ _ rfl))
              have w118 : -1 ≤ Xi S 895 4 ∧ Xi S 895 4 ≤ 15 := hH.c _ _
              refine l_callV rfl rfl rfl (t_vo_propertiesOf hHT2 (Xi T2 895 6) ⟨by omega, by omega⟩ _) ?_
              rintro _ _ ⟨rfl, z120, rfl, w120, w119⟩
              show Rl _ _ _ _ _ [iv z120] _ _
              refine l_iload rfl rfl ?_
              refine l_ishrF rfl ?_
              have w121 : -2147483648 ≤ (ishrF z120 z102) ∧ (ishrF z120 z102) ≤ 2147483647 := ishrF_rg
              refine l_iconst rfl ?_
              refine l_iandF rfl ?_
              have w122 : 0 ≤ (iandF (ishrF z120 z102) 1) ∧ (iandF (ishrF z120 z102) 1) ≤ 1 := iandF_le (by omega) (by unfold rg; omega)
              refine l_if_ne rfl rfl (by unfold rg; omega) (fun w123 => ?_) (fun w124 => ?_)
              · refine l_aload_n rfl rfl ?_
                refine l_gfr rfl rfl rfl rfl rfl (hHT2.r 899 3 246 rfl) ?_
                refine l_aload_n rfl rfl ?_
                refine l_gfr rfl rfl rfl rfl rfl (hHT2.r 899 2 895 rfl) ?_
                refine l_gfi rfl rfl rfl rfl rfl ?_
                refine l_iload rfl rfl ?_
                have w125 : Xi T2 246 8 = Xi S 246 8 := (show Xi T2 246 8 = Xi T1 246 8 from w56.x _ _ rfl).trans ((show Xi T1 246 8 = Xi S 246 8 from w14.x _ _ rfl))
                have w126 : 0 ≤ Xi S 246 8 ∧ Xi S 246 8 ≤ 1666 := hH.c _ _
                have w127 : Xi T2 876 7 = Xi T1 876 7 := (show Xi T2 876 7 = Xi T1 876 7 from w56.x _ _ rfl)
                have w128 : 0 ≤ Xi T1 876 7 ∧ Xi T1 876 7 ≤ 5125 := hHT1.c _ _
                have w129 : Xi T2 895 4 = Xi S 895 4 := (show Xi T2 895 4 = Xi T1 895 4 from w56.x _ _ rfl).trans ((show Xi T1 895 4 = Xi S 895 4 from w14.x _ _ rfl))
                have w130 : -1 ≤ Xi S 895 4 ∧ Xi S 895 4 ≤ 15 := hH.c _ _
                refine l_callV rfl rfl rfl (t_bo_addInsert__2 hHT2 (Xi T2 895 5) z102 ⟨by omega, by omega⟩ ⟨by omega, by omega⟩ _) ?_
                rintro _ T4 ⟨hHT4, w134, rfl, w131, w132⟩
                have hFT4 : FR md_rr_insert S T4 := FR.tr hFT2 w134 rfl
                show Rl _ _ _ _ _ [] _ _
                have k162 : KTK S T4 (Xi S 876 6) := ktk_f (by assumption : FR md_bo_addInsert__2 T2 T4) rfl k74
                have i162 : IGR S T4 (0 ≤ Xi S 895 4) := IGR.tr i74 ((by assumption : IAD T2 T4 _ _) (0 ≤ Xi S 895 4) (fun q => wo74 (by omega))) (fun x => x)
                refine l_iconst rfl ?_
                refine l_ireturn rfl rfl ?_
                have w135 : 0 ≤ Xi T4 246 8 ∧ Xi T4 246 8 ≤ 1666 := hHT4.c _ _
                have w136 : Xi T4 876 7 = Xi T1 876 7 := (show Xi T4 876 7 = Xi T2 876 7 from w134.x _ _ rfl).trans ((show Xi T2 876 7 = Xi T1 876 7 from w56.x _ _ rfl))
                have w137 : 0 ≤ Xi T1 876 7 ∧ Xi T1 876 7 ≤ 5125 := hHT1.c _ _
                have w138 : Xi T4 895 4 = Xi S 895 4 := (show Xi T4 895 4 = Xi T2 895 4 from w134.x _ _ rfl).trans ( (show Xi T2 895 4 = Xi T1 895 4 from w56.x _ _ rfl).trans ((show Xi T1 895 4 = Xi S 895 4 from w14.x _ _ rfl)))
                have w139 : -1 ≤ Xi S 895 4 ∧ Xi S 895 4 ≤ 15 := hH.c _ _
                exact ⟨hHT4, hFT4, _, rfl, ⟨by omega, by omega⟩, (by first | assumption | exact (TOK_FR w134 rfl rfl rfl (TOK_FR w56 rfl rfl rfl (by assumption : TOK T1)))), (by omega), (by first | exact k162 | exact k74 | exact k6), (by first | exact i162 | exact i74 | exact i6), (by omega)⟩
              · refine l_iconst rfl ?_
                refine l_ireturn rfl rfl ?_
                have w140 : Xi T2 246 8 = Xi S 246 8 := (show Xi T2 246 8 = Xi T1 246 8 from w56.x _ _ rfl).trans ((show Xi T1 246 8 = Xi S 246 8 from w14.x _ _ rfl))
                have w141 : 0 ≤ Xi S 246 8 ∧ Xi S 246 8 ≤ 1666 := hH.c _ _
                have w142 : Xi T2 876 7 = Xi T1 876 7 := (show Xi T2 876 7 = Xi T1 876 7 from w56.x _ _ rfl)
                have w143 : 0 ≤ Xi T1 876 7 ∧ Xi T1 876 7 ≤ 5125 := hHT1.c _ _
                have w144 : Xi T2 895 4 = Xi S 895 4 := (show Xi T2 895 4 = Xi T1 895 4 from w56.x _ _ rfl).trans ((show Xi T1 895 4 = Xi S 895 4 from w14.x _ _ rfl))
                have w145 : -1 ≤ Xi S 895 4 ∧ Xi S 895 4 ≤ 15 := hH.c _ _
                exact ⟨hHT2, hFT2, _, rfl, ⟨by omega, by omega⟩, (by first | assumption | exact (TOK_FR w56 rfl rfl rfl (by assumption : TOK T1))), (by omega), (by first | exact k162 | exact k74 | exact k6), (by first | exact i162 | exact i74 | exact i6), (by omega)⟩
        · refine l_iconst rfl ?_
          refine l_ireturn rfl rfl ?_
          have w146 : Xi T2 246 8 = Xi S 246 8 := (show Xi T2 246 8 = Xi T1 246 8 from w56.x _ _ rfl).trans ((show Xi T1 246 8 = Xi S 246 8 from w14.x _ _ rfl))
          have w147 : 0 ≤ Xi S 246 8 ∧ Xi S 246 8 ≤ 1666 := hH.c _ _
          have w148 : Xi T2 876 7 = Xi T1 876 7 := (show Xi T2 876 7 = Xi T1 876 7 from w56.x _ _ rfl)
          have w149 : 0 ≤ Xi T1 876 7 ∧ Xi T1 876 7 ≤ 5125 := hHT1.c _ _
          have w150 : Xi T2 895 4 = Xi S 895 4 := (show Xi T2 895 4 = Xi T1 895 4 from w56.x _ _ rfl).trans ((show Xi T1 895 4 = Xi S 895 4 from w14.x _ _ rfl))
          have w151 : -1 ≤ Xi S 895 4 ∧ Xi S 895 4 ≤ 15 := hH.c _ _
          exact ⟨hHT2, hFT2, _, rfl, ⟨by omega, by omega⟩, (by first | assumption | exact (TOK_FR w56 rfl rfl rfl (by assumption : TOK T1))), (by omega), (by first | exact k162 | exact k74 | exact k6), (by first | exact i162 | exact i74 | exact i6), (by omega)⟩
    · refine l_iload rfl rfl ?_
      refine l_iconst rfl ?_
      refine l_iadd rfl ?_
      refine l_goto rfl rfl ?_
      refine l_istore rfl rfl rfl ?_
      refine l_aload_n rfl rfl ?_
      refine l_gfr rfl rfl rfl rfl rfl (hHT1.r 899 2 895 rfl) ?_
      refine l_iload rfl rfl ?_
      refine l_aload_n rfl rfl ?_
      refine l_gfr rfl rfl rfl rfl rfl (hHT1.r 899 0 876 rfl) ?_
      have w152 : Xi T1 246 8 = Xi S 246 8 := (show Xi T1 246 8 = Xi S 246 8 from w14.x _ _ rfl)
      have w153 : 0 ≤ Xi S 246 8 ∧ Xi S 246 8 ≤ 1666 := hH.c _ _
      have w154 : 0 ≤ Xi T1 876 7 ∧ Xi T1 876 7 ≤ 5125 := hHT1.c _ _
      have w155 : Xi T1 895 4 = Xi S 895 4 := (show Xi T1 895 4 = Xi S 895 4 from w14.x _ _ rfl)
      have w156 : -1 ≤ Xi S 895 4 ∧ Xi S 895 4 ≤ 15 := hH.c _ _
      refine l_callV rfl rfl rfl (t_to_lastRow hHT1 _) ?_
      rintro _ _ ⟨rfl, z158, rfl, w158, w157⟩
      show Rl _ _ _ _ _ [iv z158, iv (z36 + 1), .ref 895] _ _
      have w159 : Xi T1 246 8 = Xi S 246 8 := (show Xi T1 246 8 = Xi S 246 8 from w14.x _ _ rfl)
      have w160 : 0 ≤ Xi S 246 8 ∧ Xi S 246 8 ≤ 1666 := hH.c _ _
      have w161 : 0 ≤ Xi T1 876 7 ∧ Xi T1 876 7 ≤ 5125 := hHT1.c _ _
      have w162 : Xi T1 895 4 = Xi S 895 4 := (show Xi T1 895 4 = Xi S 895 4 from w14.x _ _ rfl)
      have w163 : -1 ≤ Xi S 895 4 ∧ Xi S 895 4 ≤ 15 := hH.c _ _
      refine l_callV rfl rfl rfl (t_me_readThing hHT1 (z36 + 1) z158 ⟨by omega, by omega⟩ ⟨by omega, by omega⟩ (by first | assumption | exact (LEX_FR hFT1 rfl rfl (by assumption : LEX S))) _) ?_
      rintro _ T5 ⟨hHT5, w169, z168, rfl, w168, w164, w165, w166, w167⟩
      have hFT5 : FR md_rr_insert S T5 := FR.tr hFT1 w169 rfl
      show Rl _ _ _ _ _ [iv z168] _ _
      have wo74 : Xi T5 895 5 ≠ -1 → WHO (0 ≤ Xi S 895 4) (Xi T5 895 5) := fun q => who_of q (hHT5.c 895 5).1 (fun e => by have t := (by assumption : Xi T5 895 5 = -2 → 0 ≤ Xi T1 895 4) e; omega)
      have k74 : KTK S T5 (Xi S 876 6) := ktk_f (by assumption : FR md_me_readThing T1 T5) rfl k6
      have i74 : IGR S T5 (0 ≤ Xi S 895 4) := igr_f (by assumption : FR md_me_readThing T1 T5) rfl i6
      refine l_aload_n rfl rfl ?_
      refine l_gfr rfl rfl rfl rfl rfl (hHT5.r 899 0 876 rfl) ?_
      have w170 : Xi T5 246 8 = Xi S 246 8 := (show Xi T5 246 8 = Xi T1 246 8 from w169.x _ _ rfl).trans ((show Xi T1 246 8 = Xi S 246 8 from w14.x _ _ rfl))
      have w171 : 0 ≤ Xi S 246 8 ∧ Xi S 246 8 ≤ 1666 := hH.c _ _
      have w172 : Xi T5 876 7 = Xi T1 876 7 := (show Xi T5 876 7 = Xi T1 876 7 from w169.x _ _ rfl)
      have w173 : 0 ≤ Xi T1 876 7 ∧ Xi T1 876 7 ≤ 5125 := hHT1.c _ _
      have w174 : Xi T5 895 4 = Xi S 895 4 := (show Xi T5 895 4 = Xi T1 895 4 from w169.x _ _ rfl).trans ((show Xi T1 895 4 = Xi S 895 4 from w14.x _ _ rfl))
      have w175 : -1 ≤ Xi S 895 4 ∧ Xi S 895 4 ≤ 15 := hH.c _ _
      refine l_callV rfl rfl rfl (t_to_lastRow hHT5 _) ?_
      rintro _ _ ⟨rfl, z177, rfl, w177, w176⟩
      show Rl _ _ _ _ _ [iv z177, iv z168] _ _
      refine l_icmp_ne rfl rfl (by unfold rg; omega) (by unfold rg; omega) (fun w178 => ?_) (fun w179 => ?_)
      · refine l_iconst rfl ?_
        refine l_ireturn rfl rfl ?_
        have w180 : Xi T5 246 8 = Xi S 246 8 := (show Xi T5 246 8 = Xi T1 246 8 from w169.x _ _ rfl).trans ((show Xi T1 246 8 = Xi S 246 8 from w14.x _ _ rfl))
        have w181 : 0 ≤ Xi S 246 8 ∧ Xi S 246 8 ≤ 1666 := hH.c _ _
        have w182 : Xi T5 876 7 = Xi T1 876 7 := (show Xi T5 876 7 = Xi T1 876 7 from w169.x _ _ rfl)
        have w183 : 0 ≤ Xi T1 876 7 ∧ Xi T1 876 7 ≤ 5125 := hHT1.c _ _
        have w184 : Xi T5 895 4 = Xi S 895 4 := (show Xi T5 895 4 = Xi T1 895 4 from w169.x _ _ rfl).trans ((show Xi T1 895 4 = Xi S 895 4 from w14.x _ _ rfl))
        have w185 : -1 ≤ Xi S 895 4 ∧ Xi S 895 4 ≤ 15 := hH.c _ _
        exact ⟨hHT5, hFT5, _, rfl, ⟨by omega, by omega⟩, (by first | assumption | exact (TOK_FR w169 rfl rfl rfl (by assumption : TOK T1))), (by omega), (by first | exact k162 | exact k74 | exact k6), (by first | exact i162 | exact i74 | exact i6), (by omega)⟩
      · refine l_aload_n rfl rfl ?_
        refine l_gfr rfl rfl rfl rfl rfl (hHT5.r 899 2 895 rfl) ?_
        refine l_gfi rfl rfl rfl rfl rfl ?_
        have w186 : -2 ≤ (Xi T5 895 5) ∧ (Xi T5 895 5) ≤ 23 := hHT5.c _ _
        refine l_iconst rfl ?_
        refine l_icmp_ne rfl rfl (by unfold rg; omega) (by unfold rg; omega) (fun w187 => ?_) (fun w188 => ?_)
        · refine l_iload rfl rfl ?_
          refine l_if_eq rfl rfl (by unfold rg; omega) (fun w189 => ?_) (fun w190 => ?_)
          · refine l_aload_n rfl rfl ?_
            refine l_gfr rfl rfl rfl rfl rfl (hHT5.r 899 3 246 rfl) ?_
            refine l_aload_n rfl rfl ?_
            refine l_gfr rfl rfl rfl rfl rfl (hHT5.r 899 2 895 rfl) ?_
            refine l_gfi rfl rfl rfl rfl rfl ?_
            refine l_iload rfl rfl ?_
            have w191 : Xi T5 246 8 = Xi S 246 8 := (show Xi T5 246 8 = Xi T1 246 8 from w169.x _ _ rfl).trans ((show Xi T1 246 8 = Xi S 246 8 from w14.x _ _ rfl))
            have w192 : 0 ≤ Xi S 246 8 ∧ Xi S 246 8 ≤ 1666 := hH.c _ _
            have w193 : Xi T5 876 7 = Xi T1 876 7 := (show Xi T5 876 7 = Xi T1 876 7 from w169.x _ _ rfl)
            have w194 : 0 ≤ Xi T1 876 7 ∧ Xi T1 876 7 ≤ 5125 := hHT1.c _ _
            have w195 : Xi T5 895 4 = Xi S 895 4 := (show Xi T5 895 4 = Xi T1 895 4 from w169.x _ _ rfl).trans ((show Xi T1 895 4 = Xi S 895 4 from w14.x _ _ rfl))
            have w196 : -1 ≤ Xi S 895 4 ∧ Xi S 895 4 ≤ 15 := hH.c _ _
            refine l_callV rfl rfl rfl (t_bo_addInsert__2 hHT5 (Xi T5 895 5) (-1) ⟨by omega, by omega⟩ ⟨by omega, by omega⟩ _) ?_
            rintro _ T6 ⟨hHT6, w200, rfl, w197, w198⟩
            have hFT6 : FR md_rr_insert S T6 := FR.tr hFT5 w200 rfl
            show Rl _ _ _ _ _ [] _ _
            have k162 : KTK S T6 (Xi S 876 6) := ktk_f (by assumption : FR md_bo_addInsert__2 T5 T6) rfl k74
            have i162 : IGR S T6 (0 ≤ Xi S 895 4) := IGR.tr i74 ((by assumption : IAD T5 T6 _ _) (0 ≤ Xi S 895 4) (fun q => wo74 (by omega))) (fun x => x)
            refine l_iconst rfl ?_
            refine l_ireturn rfl rfl ?_
            have w201 : 0 ≤ Xi T6 246 8 ∧ Xi T6 246 8 ≤ 1666 := hHT6.c _ _
            have w202 : Xi T6 876 7 = Xi T1 876 7 := (show Xi T6 876 7 = Xi T5 876 7 from w200.x _ _ rfl).trans ((show Xi T5 876 7 = Xi T1 876 7 from w169.x _ _ rfl))
            have w203 : 0 ≤ Xi T1 876 7 ∧ Xi T1 876 7 ≤ 5125 := hHT1.c _ _
            have w204 : Xi T6 895 4 = Xi S 895 4 := (show Xi T6 895 4 = Xi T5 895 4 from w200.x _ _ rfl).trans ( (show Xi T5 895 4 = Xi T1 895 4 from w169.x _ _ rfl).trans ((show Xi T1 895 4 = Xi S 895 4 from w14.x _ _ rfl)))
            have w205 : -1 ≤ Xi S 895 4 ∧ Xi S 895 4 ≤ 15 := hH.c _ _
            exact ⟨hHT6, hFT6, _, rfl, ⟨by omega, by omega⟩, (by first | assumption | exact (TOK_FR w200 rfl rfl rfl (TOK_FR w169 rfl rfl rfl (by assumption : TOK T1)))), (by omega), (by first | exact k162 | exact k74 | exact k6), (by first | exact i162 | exact i74 | exact i6), (by omega)⟩
          · refine l_aload_n rfl rfl ?_
            refine l_gfr rfl rfl rfl rfl rfl (hHT5.r 899 2 895 rfl) ?_
            refine l_iconst rfl ?_
            refine l_iload rfl rfl ?_
            refine l_iload rfl rfl ?_
            have w206 : Xi T5 246 8 = Xi S 246 8 := (show Xi T5 246 8 = Xi T1 246 8 from w169.x _ _ rfl).trans ((show Xi T1 246 8 = Xi S 246 8 from w14.x _ _ rfl))
            have w207 : 0 ≤ Xi S 246 8 ∧ Xi S 246 8 ≤ 1666 := hH.c _ _
            have w208 : Xi T5 876 7 = Xi T1 876 7 := (show Xi T5 876 7 = Xi T1 876 7 from w169.x _ _ rfl)
            have w209 : 0 ≤ Xi T1 876 7 ∧ Xi T1 876 7 ≤ 5125 := hHT1.c _ _
            have w210 : Xi T5 895 4 = Xi S 895 4 := (show Xi T5 895 4 = Xi T1 895 4 from w169.x _ _ rfl).trans ((show Xi T1 895 4 = Xi S 895 4 from w14.x _ _ rfl))
            have w211 : -1 ≤ Xi S 895 4 ∧ Xi S 895 4 ≤ 15 := hH.c _ _
            refine l_callV rfl rfl rfl (t_me_find hHT5 5 (z13 + 1) z36 ⟨by omega, by omega⟩ ⟨by omega, by omega⟩ ⟨by omega, by omega⟩ (by first | assumption | exact (LEX_FR hFT5 rfl rfl (by assumption : LEX S))) _) ?_
            rintro _ _ ⟨rfl, z215, rfl, w215, w212, w213, w214⟩
            have w216 : z215 ≠ -1 → _ := fun h => fb5 hHT5 (w212 h)
            clear w213
            show Rl _ _ _ _ _ [iv z215] _ _
            refine l_istore rfl rfl rfl ?_
            refine l_iload rfl rfl ?_
            refine l_iconst rfl ?_
            refine l_icmp_eq rfl rfl (by unfold rg; omega) (by unfold rg; omega) (fun w217 => ?_) (fun w218 => ?_)
            · refine l_iconst rfl ?_
              refine l_ireturn rfl rfl ?_
              have w219 : Xi T5 246 8 = Xi S 246 8 := (show Xi T5 246 8 = Xi T1 246 8 from w169.x _ _ rfl).trans ((show Xi T1 246 8 = Xi S 246 8 from w14.x _ _ rfl))
              have w220 : 0 ≤ Xi S 246 8 ∧ Xi S 246 8 ≤ 1666 := hH.c _ _
              have w221 : Xi T5 876 7 = Xi T1 876 7 := (show Xi T5 876 7 = Xi T1 876 7 from w169.x _ _ rfl)
              have w222 : 0 ≤ Xi T1 876 7 ∧ Xi T1 876 7 ≤ 5125 := hHT1.c _ _
              have w223 : Xi T5 895 4 = Xi S 895 4 := (show Xi T5 895 4 = Xi T1 895 4 from w169.x _ _ rfl).trans ((show Xi T1 895 4 = Xi S 895 4 from w14.x _ _ rfl))
              have w224 : -1 ≤ Xi S 895 4 ∧ Xi S 895 4 ≤ 15 := hH.c _ _
              exact ⟨hHT5, hFT5, _, rfl, ⟨by omega, by omega⟩, (by first | assumption | exact (TOK_FR w169 rfl rfl rfl (by assumption : TOK T1))), (by omega), (by first | exact k162 | exact k74 | exact k6), (by first | exact i162 | exact i74 | exact i6), (by omega)⟩
            · refine l_aload_n rfl rfl ?_
              refine l_gfr rfl rfl rfl rfl rfl (hHT5.r 899 1 1 rfl) ?_
              refine l_aload_n rfl rfl ?_
              refine l_gfr rfl rfl rfl rfl rfl (hHT5.r 899 2 895 rfl) ?_
              refine l_gfi rfl rfl rfl rfl rfl ?_
              have w225 : -1 ≤ (Xi T5 895 6) ∧ (Xi T5 895 6) ≤ 15 := hHT5.c _ _
              have w226 : Xi T5 246 8 = Xi S 246 8 := (show Xi T5 246 8 = Xi T1 246 8 from w169.x _ _ rfl).trans ((show Xi T1 246 8 = Xi S 246 8 from w14.x _ _ rfl))
              have w227 : 0 ≤ Xi S 246 8 ∧ Xi S 246 8 ≤ 1666 := hH.c _ _
              have w228 : Xi T5 876 7 = Xi T1 876 7 := (show Xi T5 876 7 = Xi T1 876 7 from w169.x _ _ rfl)
              have w229 : 0 ≤ Xi T1 876 7 ∧ Xi T1 876 7 ≤ 5125 := hHT1.c _ _
              have w230 : Xi T5 895 4 = Xi S 895 4 := (show Xi T5 895 4 = Xi T1 895 4 from w169.x _ _ rfl).trans ((show Xi T1 895 4 = Xi S 895 4 from w14.x _ _ rfl))
              have w231 : -1 ≤ Xi S 895 4 ∧ Xi S 895 4 ≤ 15 := hH.c _ _
              refine l_callV rfl rfl rfl (t_vo_propertiesOf hHT5 (Xi T5 895 6) ⟨by omega, by omega⟩ _) ?_
              rintro _ _ ⟨rfl, z233, rfl, w233, w232⟩
              show Rl _ _ _ _ _ [iv z233] _ _
              refine l_iload rfl rfl ?_
              refine l_ishrF rfl ?_
              have w234 : -2147483648 ≤ (ishrF z233 z215) ∧ (ishrF z233 z215) ≤ 2147483647 := ishrF_rg
              refine l_iconst rfl ?_
              refine l_iandF rfl ?_
              have w235 : 0 ≤ (iandF (ishrF z233 z215) 1) ∧ (iandF (ishrF z233 z215) 1) ≤ 1 := iandF_le (by omega) (by unfold rg; omega)
              refine l_if_ne rfl rfl (by unfold rg; omega) (fun w236 => ?_) (fun w237 => ?_)
              · refine l_aload_n rfl rfl ?_
                refine l_gfr rfl rfl rfl rfl rfl (hHT5.r 899 3 246 rfl) ?_
                refine l_aload_n rfl rfl ?_
                refine l_gfr rfl rfl rfl rfl rfl (hHT5.r 899 2 895 rfl) ?_
                refine l_gfi rfl rfl rfl rfl rfl ?_
                refine l_iload rfl rfl ?_
                have w238 : Xi T5 246 8 = Xi S 246 8 := (show Xi T5 246 8 = Xi T1 246 8 from w169.x _ _ rfl).trans ((show Xi T1 246 8 = Xi S 246 8 from w14.x _ _ rfl))
                have w239 : 0 ≤ Xi S 246 8 ∧ Xi S 246 8 ≤ 1666 := hH.c _ _
                have w240 : Xi T5 876 7 = Xi T1 876 7 := (show Xi T5 876 7 = Xi T1 876 7 from w169.x _ _ rfl)
                have w241 : 0 ≤ Xi T1 876 7 ∧ Xi T1 876 7 ≤ 5125 := hHT1.c _ _
                have w242 : Xi T5 895 4 = Xi S 895 4 := (show Xi T5 895 4 = Xi T1 895 4 from w169.x _ _ rfl).trans ((show Xi T1 895 4 = Xi S 895 4 from w14.x _ _ rfl))
                have w243 : -1 ≤ Xi S 895 4 ∧ Xi S 895 4 ≤ 15 := hH.c _ _
                refine l_callV rfl rfl rfl (t_bo_addInsert__2 hHT5 (Xi T5 895 5) z215 ⟨by omega, by omega⟩ ⟨by omega, by omega⟩ _) ?_
                rintro _ T7 ⟨hHT7, w247, rfl, w244, w245⟩
                have hFT7 : FR md_rr_insert S T7 := FR.tr hFT5 w247 rfl
                show Rl _ _ _ _ _ [] _ _
                have k162 : KTK S T7 (Xi S 876 6) := ktk_f (by assumption : FR md_bo_addInsert__2 T5 T7) rfl k74
                have i162 : IGR S T7 (0 ≤ Xi S 895 4) := IGR.tr i74 ((by assumption : IAD T5 T7 _ _) (0 ≤ Xi S 895 4) (fun q => wo74 (by omega))) (fun x => x)
                refine l_iconst rfl ?_
                refine l_ireturn rfl rfl ?_
                have w248 : 0 ≤ Xi T7 246 8 ∧ Xi T7 246 8 ≤ 1666 := hHT7.c _ _
                have w249 : Xi T7 876 7 = Xi T1 876 7 := (show Xi T7 876 7 = Xi T5 876 7 from w247.x _ _ rfl).trans ((show Xi T5 876 7 = Xi T1 876 7 from w169.x _ _ rfl))
                have w250 : 0 ≤ Xi T1 876 7 ∧ Xi T1 876 7 ≤ 5125 := hHT1.c _ _
                have w251 : Xi T7 895 4 = Xi S 895 4 := (show Xi T7 895 4 = Xi T5 895 4 from w247.x _ _ rfl).trans ( (show Xi T5 895 4 = Xi T1 895 4 from w169.x _ _ rfl).trans ((show Xi T1 895 4 = Xi S 895 4 from w14.x _ _ rfl)))
                have w252 : -1 ≤ Xi S 895 4 ∧ Xi S 895 4 ≤ 15 := hH.c _ _
                exact ⟨hHT7, hFT7, _, rfl, ⟨by omega, by omega⟩, (by first | assumption | exact (TOK_FR w247 rfl rfl rfl (TOK_FR w169 rfl rfl rfl (by assumption : TOK T1)))), (by omega), (by first | exact k162 | exact k74 | exact k6), (by first | exact i162 | exact i74 | exact i6), (by omega)⟩
              · refine l_iconst rfl ?_
                refine l_ireturn rfl rfl ?_
                have w253 : Xi T5 246 8 = Xi S 246 8 := (show Xi T5 246 8 = Xi T1 246 8 from w169.x _ _ rfl).trans ((show Xi T1 246 8 = Xi S 246 8 from w14.x _ _ rfl))
                have w254 : 0 ≤ Xi S 246 8 ∧ Xi S 246 8 ≤ 1666 := hH.c _ _
                have w255 : Xi T5 876 7 = Xi T1 876 7 := (show Xi T5 876 7 = Xi T1 876 7 from w169.x _ _ rfl)
                have w256 : 0 ≤ Xi T1 876 7 ∧ Xi T1 876 7 ≤ 5125 := hHT1.c _ _
                have w257 : Xi T5 895 4 = Xi S 895 4 := (show Xi T5 895 4 = Xi T1 895 4 from w169.x _ _ rfl).trans ((show Xi T1 895 4 = Xi S 895 4 from w14.x _ _ rfl))
                have w258 : -1 ≤ Xi S 895 4 ∧ Xi S 895 4 ≤ 15 := hH.c _ _
                exact ⟨hHT5, hFT5, _, rfl, ⟨by omega, by omega⟩, (by first | assumption | exact (TOK_FR w169 rfl rfl rfl (by assumption : TOK T1))), (by omega), (by first | exact k162 | exact k74 | exact k6), (by first | exact i162 | exact i74 | exact i6), (by omega)⟩
        · refine l_iconst rfl ?_
          refine l_ireturn rfl rfl ?_
          have w259 : Xi T5 246 8 = Xi S 246 8 := (show Xi T5 246 8 = Xi T1 246 8 from w169.x _ _ rfl).trans ((show Xi T1 246 8 = Xi S 246 8 from w14.x _ _ rfl))
          have w260 : 0 ≤ Xi S 246 8 ∧ Xi S 246 8 ≤ 1666 := hH.c _ _
          have w261 : Xi T5 876 7 = Xi T1 876 7 := (show Xi T5 876 7 = Xi T1 876 7 from w169.x _ _ rfl)
          have w262 : 0 ≤ Xi T1 876 7 ∧ Xi T1 876 7 ≤ 5125 := hHT1.c _ _
          have w263 : Xi T5 895 4 = Xi S 895 4 := (show Xi T5 895 4 = Xi T1 895 4 from w169.x _ _ rfl).trans ((show Xi T1 895 4 = Xi S 895 4 from w14.x _ _ rfl))
          have w264 : -1 ≤ Xi S 895 4 ∧ Xi S 895 4 ≤ 15 := hH.c _ _
          exact ⟨hHT5, hFT5, _, rfl, ⟨by omega, by omega⟩, (by first | assumption | exact (TOK_FR w169 rfl rfl rfl (by assumption : TOK T1))), (by omega), (by first | exact k162 | exact k74 | exact k6), (by first | exact i162 | exact i74 | exact i6), (by omega)⟩
  · refine l_iconst rfl ?_
    refine l_ireturn rfl rfl ?_
    have w265 : Xi T1 246 8 = Xi S 246 8 := (show Xi T1 246 8 = Xi S 246 8 from w14.x _ _ rfl)
    have w266 : 0 ≤ Xi S 246 8 ∧ Xi S 246 8 ≤ 1666 := hH.c _ _
    have w267 : 0 ≤ Xi T1 876 7 ∧ Xi T1 876 7 ≤ 5125 := hHT1.c _ _
    have w268 : Xi T1 895 4 = Xi S 895 4 := (show Xi T1 895 4 = Xi S 895 4 from w14.x _ _ rfl)
    have w269 : -1 ≤ Xi S 895 4 ∧ Xi S 895 4 ≤ 15 := hH.c _ _
    exact ⟨hHT1, hFT1, _, rfl, ⟨by omega, by omega⟩, (by first | assumption | exact (by assumption : TOK T1)), (by omega), (by first | exact k162 | exact k74 | exact k6), (by first | exact i162 | exact i74 | exact i6), (by omega)⟩

