/-! SAFETY of methods: printed by wip/safe (vc.py, decl.py) -/
def md_me_readWhat : List rec := [(876, 877, 8, 9), (876, 877, 9, 10), (895, 896, 10, 11), (895, 896, 11, 12)]
abbrev Q_me_readWhat (S : sS) (row : Int) (type : Int) : pst := fun r S1 => HI S1 ∧ FR md_me_readWhat S S1 ∧ (∃ z : Int, r = some (iv z) ∧ (0 ≤ z ∧ z ≤ 1) ∧ (z = 1 → TXT S1 (Xi S1 895 10) (Xi S1 895 11)) ∧ (z = 0 → Xi S1 876 8 ≠ 0))
set_option maxRecDepth 100000 in
theorem t_me_readWhat {S : sS} (hH : HI S) (row : Int) (type : Int) (hrow : 0 ≤ row ∧ row ≤ 5140) (htype : 0 ≤ type ∧ type ≤ 7) (hL : LEX S) (hT : TOK S) (hS : SRX S) (d : Nat) : Mt lay0 (d + 2) m_me_readWhat [.ref 895, iv row, iv type] S (Q_me_readWhat S row type) := by
  refine Mt_R rfl rfl ?_
  have hF : FR md_me_readWhat S S := FR.rf
  have w1 : -2147483648 ≤ Xi S 895 11 ∧ Xi S 895 11 ≤ 2147483647 := Xi_rgI
  have htk : 0 ≤ row → row < Xi S 876 7 → Xi S 877 row.toNat = 102 → 0 ≤ Xj S 879 row.toNat ∧ Xj S 879 row.toNat ≤ 120 ∧ Xi S 878 row.toNat + Xj S 879 row.toNat + 2 ≤ Xi S 876 5 := fun h1 h2 h3 => hT row.toNat (by omega) h3
  have C73 : ∀  (T1 : sS) (_ : HI T1) (_ : FR md_me_readWhat S T1) (v3 : Int), (0 ≤ v3 ∧ v3 ≤ 108) → (Xi T1 895 11 = 0) → Rl lay0 (d + 1) m_me_readWhat 73 [(0, .ref 895), (1, iv row), (2, iv type), (3, iv v3)] [] T1 (Q_me_readWhat S row type) := by
    intro T1 hHT1 hFT1 v3 w2 w3
    have w4 : Xi T1 876 7 = Xi S 876 7 := hFT1.x _ _ rfl
    have w5 : -2147483648 ≤ Xi T1 895 11 ∧ Xi T1 895 11 ≤ 2147483647 := Xi_rgI
    refine l_iload_n rfl rfl ?_
    refine l_bipush rfl rfl ?_
    refine l_icmp_ne rfl rfl (by unfold rg; omega) (by unfold rg; omega) (fun w6 => ?_) (fun w7 => ?_)
    · refine l_iconst rfl ?_
      refine l_istore rfl rfl rfl ?_
      refine l_iload rfl rfl ?_
      refine l_bipush rfl rfl ?_
      refine l_ishr8 rfl (by unfold rg; omega) ?_
      refine l_iconst rfl ?_
      refine l_icmp_ne rfl rfl (by unfold rg; omega) (by unfold rg; omega) (fun w9 => ?_) (fun w10 => ?_)
      · refine l_aload_n rfl rfl ?_
        refine l_gfr rfl rfl rfl rfl rfl (hHT1.r 895 0 876 rfl) ?_
        refine l_iconst rfl ?_
        refine l_iload_n rfl rfl ?_
        have w11 : 0 ≤ Xi T1 876 5 ∧ Xi T1 876 5 ≤ 5000 := hHT1.c _ _
        have w12 : 0 ≤ Xi T1 876 7 ∧ Xi T1 876 7 ≤ 5125 := hHT1.c _ _
        refine l_callV rfl rfl rfl (t_to_wrong hHT1 4 row ⟨by omega, by omega⟩ ⟨by omega, by omega⟩ _) ?_
        rintro _ T2 ⟨hHT2, w16, z15, rfl, w15, w13, w14⟩
        have hFT2 : FR md_me_readWhat S T2 := FR.tr hFT1 w16 rfl
        show Rl _ _ _ _ _ [iv z15] _ _
        refine l_ireturn rfl (retI_z (by omega)) ?_
        have w17 : Xi T2 876 5 = Xi T1 876 5 := (show Xi T2 876 5 = Xi T1 876 5 from w16.x _ _ rfl)
        have w18 : 0 ≤ Xi T1 876 5 ∧ Xi T1 876 5 ≤ 5000 := hHT1.c _ _
        have w19 : Xi T2 876 7 = Xi T1 876 7 := (show Xi T2 876 7 = Xi T1 876 7 from w16.x _ _ rfl)
        have w20 : 0 ≤ Xi T1 876 7 ∧ Xi T1 876 7 ≤ 5125 := hHT1.c _ _
        have w21 : 0 ≤ Xi T2 876 8 ∧ Xi T2 876 8 ≤ 9 := hHT2.c _ _
        have w22 : Xi T2 895 10 = Xi T1 895 10 := (show Xi T2 895 10 = Xi T1 895 10 from w16.x _ _ rfl)
        have w23 : Xi T2 895 11 = Xi T1 895 11 := (show Xi T2 895 11 = Xi T1 895 11 from w16.x _ _ rfl)
        exact ⟨hHT2, hFT2, _, rfl, ⟨by omega, by omega⟩, (by first | (intro hz; omega) | (intro _; exact Or.inl (by omega)) | (intro _; exact tx_mk (SRX_FR hFT2 rfl hS) (by omega) (by omega))), (by omega)⟩
      · refine l_aload_n rfl rfl ?_
        refine l_gfr rfl rfl rfl rfl rfl (hHT1.r 895 1 1 rfl) ?_
        refine l_gfr rfl rfl rfl rfl rfl (hHT1.r 1 7 8 rfl) ?_
        refine l_iload rfl rfl ?_
        refine l_sipush rfl rfl ?_
        refine l_iand255 rfl (by unfold rg; omega) ?_
        refine l_iaload (n := 64) rfl rfl (by omega) (by omega) (by unfold rg; omega) ?_
        have w25 : 0 ≤ (Xi T1 8 ((((-1) % 256)).toNat)) ∧ (Xi T1 8 ((((-1) % 256)).toNat)) ≤ 7 := hHT1.c _ _
        refine l_iload_n rfl rfl ?_
        refine l_icmp_ne rfl rfl (by unfold rg; omega) (by unfold rg; omega) (fun w26 => ?_) (fun w27 => ?_)
        · refine l_aload_n rfl rfl ?_
          refine l_gfr rfl rfl rfl rfl rfl (hHT1.r 895 0 876 rfl) ?_
          refine l_iconst rfl ?_
          refine l_iload_n rfl rfl ?_
          have w28 : 0 ≤ Xi T1 876 5 ∧ Xi T1 876 5 ≤ 5000 := hHT1.c _ _
          have w29 : 0 ≤ Xi T1 876 7 ∧ Xi T1 876 7 ≤ 5125 := hHT1.c _ _
          refine l_callV rfl rfl rfl (t_to_wrong hHT1 4 row ⟨by omega, by omega⟩ ⟨by omega, by omega⟩ _) ?_
          rintro _ T3 ⟨hHT3, w33, z32, rfl, w32, w30, w31⟩
          have hFT3 : FR md_me_readWhat S T3 := FR.tr hFT1 w33 rfl
          show Rl _ _ _ _ _ [iv z32] _ _
          refine l_ireturn rfl (retI_z (by omega)) ?_
          have w34 : Xi T3 876 5 = Xi T1 876 5 := (show Xi T3 876 5 = Xi T1 876 5 from w33.x _ _ rfl)
          have w35 : 0 ≤ Xi T1 876 5 ∧ Xi T1 876 5 ≤ 5000 := hHT1.c _ _
          have w36 : Xi T3 876 7 = Xi T1 876 7 := (show Xi T3 876 7 = Xi T1 876 7 from w33.x _ _ rfl)
          have w37 : 0 ≤ Xi T1 876 7 ∧ Xi T1 876 7 ≤ 5125 := hHT1.c _ _
          have w38 : 0 ≤ Xi T3 876 8 ∧ Xi T3 876 8 ≤ 9 := hHT3.c _ _
          have w39 : Xi T3 895 10 = Xi T1 895 10 := (show Xi T3 895 10 = Xi T1 895 10 from w33.x _ _ rfl)
          have w40 : Xi T3 895 11 = Xi T1 895 11 := (show Xi T3 895 11 = Xi T1 895 11 from w33.x _ _ rfl)
          exact ⟨hHT3, hFT3, _, rfl, ⟨by omega, by omega⟩, (by first | (intro hz; omega) | (intro _; exact Or.inl (by omega)) | (intro _; exact tx_mk (SRX_FR hFT3 rfl hS) (by omega) (by omega))), (by omega)⟩
        · refine l_aload_n rfl rfl ?_
          refine l_iload rfl rfl ?_
          refine l_sipush rfl rfl ?_
          refine l_iand255 rfl (by unfold rg; omega) ?_
          refine l_pfi rfl rfl rfl rfl ?_
          obtain ⟨U4, eU4⟩ : ∃ T : sS, T = uI T1 895 10 (Int32.ofInt ((-1) % 256)) := ⟨_, rfl⟩
          rw [← eU4]
          have hHU4 : HI U4 := by rw [eU4]; exact HI_any hHT1 (rfl)
          have hFU4 : FR md_me_readWhat S U4 := by rw [eU4]; exact FR.wI hFT1 (mdf_i (r := (895, 896, 10, 11)) (List.mem_of_getElem? (i := 2) rfl) (inR_i (by omega) (by omega) (by omega) (by omega)))
          have w42 : Xi U4 895 10 = ((-1) % 256) := by rw [eU4]; exact Xi_same (by unfold rg; omega)
          refine l_iconst rfl ?_
          refine l_ireturn rfl rfl ?_
          have w43 : Xi U4 876 5 = Xi T1 876 5 := (show Xi U4 876 5 = Xi T1 876 5 from by rw [eU4]; exact Xi_ne (by omega))
          have w44 : 0 ≤ Xi T1 876 5 ∧ Xi T1 876 5 ≤ 5000 := hHT1.c _ _
          have w45 : Xi U4 876 7 = Xi T1 876 7 := (show Xi U4 876 7 = Xi T1 876 7 from by rw [eU4]; exact Xi_ne (by omega))
          have w46 : 0 ≤ Xi T1 876 7 ∧ Xi T1 876 7 ≤ 5125 := hHT1.c _ _
          have w47 : Xi U4 876 8 = Xi T1 876 8 := (show Xi U4 876 8 = Xi T1 876 8 from by rw [eU4]; exact Xi_ne (by omega))
          have w48 : 0 ≤ Xi T1 876 8 ∧ Xi T1 876 8 ≤ 9 := hHT1.c _ _
          have w49 : Xi U4 895 11 = Xi T1 895 11 := (show Xi U4 895 11 = Xi T1 895 11 from by rw [eU4]; exact Xi_ne (by omega))
          exact ⟨hHU4, hFU4, _, rfl, ⟨by omega, by omega⟩, (by first | (intro hz; omega) | (intro _; exact Or.inl (by omega)) | (intro _; exact tx_mk (SRX_FR hFU4 rfl hS) (by omega) (by omega))), (by omega)⟩
    · refine l_aload_n rfl rfl ?_
      refine l_gfr rfl rfl rfl rfl rfl (hHT1.r 895 1 1 rfl) ?_
      refine l_aload_n rfl rfl ?_
      refine l_gfr rfl rfl rfl rfl rfl (hHT1.r 895 0 876 rfl) ?_
      refine l_gfr rfl rfl rfl rfl rfl (hHT1.r 876 2 879 rfl) ?_
      refine l_iload_n rfl rfl ?_
      refine l_aload_n rfl rfl ?_
      refine l_gfr rfl rfl rfl rfl rfl (hHT1.r 895 0 876 rfl) ?_
      refine l_iload_n rfl rfl ?_
      refine l_iload_n rfl rfl ?_
      refine l_iconst rfl ?_
      refine l_iadd rfl ?_
      refine l_iconst rfl ?_
      refine l_iadd rfl ?_
      have w50 : 0 ≤ Xi T1 876 5 ∧ Xi T1 876 5 ≤ 5000 := hHT1.c _ _
      have w51 : 0 ≤ Xi T1 876 7 ∧ Xi T1 876 7 ≤ 5125 := hHT1.c _ _
      refine l_callV rfl rfl rfl (t_to_runEndUpTo hHT1 row ((row + 3) + 1) ⟨by omega, by omega⟩ ⟨by omega, by omega⟩ _) ?_
      rintro _ _ ⟨rfl, z59, rfl, w59, w52, w53, w54, w55, w56, w57, w58⟩
      clear w54 w55 w56 w57
      show Rl _ _ _ _ _ [iv z59, iv row, .ref 879, .ref 1] _ _
      have w60 : 0 ≤ Xi T1 876 5 ∧ Xi T1 876 5 ≤ 5000 := hHT1.c _ _
      have w61 : 0 ≤ Xi T1 876 7 ∧ Xi T1 876 7 ≤ 5125 := hHT1.c _ _
      refine l_callV rfl rfl rfl (t_vo_meaning hHT1 879 5130 row z59 rfl ⟨by omega, by omega⟩ ⟨by omega, by omega⟩ ⟨by omega, by omega⟩ (by first | assumption | exact (LEX_FR hFT1 rfl rfl (by assumption : LEX S))) _) ?_
      rintro _ _ ⟨rfl, z65, rfl, w65, w62, w63, w64⟩
      show Rl _ _ _ _ _ [iv z65] _ _
      have hmnz65 := mOK_n (z := z65) (by assumption)
      refine l_goto rfl rfl ?_
      refine l_istore rfl rfl rfl ?_
      refine l_iload rfl rfl ?_
      refine l_bipush rfl rfl ?_
      refine l_ishr8 rfl (by unfold rg; omega) ?_
      refine l_iconst rfl ?_
      refine l_icmp_ne rfl rfl (by unfold rg; omega) (by unfold rg; omega) (fun w67 => ?_) (fun w68 => ?_)
      · refine l_aload_n rfl rfl ?_
        refine l_gfr rfl rfl rfl rfl rfl (hHT1.r 895 0 876 rfl) ?_
        refine l_iconst rfl ?_
        refine l_iload_n rfl rfl ?_
        have w69 : 0 ≤ Xi T1 876 5 ∧ Xi T1 876 5 ≤ 5000 := hHT1.c _ _
        have w70 : 0 ≤ Xi T1 876 7 ∧ Xi T1 876 7 ≤ 5125 := hHT1.c _ _
        refine l_callV rfl rfl rfl (t_to_wrong hHT1 4 row ⟨by omega, by omega⟩ ⟨by omega, by omega⟩ _) ?_
        rintro _ T5 ⟨hHT5, w74, z73, rfl, w73, w71, w72⟩
        have hFT5 : FR md_me_readWhat S T5 := FR.tr hFT1 w74 rfl
        show Rl _ _ _ _ _ [iv z73] _ _
        refine l_ireturn rfl (retI_z (by omega)) ?_
        have w75 : Xi T5 876 5 = Xi T1 876 5 := (show Xi T5 876 5 = Xi T1 876 5 from w74.x _ _ rfl)
        have w76 : 0 ≤ Xi T1 876 5 ∧ Xi T1 876 5 ≤ 5000 := hHT1.c _ _
        have w77 : Xi T5 876 7 = Xi T1 876 7 := (show Xi T5 876 7 = Xi T1 876 7 from w74.x _ _ rfl)
        have w78 : 0 ≤ Xi T1 876 7 ∧ Xi T1 876 7 ≤ 5125 := hHT1.c _ _
        have w79 : 0 ≤ Xi T5 876 8 ∧ Xi T5 876 8 ≤ 9 := hHT5.c _ _
        have w80 : Xi T5 895 10 = Xi T1 895 10 := (show Xi T5 895 10 = Xi T1 895 10 from w74.x _ _ rfl)
        have w81 : Xi T5 895 11 = Xi T1 895 11 := (show Xi T5 895 11 = Xi T1 895 11 from w74.x _ _ rfl)
        exact ⟨hHT5, hFT5, _, rfl, ⟨by omega, by omega⟩, (by first | (intro hz; omega) | (intro _; exact Or.inl (by omega)) | (intro _; exact tx_mk (SRX_FR hFT5 rfl hS) (by omega) (by omega))), (by omega)⟩
      · refine l_aload_n rfl rfl ?_
        refine l_gfr rfl rfl rfl rfl rfl (hHT1.r 895 1 1 rfl) ?_
        refine l_gfr rfl rfl rfl rfl rfl (hHT1.r 1 7 8 rfl) ?_
        refine l_iload rfl rfl ?_
        refine l_sipush rfl rfl ?_
        refine l_iand255 rfl (by unfold rg; omega) ?_
        have w83 := fb4 hHT1 (lx (z := z65) (by assumption) (by omega) (by omega))
        refine l_iaload (n := 64) rfl rfl (by omega) (by omega) (by unfold rg; omega) ?_
        have w84 : 0 ≤ (Xi T1 8 (((z65 % 256)).toNat)) ∧ (Xi T1 8 (((z65 % 256)).toNat)) ≤ 7 := hHT1.c _ _
        refine l_iload_n rfl rfl ?_
        refine l_icmp_ne rfl rfl (by unfold rg; omega) (by unfold rg; omega) (fun w85 => ?_) (fun w86 => ?_)
        · refine l_aload_n rfl rfl ?_
          refine l_gfr rfl rfl rfl rfl rfl (hHT1.r 895 0 876 rfl) ?_
          refine l_iconst rfl ?_
          refine l_iload_n rfl rfl ?_
          have w87 : 0 ≤ Xi T1 876 5 ∧ Xi T1 876 5 ≤ 5000 := hHT1.c _ _
          have w88 : 0 ≤ Xi T1 876 7 ∧ Xi T1 876 7 ≤ 5125 := hHT1.c _ _
          refine l_callV rfl rfl rfl (t_to_wrong hHT1 4 row ⟨by omega, by omega⟩ ⟨by omega, by omega⟩ _) ?_
          rintro _ T6 ⟨hHT6, w92, z91, rfl, w91, w89, w90⟩
          have hFT6 : FR md_me_readWhat S T6 := FR.tr hFT1 w92 rfl
          show Rl _ _ _ _ _ [iv z91] _ _
          refine l_ireturn rfl (retI_z (by omega)) ?_
          have w93 : Xi T6 876 5 = Xi T1 876 5 := (show Xi T6 876 5 = Xi T1 876 5 from w92.x _ _ rfl)
          have w94 : 0 ≤ Xi T1 876 5 ∧ Xi T1 876 5 ≤ 5000 := hHT1.c _ _
          have w95 : Xi T6 876 7 = Xi T1 876 7 := (show Xi T6 876 7 = Xi T1 876 7 from w92.x _ _ rfl)
          have w96 : 0 ≤ Xi T1 876 7 ∧ Xi T1 876 7 ≤ 5125 := hHT1.c _ _
          have w97 : 0 ≤ Xi T6 876 8 ∧ Xi T6 876 8 ≤ 9 := hHT6.c _ _
          have w98 : Xi T6 895 10 = Xi T1 895 10 := (show Xi T6 895 10 = Xi T1 895 10 from w92.x _ _ rfl)
          have w99 : Xi T6 895 11 = Xi T1 895 11 := (show Xi T6 895 11 = Xi T1 895 11 from w92.x _ _ rfl)
          exact ⟨hHT6, hFT6, _, rfl, ⟨by omega, by omega⟩, (by first | (intro hz; omega) | (intro _; exact Or.inl (by omega)) | (intro _; exact tx_mk (SRX_FR hFT6 rfl hS) (by omega) (by omega))), (by omega)⟩
        · refine l_aload_n rfl rfl ?_
          refine l_iload rfl rfl ?_
          refine l_sipush rfl rfl ?_
          refine l_iand255 rfl (by unfold rg; omega) ?_
          have w101 := fb4 hHT1 (lx (z := z65) (by assumption) (by omega) (by omega))
          refine l_pfi rfl rfl rfl rfl ?_
          obtain ⟨U7, eU7⟩ : ∃ T : sS, T = uI T1 895 10 (Int32.ofInt (z65 % 256)) := ⟨_, rfl⟩
          rw [← eU7]
          have hHU7 : HI U7 := by rw [eU7]; exact HI_any hHT1 (rfl)
          have hFU7 : FR md_me_readWhat S U7 := by rw [eU7]; exact FR.wI hFT1 (mdf_i (r := (895, 896, 10, 11)) (List.mem_of_getElem? (i := 2) rfl) (inR_i (by omega) (by omega) (by omega) (by omega)))
          have w102 : Xi U7 895 10 = (z65 % 256) := by rw [eU7]; exact Xi_same (by unfold rg; omega)
          refine l_iconst rfl ?_
          refine l_ireturn rfl rfl ?_
          have w103 : Xi U7 876 5 = Xi T1 876 5 := (show Xi U7 876 5 = Xi T1 876 5 from by rw [eU7]; exact Xi_ne (by omega))
          have w104 : 0 ≤ Xi T1 876 5 ∧ Xi T1 876 5 ≤ 5000 := hHT1.c _ _
          have w105 : Xi U7 876 7 = Xi T1 876 7 := (show Xi U7 876 7 = Xi T1 876 7 from by rw [eU7]; exact Xi_ne (by omega))
          have w106 : 0 ≤ Xi T1 876 7 ∧ Xi T1 876 7 ≤ 5125 := hHT1.c _ _
          have w107 : Xi U7 876 8 = Xi T1 876 8 := (show Xi U7 876 8 = Xi T1 876 8 from by rw [eU7]; exact Xi_ne (by omega))
          have w108 : 0 ≤ Xi T1 876 8 ∧ Xi T1 876 8 ≤ 9 := hHT1.c _ _
          have w109 : Xi U7 895 11 = Xi T1 895 11 := (show Xi U7 895 11 = Xi T1 895 11 from by rw [eU7]; exact Xi_ne (by omega))
          exact ⟨hHU7, hFU7, _, rfl, ⟨by omega, by omega⟩, (by first | (intro hz; omega) | (intro _; exact Or.inl (by omega)) | (intro _; exact tx_mk (SRX_FR hFU7 rfl hS) (by omega) (by omega))), (by omega)⟩
  refine l_aload_n rfl rfl ?_
  refine l_gfr rfl rfl rfl rfl rfl (hH.r 895 0 876 rfl) ?_
  refine l_iload_n rfl rfl ?_
  have w110 : 0 ≤ Xi S 876 5 ∧ Xi S 876 5 ≤ 5000 := hH.c _ _
  have w111 : 0 ≤ Xi S 876 7 ∧ Xi S 876 7 ≤ 5125 := hH.c _ _
  refine l_callV rfl rfl rfl (t_to_typeAt hH row ⟨by omega, by omega⟩ _) ?_
  rintro _ _ ⟨rfl, z115, rfl, w115, w112, w113, w114⟩
  clear w113 w114
  show Rl _ _ _ _ _ [iv z115] _ _
  refine l_istore_n rfl rfl rfl ?_
  refine l_aload_n rfl rfl ?_
  refine l_iconst rfl ?_
  refine l_pfi rfl rfl rfl rfl ?_
  obtain ⟨U8, eU8⟩ : ∃ T : sS, T = uI S 895 11 (Int32.ofInt 0) := ⟨_, rfl⟩
  rw [← eU8]
  have hHU8 : HI U8 := by rw [eU8]; exact HI_any hH (rfl)
  have hFU8 : FR md_me_readWhat S U8 := by rw [eU8]; exact FR.wI hF (mdf_i (r := (895, 896, 11, 12)) (List.mem_of_getElem? (i := 3) rfl) (inR_i (by omega) (by omega) (by omega) (by omega)))
  have w116 : Xi U8 895 11 = 0 := by rw [eU8]; exact Xi_same (by unfold rg; omega)
  refine l_aload_n rfl rfl ?_
  refine l_aload_n rfl rfl ?_
  refine l_gfr rfl rfl rfl rfl rfl (hHU8.r 895 0 876 rfl) ?_
  refine l_iload_n rfl rfl ?_
  have w117 : Xi U8 876 5 = Xi S 876 5 := (show Xi U8 876 5 = Xi S 876 5 from by rw [eU8]; exact Xi_ne (by omega))
  have w118 : 0 ≤ Xi S 876 5 ∧ Xi S 876 5 ≤ 5000 := hH.c _ _
  have w119 : Xi U8 876 7 = Xi S 876 7 := (show Xi U8 876 7 = Xi S 876 7 from by rw [eU8]; exact Xi_ne (by omega))
  have w120 : 0 ≤ Xi S 876 7 ∧ Xi S 876 7 ≤ 5125 := hH.c _ _
  refine l_callV rfl rfl rfl (t_to_valueAt hHU8 row ⟨by omega, by omega⟩ _) ?_
  rintro _ _ ⟨rfl, z122, rfl, w122, w121⟩
  show Rl _ _ _ _ _ [iv z122, .ref 895] _ _
  have h79 : Xj U8 879 row.toNat = Xj S 879 row.toNat := (hFU8.cx 879 rfl _).2
  refine l_pfi rfl rfl rfl rfl ?_
  obtain ⟨U9, eU9⟩ : ∃ T : sS, T = uI U8 895 10 (Int32.ofInt z122) := ⟨_, rfl⟩
  rw [← eU9]
  have hHU9 : HI U9 := by rw [eU9]; exact HI_any hHU8 (rfl)
  have hFU9 : FR md_me_readWhat S U9 := by rw [eU9]; exact FR.wI hFU8 (mdf_i (r := (895, 896, 10, 11)) (List.mem_of_getElem? (i := 2) rfl) (inR_i (by omega) (by omega) (by omega) (by omega)))
  have w123 : Xi U9 895 10 = z122 := by rw [eU9]; exact Xi_same (by unfold rg; omega)
  refine l_iload_n rfl rfl ?_
  refine l_if_ne rfl rfl (by unfold rg; omega) (fun w124 => ?_) (fun w125 => ?_)
  · refine l_iload_n rfl rfl ?_
    refine l_iconst rfl ?_
    refine l_icmp_ne rfl rfl (by unfold rg; omega) (by unfold rg; omega) (fun w126 => ?_) (fun w127 => ?_)
    · have w128 : Xi U9 876 5 = Xi S 876 5 := (show Xi U9 876 5 = Xi U8 876 5 from by rw [eU9]; exact Xi_ne (by omega)).trans ((show Xi U8 876 5 = Xi S 876 5 from by rw [eU8]; exact Xi_ne (by omega)))
      have w129 : 0 ≤ Xi S 876 5 ∧ Xi S 876 5 ≤ 5000 := hH.c _ _
      have w130 : Xi U9 876 7 = Xi S 876 7 := (show Xi U9 876 7 = Xi U8 876 7 from by rw [eU9]; exact Xi_ne (by omega)).trans ((show Xi U8 876 7 = Xi S 876 7 from by rw [eU8]; exact Xi_ne (by omega)))
      have w131 : 0 ≤ Xi S 876 7 ∧ Xi S 876 7 ≤ 5125 := hH.c _ _
      have w132 : Xi U9 895 11 = Xi U8 895 11 := (show Xi U9 895 11 = Xi U8 895 11 from by rw [eU9]; exact Xi_ne (by omega))
      exact Rl_weak (C73 U9 hHU9 hFU9 (z115) (by omega) (by omega)) (And.intro rfl (And.intro rfl (And.intro rfl (And.intro rfl (True.intro)))))
    · refine l_iload_n rfl rfl ?_
      refine l_bipush rfl rfl ?_
      refine l_icmp_ne rfl rfl (by unfold rg; omega) (by unfold rg; omega) (fun w133 => ?_) (fun w134 => ?_)
      · have w135 : Xi U9 876 5 = Xi S 876 5 := (show Xi U9 876 5 = Xi U8 876 5 from by rw [eU9]; exact Xi_ne (by omega)).trans ((show Xi U8 876 5 = Xi S 876 5 from by rw [eU8]; exact Xi_ne (by omega)))
        have w136 : 0 ≤ Xi S 876 5 ∧ Xi S 876 5 ≤ 5000 := hH.c _ _
        have w137 : Xi U9 876 7 = Xi S 876 7 := (show Xi U9 876 7 = Xi U8 876 7 from by rw [eU9]; exact Xi_ne (by omega)).trans ((show Xi U8 876 7 = Xi S 876 7 from by rw [eU8]; exact Xi_ne (by omega)))
        have w138 : 0 ≤ Xi S 876 7 ∧ Xi S 876 7 ≤ 5125 := hH.c _ _
        have w139 : Xi U9 895 11 = Xi U8 895 11 := (show Xi U9 895 11 = Xi U8 895 11 from by rw [eU9]; exact Xi_ne (by omega))
        exact Rl_weak (C73 U9 hHU9 hFU9 (z115) (by omega) (by omega)) (And.intro rfl (And.intro rfl (And.intro rfl (And.intro rfl (True.intro)))))
      · refine l_aload_n rfl rfl ?_
        refine l_aload_n rfl rfl ?_
        refine l_gfi rfl rfl rfl rfl rfl ?_
        refine l_pfi rfl rfl rfl rfl ?_
        obtain ⟨U10, eU10⟩ : ∃ T : sS, T = uI U9 895 11 (Int32.ofInt (Xi U9 895 10)) := ⟨_, rfl⟩
        rw [← eU10]
        have hHU10 : HI U10 := by rw [eU10]; exact HI_any hHU9 (rfl)
        have hFU10 : FR md_me_readWhat S U10 := by rw [eU10]; exact FR.wI hFU9 (mdf_i (r := (895, 896, 11, 12)) (List.mem_of_getElem? (i := 3) rfl) (inR_i (by omega) (by omega) (by omega) (by omega)))
        have w140 : Xi U10 895 11 = (Xi U9 895 10) := by rw [eU10]; exact Xi_same (by unfold rg; omega)
        refine l_aload_n rfl rfl ?_
        refine l_aload_n rfl rfl ?_
        refine l_gfr rfl rfl rfl rfl rfl (hHU10.r 895 0 876 rfl) ?_
        refine l_iload_n rfl rfl ?_
        have w141 : Xi U10 876 5 = Xi S 876 5 := (show Xi U10 876 5 = Xi U9 876 5 from by rw [eU10]; exact Xi_ne (by omega)).trans ( (show Xi U9 876 5 = Xi U8 876 5 from by rw [eU9]; exact Xi_ne (by omega)).trans ((show Xi U8 876 5 = Xi S 876 5 from by rw [eU8]; exact Xi_ne (by omega))))
        have w142 : 0 ≤ Xi S 876 5 ∧ Xi S 876 5 ≤ 5000 := hH.c _ _
        have w143 : Xi U10 876 7 = Xi S 876 7 := (show Xi U10 876 7 = Xi U9 876 7 from by rw [eU10]; exact Xi_ne (by omega)).trans ( (show Xi U9 876 7 = Xi U8 876 7 from by rw [eU9]; exact Xi_ne (by omega)).trans ((show Xi U8 876 7 = Xi S 876 7 from by rw [eU8]; exact Xi_ne (by omega))))
        have w144 : 0 ≤ Xi S 876 7 ∧ Xi S 876 7 ≤ 5125 := hH.c _ _
        refine l_callV rfl rfl rfl (t_to_placeAt hHU10 row ⟨by omega, by omega⟩ _) ?_
        rintro _ _ ⟨rfl, z146, rfl, w146, w145⟩
        show Rl _ _ _ _ _ [iv z146, .ref 895] _ _
        have h78 : Xi U10 878 row.toNat = Xi S 878 row.toNat := (hFU10.cx 878 rfl _).1
        refine l_iconst rfl ?_
        refine l_iadd rfl ?_
        refine l_pfi rfl rfl rfl rfl ?_
        obtain ⟨U11, eU11⟩ : ∃ T : sS, T = uI U10 895 10 (Int32.ofInt (z146 + 1)) := ⟨_, rfl⟩
        rw [← eU11]
        have hHU11 : HI U11 := by rw [eU11]; exact HI_any hHU10 (rfl)
        have hFU11 : FR md_me_readWhat S U11 := by rw [eU11]; exact FR.wI hFU10 (mdf_i (r := (895, 896, 10, 11)) (List.mem_of_getElem? (i := 2) rfl) (inR_i (by omega) (by omega) (by omega) (by omega)))
        have w147 : Xi U11 895 10 = (z146 + 1) := by rw [eU11]; exact Xi_same (by unfold rg; omega)
        refine l_iconst rfl ?_
        refine l_ireturn rfl rfl ?_
        have w148 : Xi U11 876 5 = Xi S 876 5 := (show Xi U11 876 5 = Xi U10 876 5 from by rw [eU11]; exact Xi_ne (by omega)).trans ( (show Xi U10 876 5 = Xi U9 876 5 from by rw [eU10]; exact Xi_ne (by omega)).trans ( (show Xi U9 876 5 = Xi U8 876 5 from by rw [eU9]; exact Xi_ne (by omega)).trans ((show Xi U8 876 5 = Xi S 876 5 from by rw [eU8]; exact Xi_ne (by omega)))))
        have w149 : 0 ≤ Xi S 876 5 ∧ Xi S 876 5 ≤ 5000 := hH.c _ _
        have w150 : Xi U11 876 7 = Xi S 876 7 := (show Xi U11 876 7 = Xi U10 876 7 from by rw [eU11]; exact Xi_ne (by omega)).trans ( (show Xi U10 876 7 = Xi U9 876 7 from by rw [eU10]; exact Xi_ne (by omega)).trans ( (show Xi U9 876 7 = Xi U8 876 7 from by rw [eU9]; exact Xi_ne (by omega)).trans ((show Xi U8 876 7 = Xi S 876 7 from by rw [eU8]; exact Xi_ne (by omega)))))
        have w151 : 0 ≤ Xi S 876 7 ∧ Xi S 876 7 ≤ 5125 := hH.c _ _
        have w152 : Xi U11 876 8 = Xi S 876 8 := (show Xi U11 876 8 = Xi U10 876 8 from by rw [eU11]; exact Xi_ne (by omega)).trans ( (show Xi U10 876 8 = Xi U9 876 8 from by rw [eU10]; exact Xi_ne (by omega)).trans ( (show Xi U9 876 8 = Xi U8 876 8 from by rw [eU9]; exact Xi_ne (by omega)).trans ((show Xi U8 876 8 = Xi S 876 8 from by rw [eU8]; exact Xi_ne (by omega)))))
        have w153 : 0 ≤ Xi S 876 8 ∧ Xi S 876 8 ≤ 9 := hH.c _ _
        have w154 : Xi U11 895 11 = Xi U10 895 11 := (show Xi U11 895 11 = Xi U10 895 11 from by rw [eU11]; exact Xi_ne (by omega))
        exact ⟨hHU11, hFU11, _, rfl, ⟨by omega, by omega⟩, (by first | (intro hz; omega) | (intro _; exact Or.inl (by omega)) | (intro _; exact tx_mk (SRX_FR hFU11 rfl hS) (by omega) (by omega))), (by omega)⟩
  · refine l_iload_n rfl rfl ?_
    refine l_bipush rfl rfl ?_
    refine l_icmp_ne rfl rfl (by unfold rg; omega) (by unfold rg; omega) (fun w155 => ?_) (fun w156 => ?_)
    · refine l_iload_n rfl rfl ?_
      refine l_iconst rfl ?_
      refine l_icmp_ne rfl rfl (by unfold rg; omega) (by unfold rg; omega) (fun w157 => ?_) (fun w158 => ?_)
      · have w159 : Xi U9 876 5 = Xi S 876 5 := (show Xi U9 876 5 = Xi U8 876 5 from by rw [eU9]; exact Xi_ne (by omega)).trans ((show Xi U8 876 5 = Xi S 876 5 from by rw [eU8]; exact Xi_ne (by omega)))
        have w160 : 0 ≤ Xi S 876 5 ∧ Xi S 876 5 ≤ 5000 := hH.c _ _
        have w161 : Xi U9 876 7 = Xi S 876 7 := (show Xi U9 876 7 = Xi U8 876 7 from by rw [eU9]; exact Xi_ne (by omega)).trans ((show Xi U8 876 7 = Xi S 876 7 from by rw [eU8]; exact Xi_ne (by omega)))
        have w162 : 0 ≤ Xi S 876 7 ∧ Xi S 876 7 ≤ 5125 := hH.c _ _
        have w163 : Xi U9 895 11 = Xi U8 895 11 := (show Xi U9 895 11 = Xi U8 895 11 from by rw [eU9]; exact Xi_ne (by omega))
        exact Rl_weak (C73 U9 hHU9 hFU9 (z115) (by omega) (by omega)) (And.intro rfl (And.intro rfl (And.intro rfl (And.intro rfl (True.intro)))))
      · refine l_iload_n rfl rfl ?_
        refine l_bipush rfl rfl ?_
        refine l_icmp_ne rfl rfl (by unfold rg; omega) (by unfold rg; omega) (fun w164 => ?_) (fun w165 => ?_)
        · have w166 : Xi U9 876 5 = Xi S 876 5 := (show Xi U9 876 5 = Xi U8 876 5 from by rw [eU9]; exact Xi_ne (by omega)).trans ((show Xi U8 876 5 = Xi S 876 5 from by rw [eU8]; exact Xi_ne (by omega)))
          have w167 : 0 ≤ Xi S 876 5 ∧ Xi S 876 5 ≤ 5000 := hH.c _ _
          have w168 : Xi U9 876 7 = Xi S 876 7 := (show Xi U9 876 7 = Xi U8 876 7 from by rw [eU9]; exact Xi_ne (by omega)).trans ((show Xi U8 876 7 = Xi S 876 7 from by rw [eU8]; exact Xi_ne (by omega)))
          have w169 : 0 ≤ Xi S 876 7 ∧ Xi S 876 7 ≤ 5125 := hH.c _ _
          have w170 : Xi U9 895 11 = Xi U8 895 11 := (show Xi U9 895 11 = Xi U8 895 11 from by rw [eU9]; exact Xi_ne (by omega))
          exact Rl_weak (C73 U9 hHU9 hFU9 (z115) (by omega) (by omega)) (And.intro rfl (And.intro rfl (And.intro rfl (And.intro rfl (True.intro)))))
        · refine l_aload_n rfl rfl ?_
          refine l_aload_n rfl rfl ?_
          refine l_gfi rfl rfl rfl rfl rfl ?_
          refine l_pfi rfl rfl rfl rfl ?_
          obtain ⟨U12, eU12⟩ : ∃ T : sS, T = uI U9 895 11 (Int32.ofInt (Xi U9 895 10)) := ⟨_, rfl⟩
          rw [← eU12]
          have hHU12 : HI U12 := by rw [eU12]; exact HI_any hHU9 (rfl)
          have hFU12 : FR md_me_readWhat S U12 := by rw [eU12]; exact FR.wI hFU9 (mdf_i (r := (895, 896, 11, 12)) (List.mem_of_getElem? (i := 3) rfl) (inR_i (by omega) (by omega) (by omega) (by omega)))
          have w171 : Xi U12 895 11 = (Xi U9 895 10) := by rw [eU12]; exact Xi_same (by unfold rg; omega)
          refine l_aload_n rfl rfl ?_
          refine l_aload_n rfl rfl ?_
          refine l_gfr rfl rfl rfl rfl rfl (hHU12.r 895 0 876 rfl) ?_
          refine l_iload_n rfl rfl ?_
          have w172 : Xi U12 876 5 = Xi S 876 5 := (show Xi U12 876 5 = Xi U9 876 5 from by rw [eU12]; exact Xi_ne (by omega)).trans ( (show Xi U9 876 5 = Xi U8 876 5 from by rw [eU9]; exact Xi_ne (by omega)).trans ((show Xi U8 876 5 = Xi S 876 5 from by rw [eU8]; exact Xi_ne (by omega))))
          have w173 : 0 ≤ Xi S 876 5 ∧ Xi S 876 5 ≤ 5000 := hH.c _ _
          have w174 : Xi U12 876 7 = Xi S 876 7 := (show Xi U12 876 7 = Xi U9 876 7 from by rw [eU12]; exact Xi_ne (by omega)).trans ( (show Xi U9 876 7 = Xi U8 876 7 from by rw [eU9]; exact Xi_ne (by omega)).trans ((show Xi U8 876 7 = Xi S 876 7 from by rw [eU8]; exact Xi_ne (by omega))))
          have w175 : 0 ≤ Xi S 876 7 ∧ Xi S 876 7 ≤ 5125 := hH.c _ _
          refine l_callV rfl rfl rfl (t_to_placeAt hHU12 row ⟨by omega, by omega⟩ _) ?_
          rintro _ _ ⟨rfl, z177, rfl, w177, w176⟩
          show Rl _ _ _ _ _ [iv z177, .ref 895] _ _
          have h78 : Xi U12 878 row.toNat = Xi S 878 row.toNat := (hFU12.cx 878 rfl _).1
          refine l_iconst rfl ?_
          refine l_iadd rfl ?_
          refine l_pfi rfl rfl rfl rfl ?_
          obtain ⟨U13, eU13⟩ : ∃ T : sS, T = uI U12 895 10 (Int32.ofInt (z177 + 1)) := ⟨_, rfl⟩
          rw [← eU13]
          have hHU13 : HI U13 := by rw [eU13]; exact HI_any hHU12 (rfl)
          have hFU13 : FR md_me_readWhat S U13 := by rw [eU13]; exact FR.wI hFU12 (mdf_i (r := (895, 896, 10, 11)) (List.mem_of_getElem? (i := 2) rfl) (inR_i (by omega) (by omega) (by omega) (by omega)))
          have w178 : Xi U13 895 10 = (z177 + 1) := by rw [eU13]; exact Xi_same (by unfold rg; omega)
          refine l_iconst rfl ?_
          refine l_ireturn rfl rfl ?_
          have w179 : Xi U13 876 5 = Xi S 876 5 := (show Xi U13 876 5 = Xi U12 876 5 from by rw [eU13]; exact Xi_ne (by omega)).trans ( (show Xi U12 876 5 = Xi U9 876 5 from by rw [eU12]; exact Xi_ne (by omega)).trans ( (show Xi U9 876 5 = Xi U8 876 5 from by rw [eU9]; exact Xi_ne (by omega)).trans ((show Xi U8 876 5 = Xi S 876 5 from by rw [eU8]; exact Xi_ne (by omega)))))
          have w180 : 0 ≤ Xi S 876 5 ∧ Xi S 876 5 ≤ 5000 := hH.c _ _
          have w181 : Xi U13 876 7 = Xi S 876 7 := (show Xi U13 876 7 = Xi U12 876 7 from by rw [eU13]; exact Xi_ne (by omega)).trans ( (show Xi U12 876 7 = Xi U9 876 7 from by rw [eU12]; exact Xi_ne (by omega)).trans ( (show Xi U9 876 7 = Xi U8 876 7 from by rw [eU9]; exact Xi_ne (by omega)).trans ((show Xi U8 876 7 = Xi S 876 7 from by rw [eU8]; exact Xi_ne (by omega)))))
          have w182 : 0 ≤ Xi S 876 7 ∧ Xi S 876 7 ≤ 5125 := hH.c _ _
          have w183 : Xi U13 876 8 = Xi S 876 8 := (show Xi U13 876 8 = Xi U12 876 8 from by rw [eU13]; exact Xi_ne (by omega)).trans ( (show Xi U12 876 8 = Xi U9 876 8 from by rw [eU12]; exact Xi_ne (by omega)).trans ( (show Xi U9 876 8 = Xi U8 876 8 from by rw [eU9]; exact Xi_ne (by omega)).trans ((show Xi U8 876 8 = Xi S 876 8 from by rw [eU8]; exact Xi_ne (by omega)))))
          have w184 : 0 ≤ Xi S 876 8 ∧ Xi S 876 8 ≤ 9 := hH.c _ _
          have w185 : Xi U13 895 11 = Xi U12 895 11 := (show Xi U13 895 11 = Xi U12 895 11 from by rw [eU13]; exact Xi_ne (by omega))
          exact ⟨hHU13, hFU13, _, rfl, ⟨by omega, by omega⟩, (by first | (intro hz; omega) | (intro _; exact Or.inl (by omega)) | (intro _; exact tx_mk (SRX_FR hFU13 rfl hS) (by omega) (by omega))), (by omega)⟩
    · refine l_iconst rfl ?_
      refine l_ireturn rfl rfl ?_
      have w186 : Xi U9 876 5 = Xi S 876 5 := (show Xi U9 876 5 = Xi U8 876 5 from by rw [eU9]; exact Xi_ne (by omega)).trans ((show Xi U8 876 5 = Xi S 876 5 from by rw [eU8]; exact Xi_ne (by omega)))
      have w187 : 0 ≤ Xi S 876 5 ∧ Xi S 876 5 ≤ 5000 := hH.c _ _
      have w188 : Xi U9 876 7 = Xi S 876 7 := (show Xi U9 876 7 = Xi U8 876 7 from by rw [eU9]; exact Xi_ne (by omega)).trans ((show Xi U8 876 7 = Xi S 876 7 from by rw [eU8]; exact Xi_ne (by omega)))
      have w189 : 0 ≤ Xi S 876 7 ∧ Xi S 876 7 ≤ 5125 := hH.c _ _
      have w190 : Xi U9 876 8 = Xi S 876 8 := (show Xi U9 876 8 = Xi U8 876 8 from by rw [eU9]; exact Xi_ne (by omega)).trans ((show Xi U8 876 8 = Xi S 876 8 from by rw [eU8]; exact Xi_ne (by omega)))
      have w191 : 0 ≤ Xi S 876 8 ∧ Xi S 876 8 ≤ 9 := hH.c _ _
      have w192 : Xi U9 895 11 = Xi U8 895 11 := (show Xi U9 895 11 = Xi U8 895 11 from by rw [eU9]; exact Xi_ne (by omega))
      exact ⟨hHU9, hFU9, _, rfl, ⟨by omega, by omega⟩, (by first | (intro hz; omega) | (intro _; exact Or.inl (by omega)) | (intro _; exact tx_mk (SRX_FR hFU9 rfl hS) (by omega) (by omega))), (by omega)⟩
def md_re_tellOne : List rec := [(25, 65, 0, 100000), (66, 106, 0, 100000), (107, 147, 0, 100000), (148, 188, 0, 100000)]
abbrev Q_re_tellOne (S : sS) (row : Int) (met : Int) (prop : Int) (holds : Int) : pst := fun r S1 => HI S1 ∧ FR md_re_tellOne S S1 ∧ (∃ z : Int, r = some (iv z) ∧ (0 ≤ z ∧ z ≤ 1) ∧ (TX S1))
set_option maxRecDepth 100000 in
theorem t_re_tellOne {S : sS} (hH : HI S) (row : Int) (met : Int) (prop : Int) (holds : Int) (hrow : 0 ≤ row ∧ row ≤ 39) (hmet : 0 ≤ met ∧ met ≤ 63) (hprop : -1 ≤ prop ∧ prop ≤ 11) (hholds : 0 ≤ holds ∧ holds ≤ 1) (hX : TX S) (hm : prop = -1 → met ≤ 23) (d : Nat) : Mt lay0 (d + 3) m_re_tellOne [.ref 891, iv row, iv met, iv prop, iv holds] S (Q_re_tellOne S row met prop holds) := by
  refine Mt_R rfl rfl ?_
  have hF : FR md_re_tellOne S S := FR.rf
  refine l_iload_n rfl rfl ?_
  refine l_iconst rfl ?_
  refine l_icmp_ne rfl rfl (by unfold rg; omega) (by unfold rg; omega) (fun w1 => ?_) (fun w2 => ?_)
  · refine l_aload_n rfl rfl ?_
    refine l_gfr rfl rfl rfl rfl rfl (hH.r 891 3 20 rfl) ?_
    refine l_iload_n rfl rfl ?_
    refine l_iload_n rfl rfl ?_
    refine l_iload_n rfl rfl ?_
    refine l_iconst rfl ?_
    refine l_callV rfl rfl rfl (t_wo_tellProperty hH row prop met 0 ⟨by omega, by omega⟩ ⟨by omega, by omega⟩ ⟨by omega, by omega⟩ ⟨by omega, by omega⟩ (by first | assumption | exact (by assumption : TX S)) (Or.inl (by omega)) _) ?_
    rintro _ T1 ⟨hHT1, w5, z4, rfl, w4, w3⟩
    have hFT1 : FR md_re_tellOne S T1 := FR.tr hF w5 rfl
    show Rl _ _ _ _ _ [iv z4] _ _
    refine l_ireturn rfl (retI_z (by omega)) ?_
    exact ⟨hHT1, hFT1, _, rfl, ⟨by omega, by omega⟩, (by first | assumption | exact TX_FR (by assumption : FR md_wo_tellAdjective S T1) rfl hX)⟩
  · refine l_aload_n rfl rfl ?_
    refine l_gfr rfl rfl rfl rfl rfl (hH.r 891 3 20 rfl) ?_
    refine l_iload_n rfl rfl ?_
    refine l_iload_n rfl rfl ?_
    refine l_iload rfl rfl ?_
    refine l_callV rfl rfl rfl (t_wo_tellAdjective hH row met holds ⟨by omega, by omega⟩ ⟨by omega, by omega⟩ ⟨by omega, by omega⟩ _) ?_
    rintro _ T2 ⟨hHT2, w7, z6, rfl, w6⟩
    have hFT2 : FR md_re_tellOne S T2 := FR.tr hF w7 rfl
    show Rl _ _ _ _ _ [iv z6] _ _
    refine l_goto rfl rfl ?_
    refine l_ireturn rfl (retI_z (by omega)) ?_
    exact ⟨hHT2, hFT2, _, rfl, ⟨by omega, by omega⟩, (by first | assumption | exact TX_FR (by assumption : FR md_wo_tellAdjective S T2) rfl hX)⟩
def md_re_tellAdjectives : List rec := [(25, 65, 0, 100000), (66, 106, 0, 100000), (107, 147, 0, 100000), (148, 188, 0, 100000)]
abbrev Q_re_tellAdjectives (S : sS) (o : Int) : pst := fun r S1 => HI S1 ∧ FR md_re_tellAdjectives S S1 ∧ (∃ z : Int, r = some (iv z) ∧ (0 ≤ z ∧ z ≤ 1) ∧ (TX S1))
set_option maxRecDepth 100000 in
theorem t_re_tellAdjectives {S : sS} (hH : HI S) (o : Int) (ho : 0 ≤ o ∧ o ≤ 23) (hX : TX S) (hM : MAD S) (d : Nat) : Mt lay0 (d + 4) m_re_tellAdjectives [.ref 891, iv o] S (Q_re_tellAdjectives S o) := by
  refine Mt_R rfl rfl ?_
  have hF : FR md_re_tellAdjectives S S := FR.rf
  have C2 : ∀ (n2 : Nat) (T1 : sS) (_ : HI T1) (_ : FR md_re_tellAdjectives S T1) (v2 : Int), (0 ≤ v2 ∧ v2 ≤ 5) → (TX T1) → n2 = (6 - v2).toNat → Rl lay0 (d + 3) m_re_tellAdjectives 2 [(0, .ref 891), (1, iv o), (2, iv v2)] [] T1 (Q_re_tellAdjectives S o) := by
    intro n2
    induction n2 using Nat.strongRecOn with
    | ind n2 ih2 =>
      intro T1 hHT1 hFT1 v2 w1 hX2 hm2
      refine l_iload_n rfl rfl ?_
      refine l_aload_n rfl rfl ?_
      refine l_gfr rfl rfl rfl rfl rfl (hHT1.r 891 4 895 rfl) ?_
      refine l_gfi rfl rfl rfl rfl rfl ?_
      have w2 : 0 ≤ (Xi T1 895 14) ∧ (Xi T1 895 14) ≤ 5 := hHT1.c _ _
      refine l_icmp_ge rfl rfl (by unfold rg; omega) (by unfold rg; omega) (fun w3 => ?_) (fun w4 => ?_)
      · refine l_iconst rfl ?_
        refine l_ireturn rfl rfl ?_
        exact ⟨hHT1, hFT1, _, rfl, ⟨by omega, by omega⟩, (by first | assumption | exact (by assumption : TX T1))⟩
      · refine l_aload_n rfl rfl ?_
        refine l_iload_n rfl rfl ?_
        refine l_aload_n rfl rfl ?_
        refine l_gfr rfl rfl rfl rfl rfl (hHT1.r 891 4 895 rfl) ?_
        refine l_gfr rfl rfl rfl rfl rfl (hHT1.r 895 15 896 rfl) ?_
        refine l_iload_n rfl rfl ?_
        refine l_iaload (n := 5) rfl rfl (by omega) (by omega) (by unfold rg; omega) ?_
        have w5 : 0 ≤ (Xi T1 896 ((v2).toNat)) ∧ (Xi T1 896 ((v2).toNat)) ≤ 63 := hHT1.c _ _
        have hmd : Xi T1 897 (v2).toNat = -1 → Xi T1 896 (v2).toNat < Xi T1 5 3 := fun h => MAD_FR hFT1 rfl hM v2.toNat (by omega) h
        have hc3 : 0 ≤ Xi T1 5 3 ∧ Xi T1 5 3 ≤ 24 := hHT1.c _ _
        refine l_aload_n rfl rfl ?_
        refine l_gfr rfl rfl rfl rfl rfl (hHT1.r 891 4 895 rfl) ?_
        refine l_gfr rfl rfl rfl rfl rfl (hHT1.r 895 16 897 rfl) ?_
        refine l_iload_n rfl rfl ?_
        refine l_iaload (n := 5) rfl rfl (by omega) (by omega) (by unfold rg; omega) ?_
        have w6 : -1 ≤ (Xi T1 897 ((v2).toNat)) ∧ (Xi T1 897 ((v2).toNat)) ≤ 11 := hHT1.c _ _
        refine l_iconst rfl ?_
        refine l_callV rfl rfl rfl (t_re_tellOne hHT1 o (Xi T1 896 ((v2).toNat)) (Xi T1 897 ((v2).toNat)) 1 ⟨by omega, by omega⟩ ⟨by omega, by omega⟩ ⟨by omega, by omega⟩ ⟨by omega, by omega⟩ (by first | assumption | exact (by assumption : TX T1)) (by first | assumption | omega) _) ?_
        rintro _ T2 ⟨hHT2, w9, z8, rfl, w8, w7⟩
        have hFT2 : FR md_re_tellAdjectives S T2 := FR.tr hFT1 w9 rfl
        show Rl _ _ _ _ _ [iv z8] _ _
        refine l_if_ne rfl rfl (by unfold rg; omega) (fun w10 => ?_) (fun w11 => ?_)
        · refine l_iinc rfl rfl rfl rfl ?_
          refine l_goto rfl rfl ?_
          exact Rl_weak (ih2 _ (by omega) T2 hHT2 hFT2 ((v2 + 1)) (by omega) (by first | assumption | exact (by assumption : TX T2)) rfl) (And.intro rfl (And.intro rfl (And.intro rfl (True.intro))))
        · refine l_iconst rfl ?_
          refine l_ireturn rfl rfl ?_
          exact ⟨hHT2, hFT2, _, rfl, ⟨by omega, by omega⟩, (by first | assumption | exact (by assumption : TX T2))⟩
  refine l_iconst rfl ?_
  refine l_istore_n rfl rfl rfl ?_
  exact Rl_weak (C2 _ S hH hF (0) (by omega) (by first | assumption | exact (by assumption : TX S)) rfl) (And.intro rfl (And.intro rfl (And.intro rfl (True.intro))))
def md_re_describe : List rec := [(66, 106, 0, 100000), (107, 147, 0, 100000), (148, 188, 0, 100000), (876, 877, 8, 9), (876, 877, 9, 10)]
abbrev Q_re_describe (S : sS) : pst := fun r S1 => HI S1 ∧ FR md_re_describe S S1 ∧ (∃ z : Int, r = some (iv z) ∧ (0 ≤ z ∧ z ≤ 1) ∧ (z = 1 → WI S1) ∧ (z = 0 → Xi S1 876 8 ≠ 0))
set_option maxRecDepth 100000 in
theorem t_re_describe {S : sS} (hH : HI S) (hW : WI S) (hT : TOK S) (hS : SRX S) (h0 : Xi S 877 (0 : Int).toNat = 102 ∧ 0 < Xi S 876 7) (d : Nat) : Mt lay0 (d + 3) m_re_describe [.ref 891] S (Q_re_describe S) := by
  refine Mt_R rfl rfl ?_
  have hF : FR md_re_describe S S := FR.rf
  have w1 : 0 ≤ Xi S 876 7 ∧ Xi S 876 7 ≤ 5125 := hH.c _ _
  have hL := hW.1
  have hX := hW.2.1
  have htk := hT 0 (by omega) h0.1
  have e78 : Xi S 878 (0 : Int).toNat = Xi S 878 0 := rfl
  have e79 : Xj S 879 (0 : Int).toNat = Xj S 879 0 := rfl
  have he5 : 0 ≤ Xi S 876 5 ∧ Xi S 876 5 ≤ 5000 := hH.c _ _
  refine l_aload_n rfl rfl ?_
  refine l_gfi rfl rfl rfl rfl rfl ?_
  have w2 : -1 ≤ (Xi S 891 10) ∧ (Xi S 891 10) ≤ 23 := hH.c _ _
  refine l_iconst rfl ?_
  refine l_icmp_ne rfl rfl (by unfold rg; omega) (by unfold rg; omega) (fun w3 => ?_) (fun w4 => ?_)
  · refine l_aload_n rfl rfl ?_
    refine l_gfr rfl rfl rfl rfl rfl (hH.r 891 3 20 rfl) ?_
    refine l_aload_n rfl rfl ?_
    refine l_gfi rfl rfl rfl rfl rfl ?_
    refine l_iconst rfl ?_
    refine l_aload_n rfl rfl ?_
    refine l_gfr rfl rfl rfl rfl rfl (hH.r 891 0 876 rfl) ?_
    refine l_iconst rfl ?_
    have w5 : 0 ≤ Xi S 876 7 ∧ Xi S 876 7 ≤ 5125 := hH.c _ _
    refine l_callV rfl rfl rfl (t_to_placeAt hH 0 ⟨by omega, by omega⟩ _) ?_
    rintro _ _ ⟨rfl, z7, rfl, w7, w6⟩
    show Rl _ _ _ _ _ [iv z7, iv 0, iv (Xi S 891 10), .ref 20] _ _
    refine l_iconst rfl ?_
    refine l_iadd rfl ?_
    refine l_aload_n rfl rfl ?_
    refine l_gfr rfl rfl rfl rfl rfl (hH.r 891 0 876 rfl) ?_
    refine l_iconst rfl ?_
    have w8 : 0 ≤ Xi S 876 7 ∧ Xi S 876 7 ≤ 5125 := hH.c _ _
    refine l_callV rfl rfl rfl (t_to_valueAt hH 0 ⟨by omega, by omega⟩ _) ?_
    rintro _ _ ⟨rfl, z10, rfl, w10, w9⟩
    show Rl _ _ _ _ _ [iv z10, iv (z7 + 1), iv 0, iv (Xi S 891 10), .ref 20] _ _
    have hWp : WI S := (by assumption : WI S)
    have hHp := hH
    refine l_callV rfl rfl rfl (t_wo_tellProperty hH (Xi S 891 10) 0 (z7 + 1) z10 ⟨by omega, by omega⟩ ⟨by omega, by omega⟩ ⟨by omega, by omega⟩ ⟨by omega, by omega⟩ (by first | assumption | exact (by assumption : TX S)) (tx_mk hS (by omega) (by omega)) _) ?_
    rintro _ T1 ⟨hHT1, w13, z12, rfl, w12, w11⟩
    have hFT1 : FR md_re_describe S T1 := FR.tr hF w13 rfl
    show Rl _ _ _ _ _ [iv z12] _ _
    have hWq : WI T1 := WI_x hHp (by assumption : FR md_wo_tellProperty S T1) rfl rfl rfl rfl rfl rfl rfl rfl (by assumption) hWp
    refine l_if_ne rfl rfl (by unfold rg; omega) (fun w14 => ?_) (fun w15 => ?_)
    · refine l_iconst rfl ?_
      refine l_goto rfl rfl ?_
      refine l_ireturn rfl rfl ?_
      have w16 : Xi T1 876 8 = Xi S 876 8 := (show Xi T1 876 8 = Xi S 876 8 from w13.x _ _ rfl)
      have w17 : 0 ≤ Xi S 876 8 ∧ Xi S 876 8 ≤ 9 := hH.c _ _
      exact ⟨hHT1, hFT1, _, rfl, ⟨by omega, by omega⟩, (by first | (intro hz; omega) | (intro _; assumption) | (intro _; exact (by assumption : WI T1))), (by omega)⟩
    · refine l_aload_n rfl rfl ?_
      refine l_gfr rfl rfl rfl rfl rfl (hHT1.r 891 0 876 rfl) ?_
      refine l_iconst rfl ?_
      refine l_iconst rfl ?_
      refine l_callV rfl rfl rfl (t_to_wrong hHT1 5 0 ⟨by omega, by omega⟩ ⟨by omega, by omega⟩ _) ?_
      rintro _ T2 ⟨hHT2, w21, z20, rfl, w20, w18, w19⟩
      have hFT2 : FR md_re_describe S T2 := FR.tr hFT1 w21 rfl
      show Rl _ _ _ _ _ [iv z20] _ _
      refine l_if_eq rfl rfl (by unfold rg; omega) (fun w22 => ?_) (fun w23 => ?_)
      · refine l_iconst rfl ?_
        refine l_ireturn rfl rfl ?_
        have w24 : 0 ≤ Xi T2 876 8 ∧ Xi T2 876 8 ≤ 9 := hHT2.c _ _
        exact ⟨hHT2, hFT2, _, rfl, ⟨by omega, by omega⟩, (by first | (intro hz; omega) | (intro _; assumption) | (intro _; exact (WI_FR hHT1 w21 rfl rfl rfl rfl rfl rfl rfl rfl rfl (by assumption : WI T1)))), (by omega)⟩
      · refine l_iconst rfl ?_
        refine l_goto rfl rfl ?_
        refine l_ireturn rfl rfl ?_
        have w25 : 0 ≤ Xi T2 876 8 ∧ Xi T2 876 8 ≤ 9 := hHT2.c _ _
        exact ⟨hHT2, hFT2, _, rfl, ⟨by omega, by omega⟩, (by first | (intro hz; omega) | (intro _; assumption) | (intro _; exact (WI_FR hHT1 w21 rfl rfl rfl rfl rfl rfl rfl rfl rfl (by assumption : WI T1)))), (by omega)⟩
  · refine l_aload_n rfl rfl ?_
    refine l_gfr rfl rfl rfl rfl rfl (hH.r 891 0 876 rfl) ?_
    refine l_iconst rfl ?_
    refine l_iconst rfl ?_
    refine l_callV rfl rfl rfl (t_to_wrong hH 4 0 ⟨by omega, by omega⟩ ⟨by omega, by omega⟩ _) ?_
    rintro _ T3 ⟨hHT3, w29, z28, rfl, w28, w26, w27⟩
    have hFT3 : FR md_re_describe S T3 := FR.tr hF w29 rfl
    show Rl _ _ _ _ _ [iv z28] _ _
    refine l_ireturn rfl (retI_z (by omega)) ?_
    have w30 : 0 ≤ Xi T3 876 8 ∧ Xi T3 876 8 ≤ 9 := hHT3.c _ _
    exact ⟨hHT3, hFT3, _, rfl, ⟨by omega, by omega⟩, (by first | (intro hz; omega) | (intro _; assumption) | (intro _; exact (WI_FR hH w29 rfl rfl rfl rfl rfl rfl rfl rfl rfl (by assumption : WI S)))), (by omega)⟩
def md_re_takeOldObjects : List rec := [(876, 877, 8, 9), (876, 877, 9, 10)]
abbrev Q_re_takeOldObjects (S : sS) : pst := fun r S1 => HI S1 ∧ FR md_re_takeOldObjects S S1 ∧ (∃ z : Int, r = some (iv z) ∧ (0 ≤ z ∧ z ≤ 1) ∧ (z = 0 → Xi S1 876 8 ≠ 0))
set_option maxRecDepth 100000 in
theorem t_re_takeOldObjects {S : sS} (hH : HI S) (hL : LEX S) (d : Nat) : Mt lay0 (d + 3) m_re_takeOldObjects [.ref 891] S (Q_re_takeOldObjects S) := by
  refine Mt_R rfl rfl ?_
  have hF : FR md_re_takeOldObjects S S := FR.rf
  have C2 : ∀ (n2 : Nat) (v1 : Int), (0 ≤ v1 ∧ v1 ≤ 5124) → n2 = (5125 - v1).toNat → Rl lay0 (d + 2) m_re_takeOldObjects 2 [(0, .ref 891), (1, iv v1)] [] S (Q_re_takeOldObjects S) := by
    intro n2
    induction n2 using Nat.strongRecOn with
    | ind n2 ih2 =>
      intro v1 w1 hm2
      refine l_iload_n rfl rfl ?_
      refine l_aload_n rfl rfl ?_
      refine l_gfr rfl rfl rfl rfl rfl (hH.r 891 1 890 rfl) ?_
      refine l_gfi rfl rfl rfl rfl rfl ?_
      have w2 : -1 ≤ (Xi S 890 3) ∧ (Xi S 890 3) ≤ 5124 := hH.c _ _
      refine l_icmp_ge rfl rfl (by unfold rg; omega) (by unfold rg; omega) (fun w3 => ?_) (fun w4 => ?_)
      · refine l_iconst rfl ?_
        refine l_ireturn rfl rfl ?_
        have w5 : 0 ≤ Xi S 876 8 ∧ Xi S 876 8 ≤ 9 := hH.c _ _
        exact ⟨hH, hF, _, rfl, ⟨by omega, by omega⟩, (by first | assumption | omega)⟩
      · refine l_aload_n rfl rfl ?_
        refine l_iload_n rfl rfl ?_
        have w6 : 0 ≤ Xi S 876 7 ∧ Xi S 876 7 ≤ 5125 := hH.c _ _
        have w7 : -1 ≤ Xi S 890 3 ∧ Xi S 890 3 ≤ 5124 := hH.c _ _
        refine l_callV rfl rfl rfl (t_re_beginsName hH v1 ⟨by omega, by omega⟩ _) ?_
        rintro _ _ ⟨rfl, z10, rfl, w10, w8, w9⟩
        show Rl _ _ _ _ _ [iv z10] _ _
        refine l_if_eq rfl rfl (by unfold rg; omega) (fun w11 => ?_) (fun w12 => ?_)
        · refine l_iinc rfl rfl rfl rfl ?_
          refine l_goto rfl rfl ?_
          exact Rl_weak (ih2 _ (by omega) ((v1 + 1)) (by omega) rfl) (And.intro rfl (And.intro rfl (True.intro)))
        · refine l_aload_n rfl rfl ?_
          refine l_gfr rfl rfl rfl rfl rfl (hH.r 891 4 895 rfl) ?_
          refine l_iconst rfl ?_
          refine l_iload_n rfl rfl ?_
          refine l_aload_n rfl rfl ?_
          refine l_gfr rfl rfl rfl rfl rfl (hH.r 891 0 876 rfl) ?_
          refine l_iload_n rfl rfl ?_
          have w13 : 0 ≤ Xi S 876 7 ∧ Xi S 876 7 ≤ 5125 := hH.c _ _
          refine l_callV rfl rfl rfl (t_to_runEnd hH v1 ⟨by omega, by omega⟩ _) ?_
          rintro _ _ ⟨rfl, z21, rfl, w21, w14, w15, w16, w17, w18, w19, w20⟩
          clear w16 w17 w18 w19
          show Rl _ _ _ _ _ [iv z21, iv v1, iv 2, .ref 895] _ _
          refine l_callV rfl rfl rfl (t_me_find hH 2 v1 z21 ⟨by omega, by omega⟩ ⟨by omega, by omega⟩ ⟨by omega, by omega⟩ (by first | assumption | exact (LEX_FR hF rfl rfl (by assumption : LEX S))) _) ?_
          rintro _ _ ⟨rfl, z25, rfl, w25, w22, w23, w24⟩
          have w26 : z25 ≠ -1 → _ := fun h => fb2 hH (w22 h)
          clear w23
          show Rl _ _ _ _ _ [iv z25] _ _
          refine l_iconst rfl ?_
          refine l_icmp_ne rfl rfl (by unfold rg; omega) (by unfold rg; omega) (fun w27 => ?_) (fun w28 => ?_)
          · refine l_iinc rfl rfl rfl rfl ?_
            refine l_goto rfl rfl ?_
            exact Rl_weak (ih2 _ (by omega) ((v1 + 1)) (by omega) rfl) (And.intro rfl (And.intro rfl (True.intro)))
          · refine l_aload_n rfl rfl ?_
            refine l_gfr rfl rfl rfl rfl rfl (hH.r 891 0 876 rfl) ?_
            refine l_iconst rfl ?_
            refine l_iload_n rfl rfl ?_
            refine l_callV rfl rfl rfl (t_to_wrong hH 4 v1 ⟨by omega, by omega⟩ ⟨by omega, by omega⟩ _) ?_
            rintro _ T1 ⟨hHT1, w32, z31, rfl, w31, w29, w30⟩
            have hFT1 : FR md_re_takeOldObjects S T1 := FR.tr hF w32 rfl
            show Rl _ _ _ _ _ [iv z31] _ _
            refine l_ireturn rfl (retI_z (by omega)) ?_
            have w33 : 0 ≤ Xi T1 876 8 ∧ Xi T1 876 8 ≤ 9 := hHT1.c _ _
            exact ⟨hHT1, hFT1, _, rfl, ⟨by omega, by omega⟩, (by first | assumption | omega)⟩
  refine l_iconst rfl ?_
  refine l_istore_n rfl rfl rfl ?_
  exact Rl_weak (C2 _ (0) (by omega) rfl) (And.intro rfl (And.intro rfl (True.intro)))
def md_re_adjectiveSuits : List rec := [(876, 877, 8, 9), (876, 877, 9, 10), (895, 896, 8, 9), (895, 896, 9, 10)]
abbrev Q_re_adjectiveSuits (S : sS) (at_ : Int) (to : Int) (nt : Int) : pst := fun r S1 => HI S1 ∧ FR md_re_adjectiveSuits S S1 ∧ (∃ z : Int, r = some (iv z) ∧ (0 ≤ z ∧ z ≤ 1) ∧ (z = 1 → ASU S at_ to nt (Xi S 890 3)) ∧ (z = 0 → Xi S1 876 8 ≠ 0))
set_option maxRecDepth 100000 in
theorem t_re_adjectiveSuits {S : sS} (hH : HI S) (at_ : Int) (to : Int) (nt : Int) (hat_ : 0 ≤ at_ ∧ at_ ≤ 5140) (hto : 0 ≤ to ∧ to ≤ 5140) (hnt : 0 ≤ nt ∧ nt ≤ 1) (hL : LEX S) (d : Nat) : Mt lay0 (d + 3) m_re_adjectiveSuits [.ref 891, iv at_, iv to, iv nt] S (Q_re_adjectiveSuits S at_ to nt) := by
  refine Mt_R rfl rfl ?_
  have hF : FR md_re_adjectiveSuits S S := FR.rf
  have w1 : -1 ≤ Xi S 890 3 ∧ Xi S 890 3 ≤ 5124 := hH.c _ _
  have C6 : ∀ (n6 : Nat) (T1 : sS) (_ : HI T1) (_ : FR md_re_adjectiveSuits S T1) (v4 : Int) (v5 : Int), (0 ≤ v4 ∧ v4 ≤ 1) → (0 ≤ v5 ∧ v5 ≤ 5124) → (ASU S at_ to nt v5) → n6 = (5125 - v5).toNat → Rl lay0 (d + 2) m_re_adjectiveSuits 6 [(0, .ref 891), (1, iv at_), (2, iv to), (3, iv nt), (4, iv v4), (5, iv v5)] [] T1 (Q_re_adjectiveSuits S at_ to nt) := by
    intro n6
    induction n6 using Nat.strongRecOn with
    | ind n6 ih6 =>
      intro T1 hHT1 hFT1 v4 v5 w2 w3 ha6 hm6
      have w4 : Xi T1 5 3 = Xi S 5 3 := hFT1.x _ _ rfl
      have w5 : Xi T1 876 7 = Xi S 876 7 := hFT1.x _ _ rfl
      have w6 : Xi T1 890 3 = Xi S 890 3 := hFT1.x _ _ rfl
      refine l_iload rfl rfl ?_
      refine l_aload_n rfl rfl ?_
      refine l_gfr rfl rfl rfl rfl rfl (hHT1.r 891 1 890 rfl) ?_
      refine l_gfi rfl rfl rfl rfl rfl ?_
      refine l_icmp_ge rfl rfl (by unfold rg; omega) (by unfold rg; omega) (fun w7 => ?_) (fun w8 => ?_)
      · refine l_iload rfl rfl ?_
        refine l_if_eq rfl rfl (by unfold rg; omega) (fun w9 => ?_) (fun w10 => ?_)
        · refine l_iconst rfl ?_
          refine l_goto rfl rfl ?_
          refine l_ireturn rfl rfl ?_
          have w11 : 0 ≤ Xi T1 876 8 ∧ Xi T1 876 8 ≤ 9 := hHT1.c _ _
          exact ⟨hHT1, hFT1, _, rfl, ⟨by omega, by omega⟩, (by first | (intro hz; omega) | (intro _; exact asu_e ha6 (by omega))), (by omega)⟩
        · refine l_aload_n rfl rfl ?_
          refine l_gfr rfl rfl rfl rfl rfl (hHT1.r 891 0 876 rfl) ?_
          refine l_bipush rfl rfl ?_
          refine l_iload_n rfl rfl ?_
          refine l_callV rfl rfl rfl (t_to_wrong hHT1 7 at_ ⟨by omega, by omega⟩ ⟨by omega, by omega⟩ _) ?_
          rintro _ T2 ⟨hHT2, w15, z14, rfl, w14, w12, w13⟩
          have hFT2 : FR md_re_adjectiveSuits S T2 := FR.tr hFT1 w15 rfl
          show Rl _ _ _ _ _ [iv z14] _ _
          refine l_if_eq rfl rfl (by unfold rg; omega) (fun w16 => ?_) (fun w17 => ?_)
          · refine l_iconst rfl ?_
            refine l_ireturn rfl rfl ?_
            have w18 : 0 ≤ Xi T2 876 8 ∧ Xi T2 876 8 ≤ 9 := hHT2.c _ _
            exact ⟨hHT2, hFT2, _, rfl, ⟨by omega, by omega⟩, (by first | (intro hz; omega) | (intro _; exact asu_e ha6 (by omega))), (by omega)⟩
          · refine l_iconst rfl ?_
            refine l_goto rfl rfl ?_
            refine l_ireturn rfl rfl ?_
            have w19 : 0 ≤ Xi T2 876 8 ∧ Xi T2 876 8 ≤ 9 := hHT2.c _ _
            exact ⟨hHT2, hFT2, _, rfl, ⟨by omega, by omega⟩, (by first | (intro hz; omega) | (intro _; exact asu_e ha6 (by omega))), (by omega)⟩
      · refine l_aload_n rfl rfl ?_
        refine l_iload rfl rfl ?_
        have w20 : 0 ≤ Xi T1 876 7 ∧ Xi T1 876 7 ≤ 5125 := hHT1.c _ _
        have w21 : -1 ≤ Xi T1 890 3 ∧ Xi T1 890 3 ≤ 5124 := hHT1.c _ _
        refine l_callV rfl rfl rfl (t_re_beginsName hHT1 v5 ⟨by omega, by omega⟩ _) ?_
        rintro _ _ ⟨rfl, z24, rfl, w24, w22, w23⟩
        show Rl _ _ _ _ _ [iv z24] _ _
        have hbg : z24 = bgn S v5 := (by assumption : z24 = bgn T1 v5).trans (bgn_FR hFT1 rfl rfl)
        refine l_if_eq rfl rfl (by unfold rg; omega) (fun w25 => ?_) (fun w26 => ?_)
        · refine l_iconst rfl ?_
          refine l_istore rfl rfl rfl ?_
          refine l_iload rfl rfl ?_
          refine l_iconst rfl ?_
          refine l_icmp_ne rfl rfl (by unfold rg; omega) (by unfold rg; omega) (fun w27 => absurd w27 (by omega)) (fun w28 => ?_)
          · refine l_iconst rfl ?_
            refine l_goto rfl rfl ?_
            refine l_istore rfl rfl rfl ?_
            refine l_iload rfl rfl ?_
            refine l_if_ne rfl rfl (by unfold rg; omega) (fun w29 => ?_) (fun w30 => absurd w30 (by omega))
            · refine l_iload rfl rfl ?_
              refine l_if_ne rfl rfl (by unfold rg; omega) (fun w31 => ?_) (fun w32 => ?_)
              · refine l_iconst rfl ?_
                refine l_goto rfl rfl ?_
                refine l_istore rfl rfl rfl ?_
                refine l_iinc rfl rfl rfl rfl ?_
                refine l_goto rfl rfl ?_
                exact Rl_weak (ih6 _ (by omega) T1 hHT1 hFT1 (1) ((v5 + 1)) (by omega) (by omega) (by first | exact asu_0 | exact asu_s ha6 (Or.inl (by omega)) | exact asu_s ha6 (Or.inr (Or.inl (by omega))) | exact asu_s ha6 (Or.inr (Or.inr (hrr (by omega))))) rfl) (And.intro rfl (And.intro rfl (And.intro rfl (And.intro rfl (And.intro rfl (And.intro rfl (True.intro)))))))
              · refine l_iload rfl rfl ?_
                refine l_iconst rfl ?_
                refine l_icmp_le rfl rfl (by unfold rg; omega) (by unfold rg; omega) (fun w33 => ?_) (fun w34 => absurd w34 (by omega))
                · refine l_iconst rfl ?_
                  refine l_istore rfl rfl rfl ?_
                  refine l_iinc rfl rfl rfl rfl ?_
                  refine l_goto rfl rfl ?_
                  exact Rl_weak (ih6 _ (by omega) T1 hHT1 hFT1 (0) ((v5 + 1)) (by omega) (by omega) (by first | exact asu_0 | exact asu_s ha6 (Or.inl (by omega)) | exact asu_s ha6 (Or.inr (Or.inl (by omega))) | exact asu_s ha6 (Or.inr (Or.inr (hrr (by omega))))) rfl) (And.intro rfl (And.intro rfl (And.intro rfl (And.intro rfl (And.intro rfl (And.intro rfl (True.intro)))))))
        · refine l_aload_n rfl rfl ?_
          refine l_gfr rfl rfl rfl rfl rfl (hHT1.r 891 4 895 rfl) ?_
          refine l_iconst rfl ?_
          refine l_iload rfl rfl ?_
          refine l_aload_n rfl rfl ?_
          refine l_gfr rfl rfl rfl rfl rfl (hHT1.r 891 0 876 rfl) ?_
          refine l_iload rfl rfl ?_
          have w35 : 0 ≤ Xi T1 876 7 ∧ Xi T1 876 7 ≤ 5125 := hHT1.c _ _
          refine l_callV rfl rfl rfl (t_to_runEnd hHT1 v5 ⟨by omega, by omega⟩ _) ?_
          rintro _ _ ⟨rfl, z43, rfl, w43, w36, w37, w38, w39, w40, w41, w42⟩
          clear w38 w39 w40 w41
          show Rl _ _ _ _ _ [iv z43, iv v5, iv 2, .ref 895] _ _
          refine l_callV rfl rfl rfl (t_me_find hHT1 2 v5 z43 ⟨by omega, by omega⟩ ⟨by omega, by omega⟩ ⟨by omega, by omega⟩ (by first | assumption | exact (LEX_FR hFT1 rfl rfl (by assumption : LEX S))) _) ?_
          rintro _ _ ⟨rfl, z47, rfl, w47, w44, w45, w46⟩
          have w48 : z47 ≠ -1 → _ := fun h => fb2 hHT1 (w44 h)
          clear w45
          show Rl _ _ _ _ _ [iv z47] _ _
          have hfo : z47 = fob S v5 := (fob_of (by assumption) (by assumption)).trans (fob_FR hFT1 rfl rfl)
          refine l_goto rfl rfl ?_
          refine l_istore rfl rfl rfl ?_
          refine l_iload rfl rfl ?_
          refine l_iconst rfl ?_
          refine l_icmp_ne rfl rfl (by unfold rg; omega) (by unfold rg; omega) (fun w49 => ?_) (fun w50 => ?_)
          · refine l_aload_n rfl rfl ?_
            refine l_gfr rfl rfl rfl rfl rfl (hHT1.r 891 4 895 rfl) ?_
            refine l_aload_n rfl rfl ?_
            refine l_gfr rfl rfl rfl rfl rfl (hHT1.r 891 3 20 rfl) ?_
            refine l_gfr rfl rfl rfl rfl rfl (hHT1.r 20 2 21 rfl) ?_
            refine l_iload rfl rfl ?_
            refine l_iaload (n := 24) rfl rfl (by omega) (by omega) (by unfold rg; omega) ?_
            have w51 : 0 ≤ (Xi T1 21 ((z47).toNat)) ∧ (Xi T1 21 ((z47).toNat)) ≤ 15 := hHT1.c _ _
            have hkk : (Xi T1 21 ((z47).toNat)) = Xi S 21 (fob S v5).toNat := by rw [(hFT1.cx 21 rfl _).1]; exact congrArg (fun t : Int => Xi S 21 t.toNat) (by omega)
            refine l_iload_n rfl rfl ?_
            refine l_iload_n rfl rfl ?_
            refine l_iload_n rfl rfl ?_
            refine l_if_ne rfl rfl (by unfold rg; omega) (fun w52 => ?_) (fun w53 => ?_)
            · refine l_iconst rfl ?_
              refine l_iconst rfl ?_
              have w54 : 0 ≤ Xi T1 5 3 ∧ Xi T1 5 3 ≤ 24 := hHT1.c _ _
              refine l_callV rfl rfl rfl (t_me_readAdjective hHT1 (Xi T1 21 ((z47).toNat)) at_ to 0 0 ⟨by omega, by omega⟩ ⟨by omega, by omega⟩ ⟨by omega, by omega⟩ ⟨by omega, by omega⟩ ⟨by omega, by omega⟩ (by first | assumption | exact (LEX_FR hFT1 rfl rfl (by assumption : LEX S))) _) ?_
              rintro _ T3 ⟨hHT3, w58, z57, rfl, w57, w55, w56⟩
              have hFT3 : FR md_re_adjectiveSuits S T3 := FR.tr hFT1 w58 rfl
              show Rl _ _ _ _ _ [iv z57] _ _
              have hrr : 1 ≤ z57 → 1 ≤ raF S (Xi S 21 (fob S v5).toNat) at_ to (1 - nt) 0 := fun h => asu_r (by assumption) (by assumption : FR md_re_adjectiveSuits S T1) rfl hkk (by omega) h
              refine l_istore rfl rfl rfl ?_
              refine l_iload rfl rfl ?_
              refine l_if_ne rfl rfl (by unfold rg; omega) (fun w59 => ?_) (fun w60 => ?_)
              · refine l_iload rfl rfl ?_
                refine l_if_ne rfl rfl (by unfold rg; omega) (fun w61 => ?_) (fun w62 => ?_)
                · refine l_iconst rfl ?_
                  refine l_goto rfl rfl ?_
                  refine l_istore rfl rfl rfl ?_
                  refine l_iinc rfl rfl rfl rfl ?_
                  refine l_goto rfl rfl ?_
                  exact Rl_weak (ih6 _ (by omega) T3 hHT3 hFT3 (1) ((v5 + 1)) (by omega) (by omega) (by first | exact asu_0 | exact asu_s ha6 (Or.inl (by omega)) | exact asu_s ha6 (Or.inr (Or.inl (by omega))) | exact asu_s ha6 (Or.inr (Or.inr (hrr (by omega))))) rfl) (And.intro rfl (And.intro rfl (And.intro rfl (And.intro rfl (And.intro rfl (And.intro rfl (True.intro)))))))
                · refine l_iload rfl rfl ?_
                  refine l_iconst rfl ?_
                  refine l_icmp_le rfl rfl (by unfold rg; omega) (by unfold rg; omega) (fun w63 => ?_) (fun w64 => ?_)
                  · refine l_iconst rfl ?_
                    refine l_istore rfl rfl rfl ?_
                    refine l_iinc rfl rfl rfl rfl ?_
                    refine l_goto rfl rfl ?_
                    exact Rl_weak (ih6 _ (by omega) T3 hHT3 hFT3 (0) ((v5 + 1)) (by omega) (by omega) (by first | exact asu_0 | exact asu_s ha6 (Or.inl (by omega)) | exact asu_s ha6 (Or.inr (Or.inl (by omega))) | exact asu_s ha6 (Or.inr (Or.inr (hrr (by omega))))) rfl) (And.intro rfl (And.intro rfl (And.intro rfl (And.intro rfl (And.intro rfl (And.intro rfl (True.intro)))))))
                  · refine l_iconst rfl ?_
                    refine l_goto rfl rfl ?_
                    refine l_istore rfl rfl rfl ?_
                    refine l_iinc rfl rfl rfl rfl ?_
                    refine l_goto rfl rfl ?_
                    exact Rl_weak (ih6 _ (by omega) T3 hHT3 hFT3 (1) ((v5 + 1)) (by omega) (by omega) (by first | exact asu_0 | exact asu_s ha6 (Or.inl (by omega)) | exact asu_s ha6 (Or.inr (Or.inl (by omega))) | exact asu_s ha6 (Or.inr (Or.inr (hrr (by omega))))) rfl) (And.intro rfl (And.intro rfl (And.intro rfl (And.intro rfl (And.intro rfl (And.intro rfl (True.intro)))))))
              · refine l_aload_n rfl rfl ?_
                refine l_gfr rfl rfl rfl rfl rfl (hHT3.r 891 0 876 rfl) ?_
                refine l_iconst rfl ?_
                refine l_iload_n rfl rfl ?_
                refine l_callV rfl rfl rfl (t_to_wrong hHT3 4 at_ ⟨by omega, by omega⟩ ⟨by omega, by omega⟩ _) ?_
                rintro _ T4 ⟨hHT4, w68, z67, rfl, w67, w65, w66⟩
                have hFT4 : FR md_re_adjectiveSuits S T4 := FR.tr hFT3 w68 rfl
                show Rl _ _ _ _ _ [iv z67] _ _
                refine l_ireturn rfl (retI_z (by omega)) ?_
                have w69 : 0 ≤ Xi T4 876 8 ∧ Xi T4 876 8 ≤ 9 := hHT4.c _ _
                exact ⟨hHT4, hFT4, _, rfl, ⟨by omega, by omega⟩, (by first | (intro hz; omega) | (intro _; exact asu_e ha6 (by omega))), (by omega)⟩
            · refine l_iconst rfl ?_
              refine l_goto rfl rfl ?_
              refine l_iconst rfl ?_
              have w70 : 0 ≤ Xi T1 5 3 ∧ Xi T1 5 3 ≤ 24 := hHT1.c _ _
              refine l_callV rfl rfl rfl (t_me_readAdjective hHT1 (Xi T1 21 ((z47).toNat)) at_ to 1 0 ⟨by omega, by omega⟩ ⟨by omega, by omega⟩ ⟨by omega, by omega⟩ ⟨by omega, by omega⟩ ⟨by omega, by omega⟩ (by first | assumption | exact (LEX_FR hFT1 rfl rfl (by assumption : LEX S))) _) ?_
              rintro _ T5 ⟨hHT5, w74, z73, rfl, w73, w71, w72⟩
              have hFT5 : FR md_re_adjectiveSuits S T5 := FR.tr hFT1 w74 rfl
              show Rl _ _ _ _ _ [iv z73] _ _
              have hrr : 1 ≤ z73 → 1 ≤ raF S (Xi S 21 (fob S v5).toNat) at_ to (1 - nt) 0 := fun h => asu_r (by assumption) (by assumption : FR md_re_adjectiveSuits S T1) rfl hkk (by omega) h
              refine l_istore rfl rfl rfl ?_
              refine l_iload rfl rfl ?_
              refine l_if_ne rfl rfl (by unfold rg; omega) (fun w75 => ?_) (fun w76 => ?_)
              · refine l_iload rfl rfl ?_
                refine l_if_ne rfl rfl (by unfold rg; omega) (fun w77 => ?_) (fun w78 => ?_)
                · refine l_iconst rfl ?_
                  refine l_goto rfl rfl ?_
                  refine l_istore rfl rfl rfl ?_
                  refine l_iinc rfl rfl rfl rfl ?_
                  refine l_goto rfl rfl ?_
                  exact Rl_weak (ih6 _ (by omega) T5 hHT5 hFT5 (1) ((v5 + 1)) (by omega) (by omega) (by first | exact asu_0 | exact asu_s ha6 (Or.inl (by omega)) | exact asu_s ha6 (Or.inr (Or.inl (by omega))) | exact asu_s ha6 (Or.inr (Or.inr (hrr (by omega))))) rfl) (And.intro rfl (And.intro rfl (And.intro rfl (And.intro rfl (And.intro rfl (And.intro rfl (True.intro)))))))
                · refine l_iload rfl rfl ?_
                  refine l_iconst rfl ?_
                  refine l_icmp_le rfl rfl (by unfold rg; omega) (by unfold rg; omega) (fun w79 => ?_) (fun w80 => ?_)
                  · refine l_iconst rfl ?_
                    refine l_istore rfl rfl rfl ?_
                    refine l_iinc rfl rfl rfl rfl ?_
                    refine l_goto rfl rfl ?_
                    exact Rl_weak (ih6 _ (by omega) T5 hHT5 hFT5 (0) ((v5 + 1)) (by omega) (by omega) (by first | exact asu_0 | exact asu_s ha6 (Or.inl (by omega)) | exact asu_s ha6 (Or.inr (Or.inl (by omega))) | exact asu_s ha6 (Or.inr (Or.inr (hrr (by omega))))) rfl) (And.intro rfl (And.intro rfl (And.intro rfl (And.intro rfl (And.intro rfl (And.intro rfl (True.intro)))))))
                  · refine l_iconst rfl ?_
                    refine l_goto rfl rfl ?_
                    refine l_istore rfl rfl rfl ?_
                    refine l_iinc rfl rfl rfl rfl ?_
                    refine l_goto rfl rfl ?_
                    exact Rl_weak (ih6 _ (by omega) T5 hHT5 hFT5 (1) ((v5 + 1)) (by omega) (by omega) (by first | exact asu_0 | exact asu_s ha6 (Or.inl (by omega)) | exact asu_s ha6 (Or.inr (Or.inl (by omega))) | exact asu_s ha6 (Or.inr (Or.inr (hrr (by omega))))) rfl) (And.intro rfl (And.intro rfl (And.intro rfl (And.intro rfl (And.intro rfl (And.intro rfl (True.intro)))))))
              · refine l_aload_n rfl rfl ?_
                refine l_gfr rfl rfl rfl rfl rfl (hHT5.r 891 0 876 rfl) ?_
                refine l_iconst rfl ?_
                refine l_iload_n rfl rfl ?_
                refine l_callV rfl rfl rfl (t_to_wrong hHT5 4 at_ ⟨by omega, by omega⟩ ⟨by omega, by omega⟩ _) ?_
                rintro _ T6 ⟨hHT6, w84, z83, rfl, w83, w81, w82⟩
                have hFT6 : FR md_re_adjectiveSuits S T6 := FR.tr hFT5 w84 rfl
                show Rl _ _ _ _ _ [iv z83] _ _
                refine l_ireturn rfl (retI_z (by omega)) ?_
                have w85 : 0 ≤ Xi T6 876 8 ∧ Xi T6 876 8 ≤ 9 := hHT6.c _ _
                exact ⟨hHT6, hFT6, _, rfl, ⟨by omega, by omega⟩, (by first | (intro hz; omega) | (intro _; exact asu_e ha6 (by omega))), (by omega)⟩
          · refine l_iconst rfl ?_
            refine l_goto rfl rfl ?_
            refine l_istore rfl rfl rfl ?_
            refine l_iload rfl rfl ?_
            refine l_if_ne rfl rfl (by unfold rg; omega) (fun w86 => ?_) (fun w87 => absurd w87 (by omega))
            · refine l_iload rfl rfl ?_
              refine l_if_ne rfl rfl (by unfold rg; omega) (fun w88 => ?_) (fun w89 => ?_)
              · refine l_iconst rfl ?_
                refine l_goto rfl rfl ?_
                refine l_istore rfl rfl rfl ?_
                refine l_iinc rfl rfl rfl rfl ?_
                refine l_goto rfl rfl ?_
                exact Rl_weak (ih6 _ (by omega) T1 hHT1 hFT1 (1) ((v5 + 1)) (by omega) (by omega) (by first | exact asu_0 | exact asu_s ha6 (Or.inl (by omega)) | exact asu_s ha6 (Or.inr (Or.inl (by omega))) | exact asu_s ha6 (Or.inr (Or.inr (hrr (by omega))))) rfl) (And.intro rfl (And.intro rfl (And.intro rfl (And.intro rfl (And.intro rfl (And.intro rfl (True.intro)))))))
              · refine l_iload rfl rfl ?_
                refine l_iconst rfl ?_
                refine l_icmp_le rfl rfl (by unfold rg; omega) (by unfold rg; omega) (fun w90 => ?_) (fun w91 => absurd w91 (by omega))
                · refine l_iconst rfl ?_
                  refine l_istore rfl rfl rfl ?_
                  refine l_iinc rfl rfl rfl rfl ?_
                  refine l_goto rfl rfl ?_
                  exact Rl_weak (ih6 _ (by omega) T1 hHT1 hFT1 (0) ((v5 + 1)) (by omega) (by omega) (by first | exact asu_0 | exact asu_s ha6 (Or.inl (by omega)) | exact asu_s ha6 (Or.inr (Or.inl (by omega))) | exact asu_s ha6 (Or.inr (Or.inr (hrr (by omega))))) rfl) (And.intro rfl (And.intro rfl (And.intro rfl (And.intro rfl (And.intro rfl (And.intro rfl (True.intro)))))))
  refine l_iconst rfl ?_
  refine l_istore rfl rfl rfl ?_
  refine l_iconst rfl ?_
  refine l_istore rfl rfl rfl ?_
  exact Rl_weak (C6 _ S hH hF (0) (0) (by omega) (by omega) (by first | exact asu_0 | exact asu_s ha6 (Or.inl (by omega)) | exact asu_s ha6 (Or.inr (Or.inl (by omega))) | exact asu_s ha6 (Or.inr (Or.inr (hrr (by omega))))) rfl) (And.intro rfl (And.intro rfl (And.intro rfl (And.intro rfl (And.intro rfl (And.intro rfl (True.intro)))))))

