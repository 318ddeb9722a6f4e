def md_co_fitsGap : List rec := [(882, 883, 13, 14)]
abbrev Q_co_fitsGap (S : sS) (kind : Int) (meant : Int) : pst := fun r S1 => HI S1 ∧ FR md_co_fitsGap S S1 ∧ (∃ z : Int, r = some (iv z) ∧ (0 ≤ z ∧ z ≤ 1) ∧ (z = 1 → 0 ≤ Xi S1 882 13 ∧ Xi S1 882 13 ≤ 23 ∧ (kind = -2 → Xi S1 882 13 ≤ 5)))
set_option maxRecDepth 100000 in
theorem t_co_fitsGap {S : sS} (hH : HI S) (kind : Int) (meant : Int) (hkind : -2 ≤ kind ∧ kind ≤ 255) (hmeant : -1 ≤ meant ∧ meant ≤ 3647) (hL : LEX S) (hm : mOK S meant) (d : Nat) : Mt lay0 (d + 3) m_co_fitsGap [.ref 882, iv kind, iv meant] S (Q_co_fitsGap S kind meant) := by
  refine Mt_R rfl rfl ?_
  have hF : FR md_co_fitsGap S S := FR.rf
  have hm14 : meant / 256 = 14 → 0 ≤ meant % 256 ∧ meant % 256 ≤ 5 := fun e => fb14 hH (lx hm e (by omega))
  have hm2 : meant / 256 = 2 → 0 ≤ meant % 256 ∧ meant % 256 ≤ 23 ∧ meant % 256 < Xi S 5 2 := fun e => fb2 hH (lx hm e (by omega))
  refine l_aload_n rfl rfl ?_
  refine l_iload_n rfl rfl ?_
  refine l_sipush rfl rfl ?_
  refine l_iand255 rfl (by unfold rg; omega) ?_
  refine l_pfi rfl rfl rfl rfl ?_
  obtain ⟨U1, eU1⟩ : ∃ T : sS, T = uI S 882 13 (Int32.ofInt (meant % 256)) := ⟨_, rfl⟩
  rw [← eU1]
  have hHU1 : HI U1 := by rw [eU1]; exact HI_w hH (show -1 ≤ (meant % 256) by omega) (show (meant % 256) ≤ 255 by omega)
  have hFU1 : FR md_co_fitsGap S U1 := by rw [eU1]; exact FR.wI hF (mdf_i (r := (882, 883, 13, 14)) (List.mem_of_getElem? (i := 0) rfl) (inR_i (by omega) (by omega) (by omega) (by omega)))
  have w2 : Xi U1 882 13 = (meant % 256) := by rw [eU1]; exact Xi_same (by unfold rg; omega)
  refine l_iload_n rfl rfl ?_
  refine l_bipush rfl rfl ?_
  refine l_icmp_ne rfl rfl (by unfold rg; omega) (by unfold rg; omega) (fun w3 => ?_) (fun w4 => ?_)
  · refine l_iload_n rfl rfl ?_
    refine l_bipush rfl rfl ?_
    refine l_ishr8 rfl (by unfold rg; omega) ?_
    refine l_iconst rfl ?_
    refine l_icmp_ne rfl rfl (by unfold rg; omega) (by unfold rg; omega) (fun w6 => ?_) (fun w7 => ?_)
    · refine l_iconst rfl ?_
      refine l_ireturn rfl rfl ?_
      have w8 : -1 ≤ Xi U1 882 13 ∧ Xi U1 882 13 ≤ 255 := hHU1.c _ _
      exact ⟨hHU1, hFU1, _, rfl, ⟨by omega, by omega⟩, (by first | assumption | omega)⟩
    · refine l_aload_n rfl rfl ?_
      refine l_gfr rfl rfl rfl rfl rfl (hHU1.r 882 2 20 rfl) ?_
      refine l_aload_n rfl rfl ?_
      refine l_gfi rfl rfl rfl rfl rfl ?_
      refine l_iload_n rfl rfl ?_
      refine l_callV rfl rfl rfl (t_wo_isA hHU1 (Xi U1 882 13) kind ⟨by omega, by omega⟩ ⟨by omega, by omega⟩ _) ?_
      rintro _ _ ⟨rfl, z10, rfl, w10, w9⟩
      show Rl _ _ _ _ _ [iv z10] _ _
      refine l_if_eq rfl rfl (by unfold rg; omega) (fun w11 => ?_) (fun w12 => ?_)
      · refine l_iconst rfl ?_
        refine l_ireturn rfl rfl ?_
        have w13 : -1 ≤ Xi U1 882 13 ∧ Xi U1 882 13 ≤ 255 := hHU1.c _ _
        exact ⟨hHU1, hFU1, _, rfl, ⟨by omega, by omega⟩, (by first | assumption | omega)⟩
      · refine l_iconst rfl ?_
        refine l_goto rfl rfl ?_
        refine l_ireturn rfl rfl ?_
        have w14 : -1 ≤ Xi U1 882 13 ∧ Xi U1 882 13 ≤ 255 := hHU1.c _ _
        exact ⟨hHU1, hFU1, _, rfl, ⟨by omega, by omega⟩, (by first | assumption | omega)⟩
  · refine l_iload_n rfl rfl ?_
    refine l_bipush rfl rfl ?_
    refine l_ishr8 rfl (by unfold rg; omega) ?_
    refine l_bipush rfl rfl ?_
    refine l_icmp_ne rfl rfl (by unfold rg; omega) (by unfold rg; omega) (fun w16 => ?_) (fun w17 => ?_)
    · refine l_iconst rfl ?_
      refine l_ireturn rfl rfl ?_
      have w18 : -1 ≤ Xi U1 882 13 ∧ Xi U1 882 13 ≤ 255 := hHU1.c _ _
      exact ⟨hHU1, hFU1, _, rfl, ⟨by omega, by omega⟩, (by first | assumption | omega)⟩
    · refine l_iconst rfl ?_
      refine l_goto rfl rfl ?_
      refine l_ireturn rfl rfl ?_
      have w19 : -1 ≤ Xi U1 882 13 ∧ Xi U1 882 13 ≤ 255 := hHU1.c _ _
      exact ⟨hHU1, hFU1, _, rfl, ⟨by omega, by omega⟩, (by first | assumption | omega)⟩
def md_co_fits : List rec := [(882, 883, 13, 14)]
abbrev Q_co_fits (S : sS) (i : Int) : pst := fun r S1 => HI S1 ∧ FR md_co_fits S S1 ∧ (∃ z : Int, r = some (iv z) ∧ (0 ≤ z ∧ z ≤ 1) ∧ (z = 1 → (Xi S 885 i.toNat = -1 → Xi S1 882 13 = -1) ∧ (Xi S 885 i.toNat ≠ -1 → 0 ≤ Xi S1 882 13 ∧ Xi S1 882 13 ≤ 23 ∧ (Xi S 886 i.toNat = -2 → Xi S1 882 13 ≤ 5))))
set_option maxRecDepth 100000 in
theorem t_co_fits {S : sS} (hH : HI S) (i : Int) (hi : 0 ≤ i ∧ i ≤ 19) (hL : LEX S) (d : Nat) : Mt lay0 (d + 4) m_co_fits [.ref 882, iv i] S (Q_co_fits S i) := by
  refine Mt_R rfl rfl ?_
  have hF : FR md_co_fits S S := FR.rf
  have w1 : -1 ≤ Xi S 882 13 ∧ Xi S 882 13 ≤ 255 := hH.c _ _
  have C74 : ∀ (n74 : Nat) (T1 : sS) (_ : HI T1) (_ : FR md_co_fits S T1) (v2 : Int) (v3 : Int) (v4 : Int), (0 ≤ v2 ∧ v2 ≤ 2) → (0 ≤ v3 ∧ v3 ≤ 8) → (0 ≤ v4 ∧ v4 ≤ 8) → ((Xi S 885 i.toNat = -1 → v2 = 0 ∧ v3 = Xi S 884 i.toNat) ∧ (Xi S 885 i.toNat ≠ -1 → 0 ≤ v2 ∧ v2 < 3 ∧ v3 = Xi S 885 i.toNat)) → (v2 + Xi S 884 i.toNat ≤ 50) → (Xi T1 882 13 = -1) → n74 = (9 - v4).toNat → Rl lay0 (d + 3) m_co_fits 74 [(0, .ref 882), (1, iv i), (2, iv v2), (3, iv v3), (4, iv v4)] [] T1 (Q_co_fits S i) := by
    intro n74
    induction n74 using Nat.strongRecOn with
    | ind n74 ih74 =>
      intro T1 hHT1 hFT1 v2 v3 v4 w2 w3 w4 w5 w6 w7 hm74
      have w8 : -1 ≤ Xi T1 882 13 ∧ Xi T1 882 13 ≤ 255 := hHT1.c _ _
      refine l_iload rfl rfl ?_
      have hg5 : Xi T1 885 i.toNat = Xi S 885 i.toNat := (hFT1.cx 885 rfl _).1
      have hg4 : Xi T1 884 i.toNat = Xi S 884 i.toNat := (hFT1.cx 884 rfl _).1
      have hg6 : Xi T1 886 i.toNat = Xi S 886 i.toNat := (hFT1.cx 886 rfl _).1
      refine l_aload_n rfl rfl ?_
      refine l_gfr rfl rfl rfl rfl rfl (hHT1.r 882 5 884 rfl) ?_
      refine l_iload_n rfl rfl ?_
      refine l_iaload (n := 20) rfl rfl (by omega) (by omega) (by unfold rg; omega) ?_
      have w9 : 0 ≤ (Xi T1 884 ((i).toNat)) ∧ (Xi T1 884 ((i).toNat)) ≤ 8 := hHT1.c _ _
      refine l_icmp_ge rfl rfl (by unfold rg; omega) (by unfold rg; omega) (fun w10 => ?_) (fun w11 => ?_)
      · refine l_aload_n rfl rfl ?_
        refine l_gfr rfl rfl rfl rfl rfl (hHT1.r 882 6 885 rfl) ?_
        refine l_iload_n rfl rfl ?_
        refine l_iaload (n := 20) rfl rfl (by omega) (by omega) (by unfold rg; omega) ?_
        have w12 : -1 ≤ (Xi T1 885 ((i).toNat)) ∧ (Xi T1 885 ((i).toNat)) ≤ 7 := hHT1.c _ _
        refine l_iconst rfl ?_
        refine l_icmp_eq rfl rfl (by unfold rg; omega) (by unfold rg; omega) (fun w13 => ?_) (fun w14 => ?_)
        · refine l_iconst rfl ?_
          refine l_goto rfl rfl ?_
          refine l_ireturn rfl rfl ?_
          exact ⟨hHT1, hFT1, _, rfl, ⟨by omega, by omega⟩, (by first | assumption | omega)⟩
        · refine l_aload_n rfl rfl ?_
          refine l_aload_n rfl rfl ?_
          refine l_gfr rfl rfl rfl rfl rfl (hHT1.r 882 7 886 rfl) ?_
          refine l_iload_n rfl rfl ?_
          refine l_iaload (n := 20) rfl rfl (by omega) (by omega) (by unfold rg; omega) ?_
          have w16 : -2 ≤ (Xi T1 886 ((i).toNat)) ∧ (Xi T1 886 ((i).toNat)) ≤ 255 := hHT1.c _ _
          refine l_aload_n rfl rfl ?_
          refine l_gfr rfl rfl rfl rfl rfl (hHT1.r 882 1 1 rfl) ?_
          refine l_aload_n rfl rfl ?_
          refine l_gfr rfl rfl rfl rfl rfl (hHT1.r 882 11 889 rfl) ?_
          refine l_iload_n rfl rfl ?_
          refine l_iload_n rfl rfl ?_
          refine l_iload_n rfl rfl ?_
          refine l_iadd rfl ?_
          refine l_iconst rfl ?_
          refine l_iadd rfl ?_
          refine l_callV rfl rfl rfl (t_vo_meaning hHT1 889 50 v3 ((v3 + v2) + 1) rfl ⟨by omega, by omega⟩ ⟨by omega, by omega⟩ ⟨by omega, by omega⟩ (by first | assumption | exact (LEX_FR hFT1 rfl rfl (by assumption : LEX S))) _) ?_
          rintro _ _ ⟨rfl, z20, rfl, w20, w17, w18, w19⟩
          show Rl _ _ _ _ _ [iv z20, iv (Xi T1 886 ((i).toNat)), .ref 882] _ _
          have hmnz20 := mOK_n (z := z20) (by assumption)
          refine l_callV rfl rfl rfl (t_co_fitsGap hHT1 (Xi T1 886 ((i).toNat)) z20 ⟨by omega, by omega⟩ ⟨by omega, by omega⟩ (by first | assumption | exact (LEX_FR hFT1 rfl rfl (by assumption : LEX S))) (by assumption) _) ?_
          rintro _ T2 ⟨hHT2, w23, z22, rfl, w22, w21⟩
          have hFT2 : FR md_co_fits S T2 := FR.tr hFT1 w23 rfl
          show Rl _ _ _ _ _ [iv z22] _ _
          refine l_if_eq rfl rfl (by unfold rg; omega) (fun w24 => ?_) (fun w25 => ?_)
          · refine l_iconst rfl ?_
            refine l_ireturn rfl rfl ?_
            have w26 : -1 ≤ Xi T2 882 13 ∧ Xi T2 882 13 ≤ 255 := hHT2.c _ _
            exact ⟨hHT2, hFT2, _, rfl, ⟨by omega, by omega⟩, (by first | assumption | omega)⟩
          · refine l_iconst rfl ?_
            refine l_goto rfl rfl ?_
            refine l_ireturn rfl rfl ?_
            have w27 : -1 ≤ Xi T2 882 13 ∧ Xi T2 882 13 ≤ 255 := hHT2.c _ _
            exact ⟨hHT2, hFT2, _, rfl, ⟨by omega, by omega⟩, (by first | assumption | omega)⟩
      · refine l_iload rfl rfl ?_
        refine l_aload_n rfl rfl ?_
        refine l_gfr rfl rfl rfl rfl rfl (hHT1.r 882 6 885 rfl) ?_
        refine l_iload_n rfl rfl ?_
        refine l_iaload (n := 20) rfl rfl (by omega) (by omega) (by unfold rg; omega) ?_
        have w28 : -1 ≤ (Xi T1 885 ((i).toNat)) ∧ (Xi T1 885 ((i).toNat)) ≤ 7 := hHT1.c _ _
        refine l_icmp_eq rfl rfl (by unfold rg; omega) (by unfold rg; omega) (fun w29 => ?_) (fun w30 => ?_)
        · refine l_iinc rfl rfl rfl rfl ?_
          refine l_goto rfl rfl ?_
          exact Rl_weak (ih74 _ (by omega) T1 hHT1 hFT1 (v2) (v3) ((v4 + 1)) (by omega) (by omega) (by omega) (by omega) (by omega) (by omega) rfl) (And.intro rfl (And.intro rfl (And.intro rfl (And.intro rfl (And.intro rfl (True.intro))))))
        · refine l_aload_n rfl rfl ?_
          refine l_gfr rfl rfl rfl rfl rfl (hHT1.r 882 8 887 rfl) ?_
          refine l_iload_n rfl rfl ?_
          refine l_bipush rfl rfl ?_
          refine l_imul rfl ?_
          refine l_iload rfl rfl ?_
          refine l_iadd rfl ?_
          refine l_laload (n := 160) rfl rfl (by omega) (by omega) (by unfold rg; omega) ?_
          have w32 : -9223372036854775808 ≤ (Xj T1 887 ((((i * 8) + v4)).toNat)) ∧ (Xj T1 887 ((((i * 8) + v4)).toNat)) < 9223372036854775808 := Xj_rg
          refine l_aload_n rfl rfl ?_
          refine l_gfr rfl rfl rfl rfl rfl (hHT1.r 882 11 889 rfl) ?_
          refine l_iload rfl rfl ?_
          refine l_iload_n rfl rfl ?_
          refine l_icmp_ge rfl rfl (by unfold rg; omega) (by unfold rg; omega) (fun w33 => ?_) (fun w34 => ?_)
          · refine l_iload rfl rfl ?_
            refine l_iload_n rfl rfl ?_
            refine l_iadd rfl ?_
            refine l_laload (n := 50) rfl rfl (by omega) (by omega) (by unfold rg; omega) ?_
            have w35 : -9223372036854775808 ≤ (Xj T1 889 (((v4 + v2)).toNat)) ∧ (Xj T1 889 (((v4 + v2)).toNat)) < 9223372036854775808 := Xj_rg
            refine l_lcmpA rfl (fun c36 w36 => ?_)
            refine l_if_eq rfl rfl (by unfold rg; omega) (fun w37 => ?_) (fun w38 => ?_)
            · refine l_iinc rfl rfl rfl rfl ?_
              refine l_goto rfl rfl ?_
              exact Rl_weak (ih74 _ (by omega) T1 hHT1 hFT1 (v2) (v3) ((v4 + 1)) (by omega) (by omega) (by omega) (by omega) (by omega) (by omega) rfl) (And.intro rfl (And.intro rfl (And.intro rfl (And.intro rfl (And.intro rfl (True.intro))))))
            · refine l_iconst rfl ?_
              refine l_ireturn rfl rfl ?_
              exact ⟨hHT1, hFT1, _, rfl, ⟨by omega, by omega⟩, (by first | assumption | omega)⟩
          · refine l_iload rfl rfl ?_
            refine l_goto rfl rfl ?_
            refine l_laload (n := 50) rfl rfl (by omega) (by omega) (by unfold rg; omega) ?_
            have w41 : -9223372036854775808 ≤ (Xj T1 889 ((v4).toNat)) ∧ (Xj T1 889 ((v4).toNat)) < 9223372036854775808 := Xj_rg
            refine l_lcmpA rfl (fun c42 w42 => ?_)
            refine l_if_eq rfl rfl (by unfold rg; omega) (fun w43 => ?_) (fun w44 => ?_)
            · refine l_iinc rfl rfl rfl rfl ?_
              refine l_goto rfl rfl ?_
              exact Rl_weak (ih74 _ (by omega) T1 hHT1 hFT1 (v2) (v3) ((v4 + 1)) (by omega) (by omega) (by omega) (by omega) (by omega) (by omega) rfl) (And.intro rfl (And.intro rfl (And.intro rfl (And.intro rfl (And.intro rfl (True.intro))))))
            · refine l_iconst rfl ?_
              refine l_ireturn rfl rfl ?_
              exact ⟨hHT1, hFT1, _, rfl, ⟨by omega, by omega⟩, (by first | assumption | omega)⟩
  refine l_aload_n rfl rfl ?_
  refine l_gfi rfl rfl rfl rfl rfl ?_
  have w47 : 0 ≤ (Xi S 882 12) ∧ (Xi S 882 12) ≤ 50 := hH.c _ _
  refine l_aload_n rfl rfl ?_
  refine l_gfr rfl rfl rfl rfl rfl (hH.r 882 5 884 rfl) ?_
  refine l_iload_n rfl rfl ?_
  refine l_iaload (n := 20) rfl rfl (by omega) (by omega) (by unfold rg; omega) ?_
  have w48 : 0 ≤ (Xi S 884 ((i).toNat)) ∧ (Xi S 884 ((i).toNat)) ≤ 8 := hH.c _ _
  refine l_isub rfl ?_
  refine l_istore_n rfl rfl rfl ?_
  refine l_aload_n rfl rfl ?_
  refine l_gfr rfl rfl rfl rfl rfl (hH.r 882 6 885 rfl) ?_
  refine l_iload_n rfl rfl ?_
  refine l_iaload (n := 20) rfl rfl (by omega) (by omega) (by unfold rg; omega) ?_
  have w49 : -1 ≤ (Xi S 885 ((i).toNat)) ∧ (Xi S 885 ((i).toNat)) ≤ 7 := hH.c _ _
  refine l_iconst rfl ?_
  refine l_icmp_ne rfl rfl (by unfold rg; omega) (by unfold rg; omega) (fun w50 => ?_) (fun w51 => ?_)
  · refine l_aload_n rfl rfl ?_
    refine l_gfr rfl rfl rfl rfl rfl (hH.r 882 6 885 rfl) ?_
    refine l_iload_n rfl rfl ?_
    refine l_iaload (n := 20) rfl rfl (by omega) (by omega) (by unfold rg; omega) ?_
    refine l_istore_n rfl rfl rfl ?_
    refine l_aload_n rfl rfl ?_
    refine l_iconst rfl ?_
    refine l_pfi rfl rfl rfl rfl ?_
    obtain ⟨U3, eU3⟩ : ∃ T : sS, T = uI S 882 13 (Int32.ofInt (-1)) := ⟨_, rfl⟩
    rw [← eU3]
    have hHU3 : HI U3 := by rw [eU3]; exact HI_w hH (show -1 ≤ (-1) by omega) (show (-1) ≤ 255 by omega)
    have hFU3 : FR md_co_fits S U3 := by rw [eU3]; exact FR.wI hF (mdf_i (r := (882, 883, 13, 14)) (List.mem_of_getElem? (i := 0) rfl) (inR_i (by omega) (by omega) (by omega) (by omega)))
    have w52 : Xi U3 882 13 = (-1) := by rw [eU3]; exact Xi_same (by unfold rg; omega)
    have hg5 : Xi U3 885 i.toNat = Xi S 885 i.toNat := (hFU3.cx 885 rfl _).1
    have hg4 : Xi U3 884 i.toNat = Xi S 884 i.toNat := (hFU3.cx 884 rfl _).1
    have hg6 : Xi U3 886 i.toNat = Xi S 886 i.toNat := (hFU3.cx 886 rfl _).1
    refine l_aload_n rfl rfl ?_
    refine l_gfr rfl rfl rfl rfl rfl (hHU3.r 882 6 885 rfl) ?_
    refine l_iload_n rfl rfl ?_
    refine l_iaload (n := 20) rfl rfl (by omega) (by omega) (by unfold rg; omega) ?_
    have w53 : (Xi U3 885 ((i).toNat)) = (Xi S 885 ((i).toNat)) := (show Xi U3 885 ((i).toNat) = Xi S 885 ((i).toNat) from by rw [eU3]; exact Xi_ne (by omega))
    rw [w53]
    refine l_iconst rfl ?_
    refine l_icmp_ne rfl rfl (by unfold rg; omega) (by unfold rg; omega) (fun w54 => ?_) (fun w55 => ?_)
    · refine l_iload_n rfl rfl ?_
      refine l_if_lt rfl rfl (by unfold rg; omega) (fun w56 => ?_) (fun w57 => ?_)
      · refine l_iconst rfl ?_
        refine l_ireturn rfl rfl ?_
        have w58 : -1 ≤ Xi U3 882 13 ∧ Xi U3 882 13 ≤ 255 := hHU3.c _ _
        exact ⟨hHU3, hFU3, _, rfl, ⟨by omega, by omega⟩, (by first | assumption | omega)⟩
      · refine l_iload_n rfl rfl ?_
        refine l_iconst rfl ?_
        refine l_icmp_lt rfl rfl (by unfold rg; omega) (by unfold rg; omega) (fun w59 => ?_) (fun w60 => ?_)
        · refine l_iconst rfl ?_
          refine l_istore rfl rfl rfl ?_
          have w61 : -1 ≤ Xi U3 882 13 ∧ Xi U3 882 13 ≤ 255 := hHU3.c _ _
          exact Rl_weak (C74 _ U3 hHU3 hFU3 (((Xi S 882 12) - (Xi S 884 ((i).toNat)))) ((Xi S 885 ((i).toNat))) (0) (by omega) (by omega) (by omega) (by omega) (by omega) (by omega) rfl) (And.intro rfl (And.intro rfl (And.intro rfl (And.intro rfl (And.intro rfl (True.intro))))))
        · refine l_iconst rfl ?_
          refine l_ireturn rfl rfl ?_
          have w62 : -1 ≤ Xi U3 882 13 ∧ Xi U3 882 13 ≤ 255 := hHU3.c _ _
          exact ⟨hHU3, hFU3, _, rfl, ⟨by omega, by omega⟩, (by first | assumption | omega)⟩
    · refine l_iload_n rfl rfl ?_
      refine l_if_eq rfl rfl (by unfold rg; omega) (fun w63 => ?_) (fun w64 => ?_)
      · refine l_iconst rfl ?_
        refine l_istore rfl rfl rfl ?_
        have w65 : -1 ≤ Xi U3 882 13 ∧ Xi U3 882 13 ≤ 255 := hHU3.c _ _
        exact Rl_weak (C74 _ U3 hHU3 hFU3 (((Xi S 882 12) - (Xi S 884 ((i).toNat)))) ((Xi S 885 ((i).toNat))) (0) (by omega) (by omega) (by omega) (by omega) (by omega) (by omega) rfl) (And.intro rfl (And.intro rfl (And.intro rfl (And.intro rfl (And.intro rfl (True.intro))))))
      · refine l_goto rfl rfl ?_
        refine l_iconst rfl ?_
        refine l_ireturn rfl rfl ?_
        have w66 : -1 ≤ Xi U3 882 13 ∧ Xi U3 882 13 ≤ 255 := hHU3.c _ _
        exact ⟨hHU3, hFU3, _, rfl, ⟨by omega, by omega⟩, (by first | assumption | omega)⟩
  · refine l_aload_n rfl rfl ?_
    refine l_gfr rfl rfl rfl rfl rfl (hH.r 882 5 884 rfl) ?_
    refine l_iload_n rfl rfl ?_
    refine l_iaload (n := 20) rfl rfl (by omega) (by omega) (by unfold rg; omega) ?_
    refine l_goto rfl rfl ?_
    refine l_istore_n rfl rfl rfl ?_
    refine l_aload_n rfl rfl ?_
    refine l_iconst rfl ?_
    refine l_pfi rfl rfl rfl rfl ?_
    obtain ⟨U4, eU4⟩ : ∃ T : sS, T = uI S 882 13 (Int32.ofInt (-1)) := ⟨_, rfl⟩
    rw [← eU4]
    have hHU4 : HI U4 := by rw [eU4]; exact HI_w hH (show -1 ≤ (-1) by omega) (show (-1) ≤ 255 by omega)
    have hFU4 : FR md_co_fits S U4 := by rw [eU4]; exact FR.wI hF (mdf_i (r := (882, 883, 13, 14)) (List.mem_of_getElem? (i := 0) rfl) (inR_i (by omega) (by omega) (by omega) (by omega)))
    have w67 : Xi U4 882 13 = (-1) := by rw [eU4]; exact Xi_same (by unfold rg; omega)
    have hg5 : Xi U4 885 i.toNat = Xi S 885 i.toNat := (hFU4.cx 885 rfl _).1
    have hg4 : Xi U4 884 i.toNat = Xi S 884 i.toNat := (hFU4.cx 884 rfl _).1
    have hg6 : Xi U4 886 i.toNat = Xi S 886 i.toNat := (hFU4.cx 886 rfl _).1
    refine l_aload_n rfl rfl ?_
    refine l_gfr rfl rfl rfl rfl rfl (hHU4.r 882 6 885 rfl) ?_
    refine l_iload_n rfl rfl ?_
    refine l_iaload (n := 20) rfl rfl (by omega) (by omega) (by unfold rg; omega) ?_
    have w68 : (Xi U4 885 ((i).toNat)) = (Xi S 885 ((i).toNat)) := (show Xi U4 885 ((i).toNat) = Xi S 885 ((i).toNat) from by rw [eU4]; exact Xi_ne (by omega))
    rw [w68]
    refine l_iconst rfl ?_
    refine l_icmp_ne rfl rfl (by unfold rg; omega) (by unfold rg; omega) (fun w69 => ?_) (fun w70 => ?_)
    · refine l_iload_n rfl rfl ?_
      refine l_if_lt rfl rfl (by unfold rg; omega) (fun w71 => ?_) (fun w72 => ?_)
      · refine l_iconst rfl ?_
        refine l_ireturn rfl rfl ?_
        have w73 : -1 ≤ Xi U4 882 13 ∧ Xi U4 882 13 ≤ 255 := hHU4.c _ _
        exact ⟨hHU4, hFU4, _, rfl, ⟨by omega, by omega⟩, (by first | assumption | omega)⟩
      · refine l_iload_n rfl rfl ?_
        refine l_iconst rfl ?_
        refine l_icmp_lt rfl rfl (by unfold rg; omega) (by unfold rg; omega) (fun w74 => ?_) (fun w75 => ?_)
        · refine l_iconst rfl ?_
          refine l_istore rfl rfl rfl ?_
          have w76 : -1 ≤ Xi U4 882 13 ∧ Xi U4 882 13 ≤ 255 := hHU4.c _ _
          exact Rl_weak (C74 _ U4 hHU4 hFU4 (((Xi S 882 12) - (Xi S 884 ((i).toNat)))) ((Xi S 884 ((i).toNat))) (0) (by omega) (by omega) (by omega) (by omega) (by omega) (by omega) rfl) (And.intro rfl (And.intro rfl (And.intro rfl (And.intro rfl (And.intro rfl (True.intro))))))
        · refine l_iconst rfl ?_
          refine l_ireturn rfl rfl ?_
          have w77 : -1 ≤ Xi U4 882 13 ∧ Xi U4 882 13 ≤ 255 := hHU4.c _ _
          exact ⟨hHU4, hFU4, _, rfl, ⟨by omega, by omega⟩, (by first | assumption | omega)⟩
    · refine l_iload_n rfl rfl ?_
      refine l_if_eq rfl rfl (by unfold rg; omega) (fun w78 => ?_) (fun w79 => ?_)
      · refine l_iconst rfl ?_
        refine l_istore rfl rfl rfl ?_
        have w80 : -1 ≤ Xi U4 882 13 ∧ Xi U4 882 13 ≤ 255 := hHU4.c _ _
        exact Rl_weak (C74 _ U4 hHU4 hFU4 (((Xi S 882 12) - (Xi S 884 ((i).toNat)))) ((Xi S 884 ((i).toNat))) (0) (by omega) (by omega) (by omega) (by omega) (by omega) (by omega) rfl) (And.intro rfl (And.intro rfl (And.intro rfl (And.intro rfl (And.intro rfl (True.intro))))))
      · refine l_goto rfl rfl ?_
        refine l_iconst rfl ?_
        refine l_ireturn rfl rfl ?_
        have w81 : -1 ≤ Xi U4 882 13 ∧ Xi U4 882 13 ≤ 255 := hHU4.c _ _
        exact ⟨hHU4, hFU4, _, rfl, ⟨by omega, by omega⟩, (by first | assumption | omega)⟩
def md_rs_act : List rec := [(22, 23, 0, 100000), (23, 24, 0, 100000), (25, 65, 0, 100000), (66, 106, 0, 100000), (107, 147, 0, 100000), (148, 188, 0, 100000), (189, 195, 0, 100000), (900, 901, 4, 5), (900, 901, 5, 6), (900, 901, 6, 7), (901, 902, 0, 100000), (997, 1005, 0, 100000), (1006, 1014, 0, 100000)]
abbrev Q_rs_act (S : sS) (action : Int) (noun : Int) : pst := fun r S1 => HI S1 ∧ FR md_rs_act S S1 ∧ (∃ z : Int, r = some (iv z) ∧ (-1 ≤ z ∧ z ≤ 5) ∧ (TX S1))
