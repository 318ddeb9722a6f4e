/-! SAFETY of methods: printed by wip/safe (vc.py, decl.py) -/
def md_re_tellKinds : List rec := [(1, 2, 3, 4), (2, 3, 0, 100000), (3, 4, 0, 100000), (4, 5, 0, 100000), (5, 6, 0, 100000), (6, 7, 0, 100000), (7, 8, 0, 100000), (876, 877, 8, 9), (876, 877, 9, 10), (891, 892, 9, 10), (892, 893, 0, 100000), (893, 894, 0, 100000), (894, 895, 0, 100000)]
abbrev Q_re_tellKinds (S : sS) : pst := fun r S1 => HI S1 ∧ FR md_re_tellKinds S S1 ∧ (∃ z : Int, r = some (iv z) ∧ (0 ≤ z ∧ z ≤ 1) ∧ (z = 1 → WI S1) ∧ (z = 0 → Xi S1 876 8 ≠ 0))
set_option maxRecDepth 100000 in
theorem t_re_tellKinds {S : sS} (hH : HI S) (hW : WI S) (hn0 : Xi S 891 9 = 0) (d : Nat) : Mt lay0 (d + 4) m_re_tellKinds [.ref 891] S (Q_re_tellKinds S) := by
  refine Mt_R rfl rfl ?_
  have hF : FR md_re_tellKinds S S := FR.rf
  have w1 : -1 ≤ Xi S 890 3 ∧ Xi S 890 3 ≤ 5124 := hH.c _ _
  have w2 : 0 ≤ Xi S 891 9 ∧ Xi S 891 9 ≤ 24 := hH.c _ _
  have hL := hW.1
  have hX := hW.2.1
  have h890 : -1 ≤ Xi S 890 3 ∧ Xi S 890 3 ≤ 5124 := hH.c _ _
  have hk0 : Xi S 5 (0 : Int).toNat ≤ 16 := (hH.c 5 0).2
  have hk1 : Xi S 5 (1 : Int).toNat ≤ 8 := (hH.c 5 1).2
  have C68 : ∀ (n68 : Nat) (T1 : sS) (_ : HI T1) (_ : FR md_re_tellKinds S T1) (v1 : Int) (v2 : Int) (v3 : Int) (v4 : Int) (v5 : Int), (-1 ≤ v1 ∧ v1 ≤ 5124) → (0 ≤ v2 ∧ v2 ≤ 1) → (0 ≤ v3 ∧ v3 ≤ 1) → (0 ≤ v4 ∧ v4 ≤ 1) → (0 ≤ v5 ∧ v5 ≤ 5124) → (WI T1) → (NW T1) → (v1 = Xi S 890 3) → (v4 = v3) → (Xi S 5 v4.toNat + Xi T1 891 9 ≤ 16 - 8 * v3) → (Xi T1 5 v4.toNat = Xi S 5 v4.toNat) → n68 = (5125 - v5).toNat → Rl lay0 (d + 3) m_re_tellKinds 68 [(0, .ref 891), (1, iv v1), (2, iv v2), (3, iv v3), (4, iv v4), (5, iv v5)] [] T1 (Q_re_tellKinds S) := by
    intro n68
    induction n68 using Nat.strongRecOn with
    | ind n68 ih68 =>
      intro T1 hHT1 hFT1 v1 v2 v3 v4 v5 w3 w4 w5 w6 w7 hW68 hN68 w8 w9 w10 h5_68 hm68
      have w11 : Xi T1 876 7 = Xi S 876 7 := hFT1.x _ _ rfl
      have w12 : Xi T1 890 3 = Xi S 890 3 := hFT1.x _ _ rfl
      have w13 : 0 ≤ Xi T1 891 9 ∧ Xi T1 891 9 ≤ 24 := hHT1.c _ _
      have C190 : ∀  (T2 : sS) (_ : HI T2) (_ : FR md_re_tellKinds S T2) (v3 : Int) (v4 : Int) (v5 : Int), (0 ≤ v3 ∧ v3 ≤ 1) → (0 ≤ v4 ∧ v4 ≤ 1) → (0 ≤ v5 ∧ v5 ≤ 15) → (WI T2) → (NW T2) → (v4 = v3) → (Xi S 5 v4.toNat + Xi T2 891 9 ≤ 16 - 8 * v3) → (Xi T2 5 v4.toNat = Xi S 5 v4.toNat) → Rl lay0 (d + 3) m_re_tellKinds 190 [(0, .ref 891), (3, iv v3), (4, iv v4), (5, iv v5)] [] T2 (Q_re_tellKinds S) := by
        intro T2 hHT2 hFT2 v3 v4 v5 w14 w15 w16 hW190 hN190 w17 w18 h5_190
        have w19 : Xi T2 876 7 = Xi S 876 7 := hFT2.x _ _ rfl
        have w20 : Xi T2 890 3 = Xi S 890 3 := hFT2.x _ _ rfl
        have w21 : 0 ≤ Xi T2 891 9 ∧ Xi T2 891 9 ≤ 24 := hHT2.c _ _
        have C204 : ∀ (n204 : Nat) (T3 : sS) (_ : HI T3) (_ : FR md_re_tellKinds S T3) (v3 : Int) (v4 : Int) (v5 : Int) (v6 : Int) (v7 : Int), (0 ≤ v3 ∧ v3 ≤ 1) → (0 ≤ v4 ∧ v4 ≤ 1) → (0 ≤ v5 ∧ v5 ≤ 15) → (0 ≤ v6 ∧ v6 ≤ 16) → (0 ≤ v7 ∧ v7 ≤ 24) → (WI T3) → (NW T3) → (v4 = v3) → (Xi S 5 v4.toNat + Xi T3 891 9 ≤ 16 - 8 * v3) → (v6 = Xi S 5 v4.toNat) → (Xi T3 5 v4.toNat = v6 + v7) → (v7 ≤ Xi T3 891 9) → n204 = (25 - v7).toNat → Rl lay0 (d + 3) m_re_tellKinds 204 [(0, .ref 891), (3, iv v3), (4, iv v4), (5, iv v5), (6, iv v6), (7, iv v7)] [] T3 (Q_re_tellKinds S) := by
          intro n204
          induction n204 using Nat.strongRecOn with
          | ind n204 ih204 =>
            intro T3 hHT3 hFT3 v3 v4 v5 v6 v7 w22 w23 w24 w25 w26 hW204 hN204 w27 w28 w29 h5_204 w30 hm204
            have w31 : Xi T3 876 7 = Xi S 876 7 := hFT3.x _ _ rfl
            have w32 : Xi T3 890 3 = Xi S 890 3 := hFT3.x _ _ rfl
            have w33 : 0 ≤ Xi T3 891 9 ∧ Xi T3 891 9 ≤ 24 := hHT3.c _ _
            have C281 : ∀ (n281 : Nat) (T4 : sS) (_ : HI T4) (_ : FR md_re_tellKinds S T4) (v3 : Int) (v6 : Int) (v7 : Int), (0 ≤ v3 ∧ v3 ≤ 1) → (0 ≤ v6 ∧ v6 ≤ 16) → (0 ≤ v7 ∧ v7 ≤ 24) → (WI T4) → (NW T4) → (v4 = v3) → (Xi S 5 v4.toNat + Xi T4 891 9 ≤ 16 - 8 * v3) → (v6 = Xi S 5 v4.toNat) → (Xi T4 5 v4.toNat = v6 + Xi T4 891 9) → n281 = (25 - v7).toNat → Rl lay0 (d + 3) m_re_tellKinds 281 [(0, .ref 891), (3, iv v3), (6, iv v6), (7, iv v7)] [] T4 (Q_re_tellKinds S) := by
              intro n281
              induction n281 using Nat.strongRecOn with
              | ind n281 ih281 =>
                intro T4 hHT4 hFT4 v3 v6 v7 w34 w35 w36 hW281 hN281 w37 w38 w39 h5_281 hm281
                have w40 : Xi T4 876 7 = Xi S 876 7 := hFT4.x _ _ rfl
                have w41 : Xi T4 890 3 = Xi S 890 3 := hFT4.x _ _ rfl
                have w42 : 0 ≤ Xi T4 891 9 ∧ Xi T4 891 9 ≤ 24 := hHT4.c _ _
                refine l_iload rfl rfl ?_
                refine l_aload_n rfl rfl ?_
                refine l_gfi rfl rfl rfl rfl rfl ?_
                refine l_icmp_ge rfl rfl (by unfold rg; omega) (by unfold rg; omega) (fun w43 => ?_) (fun w44 => ?_)
                · refine l_iconst rfl ?_
                  refine l_ireturn rfl rfl ?_
                  have w45 : 0 ≤ Xi T4 876 8 ∧ Xi T4 876 8 ≤ 9 := hHT4.c _ _
                  have w46 : 0 ≤ Xi T4 891 9 ∧ Xi T4 891 9 ≤ 24 := hHT4.c _ _
                  exact ⟨hHT4, hFT4, _, rfl, ⟨by omega, by omega⟩, (by first | (intro hz; omega) | (intro _; assumption) | (intro hz; apply_assumption; omega) | (intro _; exact (by assumption : WI T4))), (by omega)⟩
                · refine l_aload_n rfl rfl ?_
                  refine l_iload_n rfl rfl ?_
                  refine l_if_eq rfl rfl (by unfold rg; omega) (fun w47 => ?_) (fun w48 => ?_)
                  · refine l_bipush rfl rfl ?_
                    refine l_iload rfl rfl ?_
                    refine l_iload rfl rfl ?_
                    refine l_iadd rfl ?_
                    have hc01 := c01 (S := T4) (v := v4)
                    have hWr : WI T4 := (by assumption : WI T4)
                    have hHq := hHT4
                    have hnw := hN281 v7.toNat (by omega)
                    refine l_aload_n rfl rfl ?_
                    refine l_gfr rfl rfl rfl rfl rfl (hHT4.r 891 7 892 rfl) ?_
                    refine l_iload rfl rfl ?_
                    refine l_iaload (n := 24) rfl rfl (by omega) (by omega) (by unfold rg; omega) ?_
                    have w49 : 0 ≤ (Xi T4 892 ((v7).toNat)) ∧ (Xi T4 892 ((v7).toNat)) ≤ 5130 := hHT4.c _ _
                    refine l_aload_n rfl rfl ?_
                    refine l_gfr rfl rfl rfl rfl rfl (hHT4.r 891 8 893 rfl) ?_
                    refine l_iload rfl rfl ?_
                    refine l_iaload (n := 24) rfl rfl (by omega) (by omega) (by unfold rg; omega) ?_
                    have w50 : 0 ≤ (Xi T4 893 ((v7).toNat)) ∧ (Xi T4 893 ((v7).toNat)) ≤ 5130 := hHT4.c _ _
                    have w51 : 0 ≤ Xi T4 891 9 ∧ Xi T4 891 9 ≤ 24 := hHT4.c _ _
                    refine l_callV rfl rfl rfl (t_re_nameWithS hHT4 11 (v6 + v7) (Xi T4 892 ((v7).toNat)) (Xi T4 893 ((v7).toNat)) ⟨by omega, by omega⟩ ⟨by omega, by omega⟩ ⟨by omega, by omega⟩ ⟨by omega, by omega⟩ (by first | assumption | exact (by first | assumption | exact (by assumption : WI T4).1 : LEX T4)) (by unfold lexB; omega) (by first | assumption | omega) _) ?_
                    rintro _ T5 ⟨hHT5, w55, rfl, w52, w53⟩
                    have hFT5 : FR md_re_tellKinds S T5 := FR.tr hFT4 w55 rfl
                    show Rl _ _ _ _ _ [] _ _
                    have hWs : WI T5 := WI_ns hHq (by assumption : FR md_re_nameWithS T4 T5) (by assumption) (by assumption) hWr
                    have h5s := (by assumption : ∀ j, Xi T5 5 j = Xi T4 5 j) v4.toNat
                    refine l_iinc rfl rfl rfl rfl ?_
                    refine l_goto rfl rfl ?_
                    have w56 : Xi T5 891 9 = Xi T4 891 9 := (show Xi T5 891 9 = Xi T4 891 9 from w55.x _ _ rfl)
                    have w57 : 0 ≤ Xi T4 891 9 ∧ Xi T4 891 9 ≤ 24 := hHT4.c _ _
                    exact Rl_weak (ih281 _ (by omega) T5 hHT5 hFT5 (v3) (v6) ((v7 + 1)) (by omega) (by omega) (by omega) (by first | assumption | exact (by assumption : WI T5)) (by first | assumption | exact (NW_FR w55 rfl (by assumption : NW T4))) (by omega) (by omega) (by omega) (by omega) rfl) (And.intro rfl (And.intro rfl (And.intro rfl (And.intro rfl (True.intro)))))
                  · refine l_bipush rfl rfl ?_
                    refine l_goto rfl rfl ?_
                    refine l_iload rfl rfl ?_
                    refine l_iload rfl rfl ?_
                    refine l_iadd rfl ?_
                    have hc01 := c01 (S := T4) (v := v4)
                    have hWr : WI T4 := (by assumption : WI T4)
                    have hHq := hHT4
                    have hnw := hN281 v7.toNat (by omega)
                    refine l_aload_n rfl rfl ?_
                    refine l_gfr rfl rfl rfl rfl rfl (hHT4.r 891 7 892 rfl) ?_
                    refine l_iload rfl rfl ?_
                    refine l_iaload (n := 24) rfl rfl (by omega) (by omega) (by unfold rg; omega) ?_
                    have w58 : 0 ≤ (Xi T4 892 ((v7).toNat)) ∧ (Xi T4 892 ((v7).toNat)) ≤ 5130 := hHT4.c _ _
                    refine l_aload_n rfl rfl ?_
                    refine l_gfr rfl rfl rfl rfl rfl (hHT4.r 891 8 893 rfl) ?_
                    refine l_iload rfl rfl ?_
                    refine l_iaload (n := 24) rfl rfl (by omega) (by omega) (by unfold rg; omega) ?_
                    have w59 : 0 ≤ (Xi T4 893 ((v7).toNat)) ∧ (Xi T4 893 ((v7).toNat)) ≤ 5130 := hHT4.c _ _
                    have w60 : 0 ≤ Xi T4 891 9 ∧ Xi T4 891 9 ≤ 24 := hHT4.c _ _
                    refine l_callV rfl rfl rfl (t_re_nameWithS hHT4 12 (v6 + v7) (Xi T4 892 ((v7).toNat)) (Xi T4 893 ((v7).toNat)) ⟨by omega, by omega⟩ ⟨by omega, by omega⟩ ⟨by omega, by omega⟩ ⟨by omega, by omega⟩ (by first | assumption | exact (by first | assumption | exact (by assumption : WI T4).1 : LEX T4)) (by unfold lexB; omega) (by first | assumption | omega) _) ?_
                    rintro _ T6 ⟨hHT6, w64, rfl, w61, w62⟩
                    have hFT6 : FR md_re_tellKinds S T6 := FR.tr hFT4 w64 rfl
                    show Rl _ _ _ _ _ [] _ _
                    have hWs : WI T6 := WI_ns hHq (by assumption : FR md_re_nameWithS T4 T6) (by assumption) (by assumption) hWr
                    have h5s := (by assumption : ∀ j, Xi T6 5 j = Xi T4 5 j) v4.toNat
                    refine l_iinc rfl rfl rfl rfl ?_
                    refine l_goto rfl rfl ?_
                    have w65 : Xi T6 891 9 = Xi T4 891 9 := (show Xi T6 891 9 = Xi T4 891 9 from w64.x _ _ rfl)
                    have w66 : 0 ≤ Xi T4 891 9 ∧ Xi T4 891 9 ≤ 24 := hHT4.c _ _
                    exact Rl_weak (ih281 _ (by omega) T6 hHT6 hFT6 (v3) (v6) ((v7 + 1)) (by omega) (by omega) (by omega) (by first | assumption | exact (by assumption : WI T6)) (by first | assumption | exact (NW_FR w64 rfl (by assumption : NW T4))) (by omega) (by omega) (by omega) (by omega) rfl) (And.intro rfl (And.intro rfl (And.intro rfl (And.intro rfl (True.intro)))))
            refine l_iload rfl rfl ?_
            refine l_aload_n rfl rfl ?_
            refine l_gfi rfl rfl rfl rfl rfl ?_
            refine l_icmp_ge rfl rfl (by unfold rg; omega) (by unfold rg; omega) (fun w67 => ?_) (fun w68 => ?_)
            · refine l_iconst rfl ?_
              refine l_istore rfl rfl rfl ?_
              have w69 : 0 ≤ Xi T3 891 9 ∧ Xi T3 891 9 ≤ 24 := hHT3.c _ _
              exact Rl_weak (C281 _ T3 hHT3 hFT3 (v3) (v6) (0) (by omega) (by omega) (by omega) (by first | assumption | exact (by assumption : WI T3)) (by first | assumption | exact (by assumption : NW T3)) (by omega) (by omega) (by omega) (by omega) rfl) (And.intro rfl (And.intro rfl (And.intro rfl (And.intro rfl (True.intro)))))
            · refine l_aload_n rfl rfl ?_
              refine l_gfr rfl rfl rfl rfl rfl (hHT3.r 891 2 1 rfl) ?_
              refine l_iload rfl rfl ?_
              refine l_aload_n rfl rfl ?_
              refine l_gfr rfl rfl rfl rfl rfl (hHT3.r 891 0 876 rfl) ?_
              refine l_gfr rfl rfl rfl rfl rfl (hHT3.r 876 2 879 rfl) ?_
              refine l_aload_n rfl rfl ?_
              refine l_gfr rfl rfl rfl rfl rfl (hHT3.r 891 7 892 rfl) ?_
              refine l_iload rfl rfl ?_
              refine l_iaload (n := 24) rfl rfl (by omega) (by omega) (by unfold rg; omega) ?_
              have w70 : 0 ≤ (Xi T3 892 ((v7).toNat)) ∧ (Xi T3 892 ((v7).toNat)) ≤ 5130 := hHT3.c _ _
              refine l_aload_n rfl rfl ?_
              refine l_gfr rfl rfl rfl rfl rfl (hHT3.r 891 8 893 rfl) ?_
              refine l_iload rfl rfl ?_
              refine l_iaload (n := 24) rfl rfl (by omega) (by omega) (by unfold rg; omega) ?_
              have w71 : 0 ≤ (Xi T3 893 ((v7).toNat)) ∧ (Xi T3 893 ((v7).toNat)) ≤ 5130 := hHT3.c _ _
              have hWp : WI T3 := (by assumption : WI T3)
              have hHp := hHT3
              have w72 : 0 ≤ Xi T3 891 9 ∧ Xi T3 891 9 ≤ 24 := hHT3.c _ _
              refine l_callV rfl rfl rfl (t_vo_tellNew hHT3 v4 879 5130 (Xi T3 892 ((v7).toNat)) (Xi T3 893 ((v7).toNat)) ⟨by omega, by omega⟩ rfl ⟨by omega, by omega⟩ ⟨by omega, by omega⟩ ⟨by omega, by omega⟩ (by first | assumption | exact (by first | assumption | exact (by assumption : WI T3).1 : LEX T3)) (cap01 (by omega) (by omega)) (by first | assumption | omega) _) ?_
              rintro _ T7 ⟨hHT7, w79, z78, rfl, w78, w73, w74, w75, w76, w77⟩
              have hFT7 : FR md_re_tellKinds S T7 := FR.tr hFT3 w79 rfl
              show Rl _ _ _ _ _ [iv z78] _ _
              have hWt : WI T7 := WI_tn (s := v4) hHp (by assumption : FR md_vo_tellNew T3 T7) (by assumption) (by assumption) (by assumption) (by omega) (by omega) hWp
              have hNt : NW T7 := NW_FR (by assumption : FR md_vo_tellNew T3 T7) rfl hN204
              refine l_istore rfl rfl rfl ?_
              refine l_iload_n rfl rfl ?_
              refine l_if_ne rfl rfl (by unfold rg; omega) (fun w80 => ?_) (fun w81 => ?_)
              · refine l_iinc rfl rfl rfl rfl ?_
                refine l_goto rfl rfl ?_
                have w82 : Xi T7 891 9 = Xi T3 891 9 := (show Xi T7 891 9 = Xi T3 891 9 from w79.x _ _ rfl)
                have w83 : 0 ≤ Xi T3 891 9 ∧ Xi T3 891 9 ≤ 24 := hHT3.c _ _
                exact Rl_weak (ih204 _ (by omega) T7 hHT7 hFT7 (v3) (v4) (v5) (v6) ((v7 + 1)) (by omega) (by omega) (by omega) (by omega) (by omega) (by first | assumption | exact (by assumption : WI T7)) (by first | assumption | exact (NW_FR w79 rfl (by assumption : NW T3))) (by omega) (by omega) (by omega) (by first | omega | (rw [((FR_e rfl).cx 5 rfl _).1, ((FR_e ).cx 5 rfl _).1]; omega)) (by omega) rfl) (And.intro rfl (And.intro rfl (And.intro rfl (And.intro rfl (And.intro rfl (And.intro rfl (True.intro)))))))
              · refine l_aload_n rfl rfl ?_
                refine l_gfr rfl rfl rfl rfl rfl (hHT7.r 891 2 1 rfl) ?_
                refine l_gfr rfl rfl rfl rfl rfl (hHT7.r 1 5 6 rfl) ?_
                refine l_iload rfl rfl ?_
                refine l_iload rfl rfl ?_
                refine l_iastore (n := 16) rfl rfl (by omega) (by omega) (by unfold rg; omega) ?_
                obtain ⟨U8, eU8⟩ : ∃ T : sS, T = uI T7 6 ((z78).toNat) (Int32.ofInt v5) := ⟨_, rfl⟩
                rw [← eU8]
                have hHU8 : HI U8 := by rw [eU8]; exact HI_w hHT7 (show -1 ≤ v5 by omega) (show v5 ≤ 15 by omega)
                have hFU8 : FR md_re_tellKinds S U8 := by rw [eU8]; exact FR.wI hFT7 (mdf_i (r := (6, 7, 0, 100000)) (List.mem_of_getElem? (i := 5) rfl) (inR_i (by omega) (by omega) (by omega) (by omega)))
                have w84 : Xi U8 6 ((z78).toNat) = v5 := by rw [eU8]; exact Xi_same (by unfold rg; omega)
                refine l_aload_n rfl rfl ?_
                refine l_gfr rfl rfl rfl rfl rfl (hHU8.r 891 2 1 rfl) ?_
                refine l_gfr rfl rfl rfl rfl rfl (hHU8.r 1 6 7 rfl) ?_
                refine l_iload rfl rfl ?_
                refine l_iconst rfl ?_
                refine l_iastore (n := 16) rfl rfl (by omega) (by omega) (by unfold rg; omega) ?_
                obtain ⟨U9, eU9⟩ : ∃ T : sS, T = uI U8 7 ((z78).toNat) (Int32.ofInt 0) := ⟨_, rfl⟩
                rw [← eU9]
                have hHU9 : HI U9 := by rw [eU9]; exact HI_any hHU8 (rfl)
                have hFU9 : FR md_re_tellKinds S U9 := by rw [eU9]; exact FR.wI hFU8 (mdf_i (r := (7, 8, 0, 100000)) (List.mem_of_getElem? (i := 6) rfl) (inR_i (by omega) (by omega) (by omega) (by omega)))
                have w85 : Xi U9 7 ((z78).toNat) = 0 := by rw [eU9]; exact Xi_same (by unfold rg; omega)
                refine l_iinc rfl rfl rfl rfl ?_
                refine l_goto rfl rfl ?_
                have w86 : Xi U9 891 9 = Xi T3 891 9 := (show Xi U9 891 9 = Xi U8 891 9 from by rw [eU9]; exact Xi_ne (by omega)).trans ( (show Xi U8 891 9 = Xi T7 891 9 from by rw [eU8]; exact Xi_ne (by omega)).trans ((show Xi T7 891 9 = Xi T3 891 9 from w79.x _ _ rfl)))
                have w87 : 0 ≤ Xi T3 891 9 ∧ Xi T3 891 9 ≤ 24 := hHT3.c _ _
                exact Rl_weak (ih204 _ (by omega) U9 hHU9 hFU9 (v3) (v4) (v5) (v6) ((v7 + 1)) (by omega) (by omega) (by omega) (by omega) (by omega) (by first | assumption | exact (WI_FR hHU8 (FR_e eU9) rfl rfl rfl rfl rfl rfl rfl rfl rfl (WI_FR hHT7 (FR_e eU8) rfl rfl rfl rfl rfl rfl rfl rfl rfl (by assumption : WI T7)))) (by first | assumption | exact (NW_FR (FR_e eU9) rfl (NW_FR (FR_e eU8) rfl (NW_FR w79 rfl (by assumption : NW T3))))) (by omega) (by omega) (by omega) (by first | omega | (rw [((FR_e eU9).cx 5 rfl _).1, ((FR_e eU8).cx 5 rfl _).1]; omega)) (by omega) rfl) (And.intro rfl (And.intro rfl (And.intro rfl (And.intro rfl (And.intro rfl (And.intro rfl (True.intro)))))))
        refine l_aload_n rfl rfl ?_
        refine l_gfr rfl rfl rfl rfl rfl (hHT2.r 891 2 1 rfl) ?_
        refine l_iload rfl rfl ?_
        have w88 : 0 ≤ Xi T2 891 9 ∧ Xi T2 891 9 ≤ 24 := hHT2.c _ _
        refine l_callV rfl rfl rfl (t_vo_countOf hHT2 v4 ⟨by omega, by omega⟩ _) ?_
        rintro _ _ ⟨rfl, z92, rfl, w92, w89, w90, w91⟩
        clear w90 w91
        show Rl _ _ _ _ _ [iv z92] _ _
        refine l_istore rfl rfl rfl ?_
        refine l_iconst rfl ?_
        refine l_istore rfl rfl rfl ?_
        have w93 : 0 ≤ Xi T2 891 9 ∧ Xi T2 891 9 ≤ 24 := hHT2.c _ _
        exact Rl_weak (C204 _ T2 hHT2 hFT2 (v3) (v4) (v5) (z92) (0) (by omega) (by omega) (by omega) (by omega) (by omega) (by first | assumption | exact (by assumption : WI T2)) (by first | assumption | exact (by assumption : NW T2)) (by omega) (by omega) (by omega) (by first | omega | (rw [((FR_e rfl).cx 5 rfl _).1, ((FR_e ).cx 5 rfl _).1]; omega)) (by omega) rfl) (And.intro rfl (And.intro rfl (And.intro rfl (And.intro rfl (And.intro rfl (And.intro rfl (True.intro)))))))
      refine l_iload rfl rfl ?_
      refine l_iload_n rfl rfl ?_
      refine l_icmp_ge rfl rfl (by unfold rg; omega) (by unfold rg; omega) (fun w94 => ?_) (fun w95 => ?_)
      · refine l_iconst rfl ?_
        refine l_istore rfl rfl rfl ?_
        refine l_iload_n rfl rfl ?_
        refine l_if_eq rfl rfl (by unfold rg; omega) (fun w96 => ?_) (fun w97 => ?_)
        · have w98 : 0 ≤ Xi T1 891 9 ∧ Xi T1 891 9 ≤ 24 := hHT1.c _ _
          exact Rl_weak (C190 T1 hHT1 hFT1 (v3) (v4) (0) (by omega) (by omega) (by omega) (by first | assumption | exact (by assumption : WI T1)) (by first | assumption | exact (by assumption : NW T1)) (by omega) (by omega) (by exact h5_68)) (And.intro rfl (And.intro rfl (And.intro rfl (And.intro rfl (True.intro)))))
        · refine l_iload_n rfl rfl ?_
          refine l_if_ne rfl rfl (by unfold rg; omega) (fun w99 => ?_) (fun w100 => ?_)
          · have w101 : 0 ≤ Xi T1 891 9 ∧ Xi T1 891 9 ≤ 24 := hHT1.c _ _
            exact Rl_weak (C190 T1 hHT1 hFT1 (v3) (v4) (0) (by omega) (by omega) (by omega) (by first | assumption | exact (by assumption : WI T1)) (by first | assumption | exact (by assumption : NW T1)) (by omega) (by omega) (by exact h5_68)) (And.intro rfl (And.intro rfl (And.intro rfl (And.intro rfl (True.intro)))))
          · refine l_aload_n rfl rfl ?_
            refine l_gfr rfl rfl rfl rfl rfl (hHT1.r 891 0 876 rfl) ?_
            refine l_iload_n rfl rfl ?_
            refine l_iconst rfl ?_
            refine l_iadd rfl ?_
            have w102 : 0 ≤ Xi T1 876 7 ∧ Xi T1 876 7 ≤ 5125 := hHT1.c _ _
            have w103 : 0 ≤ Xi T1 891 9 ∧ Xi T1 891 9 ≤ 24 := hHT1.c _ _
            refine l_callV rfl rfl rfl (t_to_behindArt hHT1 (v1 + 4) ⟨by omega, by omega⟩ _) ?_
            rintro _ _ ⟨rfl, z105, rfl, w105, w104⟩
            show Rl _ _ _ _ _ [iv z105] _ _
            refine l_istore rfl rfl rfl ?_
            refine l_aload_n rfl rfl ?_
            refine l_gfr rfl rfl rfl rfl rfl (hHT1.r 891 4 895 rfl) ?_
            refine l_iconst rfl ?_
            refine l_iload rfl rfl ?_
            refine l_aload_n rfl rfl ?_
            refine l_gfr rfl rfl rfl rfl rfl (hHT1.r 891 0 876 rfl) ?_
            refine l_iload rfl rfl ?_
            have w106 : 0 ≤ Xi T1 876 7 ∧ Xi T1 876 7 ≤ 5125 := hHT1.c _ _
            have w107 : 0 ≤ Xi T1 891 9 ∧ Xi T1 891 9 ≤ 24 := hHT1.c _ _
            refine l_callV rfl rfl rfl (t_to_runEnd hHT1 z105 ⟨by omega, by omega⟩ _) ?_
            rintro _ _ ⟨rfl, z115, rfl, w115, w108, w109, w110, w111, w112, w113, w114⟩
            clear w110 w112 w113
            show Rl _ _ _ _ _ [iv z115, iv z105, iv 0, .ref 895] _ _
            have w116 : 0 ≤ Xi T1 891 9 ∧ Xi T1 891 9 ≤ 24 := hHT1.c _ _
            refine l_callV rfl rfl rfl (t_me_find hHT1 0 z105 z115 ⟨by omega, by omega⟩ ⟨by omega, by omega⟩ ⟨by omega, by omega⟩ (by first | assumption | exact (by first | assumption | exact (by assumption : WI T1).1 : LEX T1)) _) ?_
            rintro _ _ ⟨rfl, z120, rfl, w120, w117, w118, w119⟩
            have w121 : z120 ≠ -1 → _ := fun h => fb0 hHT1 (w117 h)
            clear w118
            show Rl _ _ _ _ _ [iv z120] _ _
            refine l_istore rfl rfl rfl ?_
            refine l_iload rfl rfl ?_
            refine l_iconst rfl ?_
            refine l_icmp_ne rfl rfl (by unfold rg; omega) (by unfold rg; omega) (fun w122 => ?_) (fun w123 => ?_)
            · have w124 : 0 ≤ Xi T1 891 9 ∧ Xi T1 891 9 ≤ 24 := hHT1.c _ _
              exact Rl_weak (C190 T1 hHT1 hFT1 (v3) (v4) (z120) (by omega) (by omega) (by omega) (by first | assumption | exact (by assumption : WI T1)) (by first | assumption | exact (by assumption : NW T1)) (by omega) (by omega) (by exact h5_68)) (And.intro rfl (And.intro rfl (And.intro rfl (And.intro rfl (True.intro)))))
            · refine l_aload_n rfl rfl ?_
              refine l_gfr rfl rfl rfl rfl rfl (hHT1.r 891 0 876 rfl) ?_
              refine l_iconst rfl ?_
              refine l_iload rfl rfl ?_
              have w125 : 0 ≤ Xi T1 891 9 ∧ Xi T1 891 9 ≤ 24 := hHT1.c _ _
              refine l_callV rfl rfl rfl (t_to_wrong hHT1 4 z105 ⟨by omega, by omega⟩ ⟨by omega, by omega⟩ _) ?_
              rintro _ T10 ⟨hHT10, w129, z128, rfl, w128, w126, w127⟩
              have hFT10 : FR md_re_tellKinds S T10 := FR.tr hFT1 w129 rfl
              show Rl _ _ _ _ _ [iv z128] _ _
              refine l_ireturn rfl (retI_z (by omega)) ?_
              have w130 : 0 ≤ Xi T10 876 8 ∧ Xi T10 876 8 ≤ 9 := hHT10.c _ _
              have w131 : Xi T10 891 9 = Xi T1 891 9 := (show Xi T10 891 9 = Xi T1 891 9 from w129.x _ _ rfl)
              have w132 : 0 ≤ Xi T1 891 9 ∧ Xi T1 891 9 ≤ 24 := hHT1.c _ _
              exact ⟨hHT10, hFT10, _, rfl, ⟨by omega, by omega⟩, (by first | (intro hz; omega) | (intro _; assumption) | (intro hz; apply_assumption; omega) | (intro _; exact (WI_FR hHT1 w129 rfl rfl rfl rfl rfl rfl rfl rfl rfl (by assumption : WI T1)))), (by omega)⟩
      · refine l_aload_n rfl rfl ?_
        refine l_iload rfl rfl ?_
        have w133 : 0 ≤ Xi T1 876 7 ∧ Xi T1 876 7 ≤ 5125 := hHT1.c _ _
        have w134 : -1 ≤ Xi T1 890 3 ∧ Xi T1 890 3 ≤ 5124 := hHT1.c _ _
        have w135 : 0 ≤ Xi T1 891 9 ∧ Xi T1 891 9 ≤ 24 := hHT1.c _ _
        refine l_callV rfl rfl rfl (t_re_beginsName hHT1 v5 ⟨by omega, by omega⟩ _) ?_
        rintro _ _ ⟨rfl, z138, rfl, w138, w136, w137⟩
        show Rl _ _ _ _ _ [iv z138] _ _
        refine l_if_eq rfl rfl (by unfold rg; omega) (fun w139 => ?_) (fun w140 => ?_)
        · refine l_iinc rfl rfl rfl rfl ?_
          refine l_goto rfl rfl ?_
          have w141 : 0 ≤ Xi T1 891 9 ∧ Xi T1 891 9 ≤ 24 := hHT1.c _ _
          exact Rl_weak (ih68 _ (by omega) T1 hHT1 hFT1 (v1) (v2) (v3) (v4) ((v5 + 1)) (by omega) (by omega) (by omega) (by omega) (by omega) (by first | assumption | exact (by assumption : WI T1)) (by first | exact nw_0 hn0 | exact hNs (by omega) | exact hN68) (by omega) (by omega) (by omega) (by first | exact h5_68 | exact ((by assumption : FR md_re_takeNew T1 T1).cx 5 rfl _).1.trans h5_68 | rfl) rfl) (And.intro rfl (And.intro rfl (And.intro rfl (And.intro rfl (And.intro rfl (And.intro rfl (True.intro)))))))
        · refine l_aload_n rfl rfl ?_
          refine l_iload rfl rfl ?_
          refine l_aload_n rfl rfl ?_
          refine l_gfr rfl rfl rfl rfl rfl (hHT1.r 891 0 876 rfl) ?_
          refine l_iload rfl rfl ?_
          have w142 : 0 ≤ Xi T1 876 7 ∧ Xi T1 876 7 ≤ 5125 := hHT1.c _ _
          have w143 : 0 ≤ Xi T1 891 9 ∧ Xi T1 891 9 ≤ 24 := hHT1.c _ _
          refine l_callV rfl rfl rfl (t_to_runEnd hHT1 v5 ⟨by omega, by omega⟩ _) ?_
          rintro _ _ ⟨rfl, z151, rfl, w151, w144, w145, w146, w147, w148, w149, w150⟩
          clear w146 w148 w149
          show Rl _ _ _ _ _ [iv z151, iv v5, .ref 891] _ _
          refine l_aload_n rfl rfl ?_
          refine l_gfr rfl rfl rfl rfl rfl (hHT1.r 891 2 1 rfl) ?_
          refine l_iload rfl rfl ?_
          have w152 : 0 ≤ Xi T1 891 9 ∧ Xi T1 891 9 ≤ 24 := hHT1.c _ _
          refine l_callV rfl rfl rfl (t_vo_countOf hHT1 v4 ⟨by omega, by omega⟩ _) ?_
          rintro _ _ ⟨rfl, z156, rfl, w156, w153, w154, w155⟩
          clear w154 w155
          show Rl _ _ _ _ _ [iv z156, iv z151, iv v5, .ref 891] _ _
          refine l_iload_n rfl rfl ?_
          refine l_if_eq rfl rfl (by unfold rg; omega) (fun w157 => ?_) (fun w158 => ?_)
          · refine l_bipush rfl rfl ?_
            have w159 : 0 ≤ Xi T1 891 9 ∧ Xi T1 891 9 ≤ 24 := hHT1.c _ _
            refine l_callV rfl rfl rfl (t_re_takeNew hHT1 v5 z151 z156 16 ⟨by omega, by omega⟩ ⟨by omega, by omega⟩ ⟨by omega, by omega⟩ ⟨by omega, by omega⟩ (by first | assumption | exact (by first | assumption | exact (by assumption : WI T1).1 : LEX T1)) _) ?_
            rintro _ T11 ⟨hHT11, w166, z165, rfl, w165, w160, w161, w162, w163, w164⟩
            have hFT11 : FR md_re_tellKinds S T11 := FR.tr hFT1 w166 rfl
            show Rl _ _ _ _ _ [iv z165] _ _
            have h90 : 0 ≤ Xi T1 891 9 ∧ Xi T1 891 9 ≤ 24 := hHT1.c _ _
            have hNs : z165 = 1 → NW T11 := fun q => nw_s hN68 (by omega) rfl rfl (by omega) (by omega) (by omega) (by assumption)
            refine l_if_ne rfl rfl (by unfold rg; omega) (fun w167 => ?_) (fun w168 => ?_)
            · refine l_iinc rfl rfl rfl rfl ?_
              refine l_goto rfl rfl ?_
              have w169 : 0 ≤ Xi T11 891 9 ∧ Xi T11 891 9 ≤ 24 := hHT11.c _ _
              exact Rl_weak (ih68 _ (by omega) T11 hHT11 hFT11 (v1) (v2) (v3) (v4) ((v5 + 1)) (by omega) (by omega) (by omega) (by omega) (by omega) (by first | assumption | exact (WI_FR hHT1 w166 rfl rfl rfl rfl rfl rfl rfl rfl rfl (by assumption : WI T1))) (by first | exact nw_0 hn0 | exact hNs (by omega) | exact hN68) (by omega) (by omega) (by omega) (by first | exact h5_68 | exact ((by assumption : FR md_re_takeNew T1 T11).cx 5 rfl _).1.trans h5_68 | rfl) rfl) (And.intro rfl (And.intro rfl (And.intro rfl (And.intro rfl (And.intro rfl (And.intro rfl (True.intro)))))))
            · refine l_iconst rfl ?_
              refine l_ireturn rfl rfl ?_
              have w170 : 0 ≤ Xi T11 876 8 ∧ Xi T11 876 8 ≤ 9 := hHT11.c _ _
              have w171 : 0 ≤ Xi T11 891 9 ∧ Xi T11 891 9 ≤ 24 := hHT11.c _ _
              exact ⟨hHT11, hFT11, _, rfl, ⟨by omega, by omega⟩, (by first | (intro hz; omega) | (intro _; assumption) | (intro hz; apply_assumption; omega) | (intro _; exact (WI_FR hHT1 w166 rfl rfl rfl rfl rfl rfl rfl rfl rfl (by assumption : WI T1)))), (by omega)⟩
          · refine l_bipush rfl rfl ?_
            refine l_goto rfl rfl ?_
            have w172 : 0 ≤ Xi T1 891 9 ∧ Xi T1 891 9 ≤ 24 := hHT1.c _ _
            refine l_callV rfl rfl rfl (t_re_takeNew hHT1 v5 z151 z156 8 ⟨by omega, by omega⟩ ⟨by omega, by omega⟩ ⟨by omega, by omega⟩ ⟨by omega, by omega⟩ (by first | assumption | exact (by first | assumption | exact (by assumption : WI T1).1 : LEX T1)) _) ?_
            rintro _ T12 ⟨hHT12, w179, z178, rfl, w178, w173, w174, w175, w176, w177⟩
            have hFT12 : FR md_re_tellKinds S T12 := FR.tr hFT1 w179 rfl
            show Rl _ _ _ _ _ [iv z178] _ _
            have h90 : 0 ≤ Xi T1 891 9 ∧ Xi T1 891 9 ≤ 24 := hHT1.c _ _
            have hNs : z178 = 1 → NW T12 := fun q => nw_s hN68 (by omega) rfl rfl (by omega) (by omega) (by omega) (by assumption)
            refine l_if_ne rfl rfl (by unfold rg; omega) (fun w180 => ?_) (fun w181 => ?_)
            · refine l_iinc rfl rfl rfl rfl ?_
              refine l_goto rfl rfl ?_
              have w182 : 0 ≤ Xi T12 891 9 ∧ Xi T12 891 9 ≤ 24 := hHT12.c _ _
              exact Rl_weak (ih68 _ (by omega) T12 hHT12 hFT12 (v1) (v2) (v3) (v4) ((v5 + 1)) (by omega) (by omega) (by omega) (by omega) (by omega) (by first | assumption | exact (WI_FR hHT1 w179 rfl rfl rfl rfl rfl rfl rfl rfl rfl (by assumption : WI T1))) (by first | exact nw_0 hn0 | exact hNs (by omega) | exact hN68) (by omega) (by omega) (by omega) (by first | exact h5_68 | exact ((by assumption : FR md_re_takeNew T1 T12).cx 5 rfl _).1.trans h5_68 | rfl) rfl) (And.intro rfl (And.intro rfl (And.intro rfl (And.intro rfl (And.intro rfl (And.intro rfl (True.intro)))))))
            · refine l_iconst rfl ?_
              refine l_ireturn rfl rfl ?_
              have w183 : 0 ≤ Xi T12 876 8 ∧ Xi T12 876 8 ≤ 9 := hHT12.c _ _
              have w184 : 0 ≤ Xi T12 891 9 ∧ Xi T12 891 9 ≤ 24 := hHT12.c _ _
              exact ⟨hHT12, hFT12, _, rfl, ⟨by omega, by omega⟩, (by first | (intro hz; omega) | (intro _; assumption) | (intro hz; apply_assumption; omega) | (intro _; exact (WI_FR hHT1 w179 rfl rfl rfl rfl rfl rfl rfl rfl rfl (by assumption : WI T1)))), (by omega)⟩
  refine l_aload_n rfl rfl ?_
  refine l_gfr rfl rfl rfl rfl rfl (hH.r 891 1 890 rfl) ?_
  refine l_gfi rfl rfl rfl rfl rfl ?_
  refine l_istore_n rfl rfl rfl ?_
  refine l_aload_n rfl rfl ?_
  refine l_gfr rfl rfl rfl rfl rfl (hH.r 891 0 876 rfl) ?_
  refine l_iload_n rfl rfl ?_
  refine l_iconst rfl ?_
  refine l_iadd rfl ?_
  have w185 : 0 ≤ Xi S 876 7 ∧ Xi S 876 7 ≤ 5125 := hH.c _ _
  have w186 : 0 ≤ Xi S 891 9 ∧ Xi S 891 9 ≤ 24 := hH.c _ _
  refine l_callV rfl rfl rfl (t_to_typeAt hH ((Xi S 890 3) + 3) ⟨by omega, by omega⟩ _) ?_
  rintro _ _ ⟨rfl, z190, rfl, w190, w187, w188, w189⟩
  clear w188 w189
  show Rl _ _ _ _ _ [iv z190] _ _
  refine l_bipush rfl rfl ?_
  refine l_icmp_ne rfl rfl (by unfold rg; omega) (by unfold rg; omega) (fun w191 => ?_) (fun w192 => ?_)
  · refine l_iconst rfl ?_
    refine l_istore_n rfl rfl rfl ?_
    refine l_iload_n rfl rfl ?_
    refine l_if_eq rfl rfl (by unfold rg; omega) (fun w193 => ?_) (fun w194 => absurd w194 (by omega))
    · refine l_iconst rfl ?_
      refine l_istore_n rfl rfl rfl ?_
      refine l_iload_n rfl rfl ?_
      refine l_if_eq rfl rfl (by unfold rg; omega) (fun w195 => ?_) (fun w196 => absurd w196 (by omega))
      · refine l_iconst rfl ?_
        refine l_istore rfl rfl rfl ?_
        refine l_iconst rfl ?_
        refine l_istore rfl rfl rfl ?_
        have w197 : 0 ≤ Xi S 891 9 ∧ Xi S 891 9 ≤ 24 := hH.c _ _
        exact Rl_weak (C68 _ S hH hF ((Xi S 890 3)) (0) (0) (0) (0) (by omega) (by omega) (by omega) (by omega) (by omega) (by first | assumption | exact (by assumption : WI S)) (by first | exact nw_0 hn0 | exact hNs (by omega) | exact hN68) (by omega) (by omega) (by omega) (by first | exact h5_68 | exact ((by assumption : FR md_re_takeNew S S).cx 5 rfl _).1.trans h5_68 | rfl) rfl) (And.intro rfl (And.intro rfl (And.intro rfl (And.intro rfl (And.intro rfl (And.intro rfl (True.intro)))))))
  · refine l_iconst rfl ?_
    refine l_goto rfl rfl ?_
    refine l_istore_n rfl rfl rfl ?_
    refine l_iload_n rfl rfl ?_
    refine l_if_eq rfl rfl (by unfold rg; omega) (fun w198 => absurd w198 (by omega)) (fun w199 => ?_)
    · refine l_aload_n rfl rfl ?_
      refine l_gfr rfl rfl rfl rfl rfl (hH.r 891 0 876 rfl) ?_
      refine l_iload_n rfl rfl ?_
      refine l_iconst rfl ?_
      refine l_iadd rfl ?_
      have w200 : 0 ≤ Xi S 876 7 ∧ Xi S 876 7 ≤ 5125 := hH.c _ _
      have w201 : 0 ≤ Xi S 891 9 ∧ Xi S 891 9 ≤ 24 := hH.c _ _
      refine l_callV rfl rfl rfl (t_to_typeAt hH ((Xi S 890 3) + 4) ⟨by omega, by omega⟩ _) ?_
      rintro _ _ ⟨rfl, z205, rfl, w205, w202, w203, w204⟩
      clear w203 w204
      show Rl _ _ _ _ _ [iv z205] _ _
      refine l_bipush rfl rfl ?_
      refine l_icmp_ne rfl rfl (by unfold rg; omega) (by unfold rg; omega) (fun w206 => ?_) (fun w207 => ?_)
      · refine l_iconst rfl ?_
        refine l_istore_n rfl rfl rfl ?_
        refine l_iload_n rfl rfl ?_
        refine l_if_eq rfl rfl (by unfold rg; omega) (fun w208 => ?_) (fun w209 => absurd w209 (by omega))
        · refine l_iconst rfl ?_
          refine l_istore rfl rfl rfl ?_
          refine l_iconst rfl ?_
          refine l_istore rfl rfl rfl ?_
          have w210 : 0 ≤ Xi S 891 9 ∧ Xi S 891 9 ≤ 24 := hH.c _ _
          exact Rl_weak (C68 _ S hH hF ((Xi S 890 3)) (1) (0) (0) (0) (by omega) (by omega) (by omega) (by omega) (by omega) (by first | assumption | exact (by assumption : WI S)) (by first | exact nw_0 hn0 | exact hNs (by omega) | exact hN68) (by omega) (by omega) (by omega) (by first | exact h5_68 | exact ((by assumption : FR md_re_takeNew S S).cx 5 rfl _).1.trans h5_68 | rfl) rfl) (And.intro rfl (And.intro rfl (And.intro rfl (And.intro rfl (And.intro rfl (And.intro rfl (True.intro)))))))
      · refine l_iconst rfl ?_
        refine l_goto rfl rfl ?_
        refine l_istore_n rfl rfl rfl ?_
        refine l_iload_n rfl rfl ?_
        refine l_if_eq rfl rfl (by unfold rg; omega) (fun w211 => absurd w211 (by omega)) (fun w212 => ?_)
        · refine l_iconst rfl ?_
          refine l_goto rfl rfl ?_
          refine l_istore rfl rfl rfl ?_
          refine l_iconst rfl ?_
          refine l_istore rfl rfl rfl ?_
          have w213 : 0 ≤ Xi S 891 9 ∧ Xi S 891 9 ≤ 24 := hH.c _ _
          exact Rl_weak (C68 _ S hH hF ((Xi S 890 3)) (1) (1) (1) (0) (by omega) (by omega) (by omega) (by omega) (by omega) (by first | assumption | exact (by assumption : WI S)) (by first | exact nw_0 hn0 | exact hNs (by omega) | exact hN68) (by omega) (by omega) (by omega) (by first | exact h5_68 | exact ((by assumption : FR md_re_takeNew S S).cx 5 rfl _).1.trans h5_68 | rfl) rfl) (And.intro rfl (And.intro rfl (And.intro rfl (And.intro rfl (And.intro rfl (And.intro rfl (True.intro)))))))

