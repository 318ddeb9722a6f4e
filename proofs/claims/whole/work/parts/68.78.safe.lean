/-! SAFETY of methods: printed by wip/safe (vc.py, decl.py) -/
def md_mo_listOf : List rec := [(988, 989, 0, 100000), (989, 990, 0, 100000), (990, 991, 0, 100000)]
abbrev Q_mo_listOf (S : sS) (from_ : Int) (to : Int) (kind : Int) : pst := fun r S1 => HI S1 ∧ FR md_mo_listOf S S1 ∧ (∃ z : Int, r = some (iv z) ∧ (0 ≤ z ∧ z ≤ 2600))
set_option maxRecDepth 100000 in
theorem t_mo_listOf {S : sS} (hH : HI S) (from_ : Int) (to : Int) (kind : Int) (hfrom_ : 0 ≤ from_ ∧ from_ ≤ 5001) (hto : 0 ≤ to ∧ to ≤ 5001) (hkind : 0 ≤ kind ∧ kind ≤ 15) (hM : LXM S) (hB : ABV S) (hft : from_ ≤ to) (d : Nat) : Mt lay0 (d + 5) m_mo_listOf [.ref 904, iv from_, iv to, .ref 988, iv kind] S (Q_mo_listOf S from_ to kind) := by
  refine Mt_R rfl rfl ?_
  have hF : FR md_mo_listOf S S := FR.rf
  have hc19 : 0 ≤ Xi S 904 19 ∧ Xi S 904 19 ≤ 24 := hH.c _ _
  have C9 : ∀ (n9 : Nat) (T1 : sS) (_ : HI T1) (_ : FR md_mo_listOf S T1) (v5 : Int) (v6 : Int) (v7 : Int), (0 ≤ v5 ∧ v5 ≤ 2600) → (0 ≤ v6 ∧ v6 ≤ 5002) → (0 ≤ v7 ∧ v7 ≤ 1) → (from_ ≤ v6) → (v6 ≤ to + 1) → (v7 = 1 → v6 ≤ to) → (2 * v5 ≤ v6 - from_) → n9 = (6000 * v7 - v6).toNat → Rl lay0 (d + 4) m_mo_listOf 9 [(0, .ref 904), (2, iv to), (3, .ref 988), (4, iv kind), (5, iv v5), (6, iv v6), (7, iv v7)] [] T1 (Q_mo_listOf S from_ to kind) := by
    intro n9
    induction n9 using Nat.strongRecOn with
    | ind n9 ih9 =>
      intro T1 hHT1 hFT1 v5 v6 v7 w1 w2 w3 w4 w5 w6 w7 hm9
      have w8 : Xi T1 904 19 = Xi S 904 19 := hFT1.x _ _ rfl
      have C18 : ∀ (n18 : Nat) (T2 : sS) (_ : HI T2) (_ : FR md_mo_listOf S T2) (v5 : Int) (v6 : Int) (v8 : Int), (0 ≤ v5 ∧ v5 ≤ 2600) → (0 ≤ v6 ∧ v6 ≤ 5002) → (0 ≤ v8 ∧ v8 ≤ 5001) → (from_ ≤ v6) → (v6 ≤ to) → (2 * v5 ≤ v6 - from_) → (v6 ≤ v8) → (v8 ≤ to) → ((6000 - v6).toNat ≤ n9) → n18 = (5002 - v8).toNat → Rl lay0 (d + 4) m_mo_listOf 18 [(0, .ref 904), (2, iv to), (3, .ref 988), (4, iv kind), (5, iv v5), (6, iv v6), (8, iv v8)] [] T2 (Q_mo_listOf S from_ to kind) := by
        intro n18
        induction n18 using Nat.strongRecOn with
        | ind n18 ih18 =>
          intro T2 hHT2 hFT2 v5 v6 v8 w9 w10 w11 w12 w13 w14 w15 w16 w17 hm18
          have w18 : Xi T2 904 19 = Xi S 904 19 := hFT2.x _ _ rfl
          refine l_iload rfl rfl ?_
          refine l_iload_n rfl rfl ?_
          refine l_icmp_ge rfl rfl (by unfold rg; omega) (by unfold rg; omega) (fun w19 => ?_) (fun w20 => ?_)
          · refine l_aload_n rfl rfl ?_
            refine l_iload rfl rfl ?_
            refine l_iload rfl rfl ?_
            have w21 : 0 ≤ Xi T2 904 19 ∧ Xi T2 904 19 ≤ 24 := hHT2.c _ _
            refine l_callV rfl rfl rfl (t_mo_objectOf__2 hHT2 v6 v8 ⟨by omega, by omega⟩ ⟨by omega, by omega⟩ (by first | assumption | exact (LXM_FR hFT2 rfl (by assumption : LXM S))) _) ?_
            rintro _ _ ⟨rfl, z24, rfl, w24, w22, w23⟩
            show Rl _ _ _ _ _ [iv z24] _ _
            refine l_istore rfl rfl rfl ?_
            refine l_iload rfl rfl ?_
            refine l_bipush rfl rfl ?_
            refine l_icmp_eq rfl rfl (by unfold rg; omega) (by unfold rg; omega) (fun w25 => ?_) (fun w26 => ?_)
            · refine l_iconst rfl ?_
              refine l_ireturn rfl rfl ?_
              exact ⟨hHT2, hFT2, _, rfl, ⟨by omega, by omega⟩⟩
            · refine l_aload_n rfl rfl ?_
              refine l_aload_n rfl rfl ?_
              refine l_gfr rfl rfl rfl rfl rfl (hHT2.r 904 20 918 rfl) ?_
              refine l_iload rfl rfl ?_
              refine l_iaload (n := 24) rfl rfl (by omega) (by omega) (by unfold rg; omega) ?_
              have w27 : 0 ≤ (Xi T2 918 ((z24).toNat)) ∧ (Xi T2 918 ((z24).toNat)) ≤ 15 := hHT2.c _ _
              refine l_iload rfl rfl ?_
              refine l_callV rfl rfl rfl (t_mo_isBelow hHT2 (Xi T2 918 ((z24).toNat)) kind ⟨by omega, by omega⟩ ⟨by omega, by omega⟩ (by first | assumption | exact (ABV_FR hFT2 rfl (by assumption : ABV S))) _) ?_
              rintro _ _ ⟨rfl, z29, rfl, w29, w28⟩
              show Rl _ _ _ _ _ [iv z29] _ _
              refine l_if_ne rfl rfl (by unfold rg; omega) (fun w30 => ?_) (fun w31 => ?_)
              · refine l_aload_n rfl rfl ?_
                refine l_iload rfl rfl ?_
                refine l_iload rfl rfl ?_
                refine l_iastore (n := 2600) rfl rfl (by omega) (by omega) (by unfold rg; omega) ?_
                obtain ⟨U3, eU3⟩ : ∃ T : sS, T = uI T2 988 ((v5).toNat) (Int32.ofInt z24) := ⟨_, rfl⟩
                rw [← eU3]
                have hHU3 : HI U3 := by rw [eU3]; exact HI_w hHT2 (show 0 ≤ z24 by omega) (show z24 ≤ 23 by omega)
                have hFU3 : FR md_mo_listOf S U3 := by rw [eU3]; exact FR.wI hFT2 (mdf_i (r := (988, 989, 0, 100000)) (List.mem_of_getElem? (i := 0) rfl) (inR_i (by omega) (by omega) (by omega) (by omega)))
                have w32 : Xi U3 988 ((v5).toNat) = z24 := by rw [eU3]; exact Xi_same (by unfold rg; omega)
                refine l_iinc rfl rfl rfl rfl ?_
                refine l_iload rfl rfl ?_
                refine l_iload_n rfl rfl ?_
                refine l_icmp_ge rfl rfl (by unfold rg; omega) (by unfold rg; omega) (fun w33 => ?_) (fun w34 => ?_)
                · refine l_iconst rfl ?_
                  refine l_istore rfl rfl rfl ?_
                  refine l_iload rfl rfl ?_
                  refine l_iconst rfl ?_
                  refine l_iadd rfl ?_
                  refine l_istore rfl rfl rfl ?_
                  refine l_iload rfl rfl ?_
                  refine l_iload rfl rfl ?_
                  refine l_if_eq rfl rfl (by unfold rg; omega) (fun w35 => ?_) (fun w36 => absurd w36 (by omega))
                  · refine l_iconst rfl ?_
                    refine l_iadd rfl ?_
                    refine l_istore rfl rfl rfl ?_
                    refine l_goto rfl rfl ?_
                    exact Rl_weak (ih9 _ (by omega) U3 hHU3 hFU3 ((v5 + 1)) (((v8 + 1) + 0)) (0) (by omega) (by omega) (by omega) (by omega) (by omega) (by omega) (by omega) rfl) (And.intro rfl (And.intro rfl (And.intro rfl (And.intro rfl (And.intro rfl (And.intro rfl (And.intro rfl (True.intro))))))))
                · refine l_iconst rfl ?_
                  refine l_goto rfl rfl ?_
                  refine l_istore rfl rfl rfl ?_
                  refine l_iload rfl rfl ?_
                  refine l_iconst rfl ?_
                  refine l_iadd rfl ?_
                  refine l_istore rfl rfl rfl ?_
                  refine l_iload rfl rfl ?_
                  refine l_iload rfl rfl ?_
                  refine l_if_eq rfl rfl (by unfold rg; omega) (fun w37 => absurd w37 (by omega)) (fun w38 => ?_)
                  · refine l_aload_n rfl rfl ?_
                    refine l_gfr rfl rfl rfl rfl rfl (hHU3.r 904 4 907 rfl) ?_
                    refine l_iload rfl rfl ?_
                    refine l_iaload (n := 5002) rfl rfl (by omega) (by omega) (by unfold rg; omega) ?_
                    have w39 : 0 ≤ (Xi U3 907 ((v8).toNat)) ∧ (Xi U3 907 ((v8).toNat)) ≤ 154 := hHU3.c _ _
                    refine l_bipush rfl rfl ?_
                    refine l_icmp_ne rfl rfl (by unfold rg; omega) (by unfold rg; omega) (fun w40 => ?_) (fun w41 => ?_)
                    · refine l_iconst rfl ?_
                      refine l_iadd rfl ?_
                      refine l_istore rfl rfl rfl ?_
                      refine l_goto rfl rfl ?_
                      exact Rl_weak (ih9 _ (by omega) U3 hHU3 hFU3 ((v5 + 1)) (((v8 + 1) + 0)) (1) (by omega) (by omega) (by omega) (by omega) (by omega) (by omega) (by omega) rfl) (And.intro rfl (And.intro rfl (And.intro rfl (And.intro rfl (And.intro rfl (And.intro rfl (And.intro rfl (True.intro))))))))
                    · refine l_iload rfl rfl ?_
                      refine l_iload_n rfl rfl ?_
                      refine l_icmp_ge rfl rfl (by unfold rg; omega) (by unfold rg; omega) (fun w42 => ?_) (fun w43 => ?_)
                      · refine l_iconst rfl ?_
                        refine l_iadd rfl ?_
                        refine l_istore rfl rfl rfl ?_
                        refine l_goto rfl rfl ?_
                        exact Rl_weak (ih9 _ (by omega) U3 hHU3 hFU3 ((v5 + 1)) (((v8 + 1) + 0)) (1) (by omega) (by omega) (by omega) (by omega) (by omega) (by omega) (by omega) rfl) (And.intro rfl (And.intro rfl (And.intro rfl (And.intro rfl (And.intro rfl (And.intro rfl (And.intro rfl (True.intro))))))))
                      · refine l_aload_n rfl rfl ?_
                        refine l_gfr rfl rfl rfl rfl rfl (hHU3.r 904 4 907 rfl) ?_
                        refine l_iload rfl rfl ?_
                        refine l_iaload (n := 5002) rfl rfl (by omega) (by omega) (by unfold rg; omega) ?_
                        have w44 : 0 ≤ (Xi U3 907 (((v8 + 1)).toNat)) ∧ (Xi U3 907 (((v8 + 1)).toNat)) ≤ 154 := hHU3.c _ _
                        refine l_bipush rfl rfl ?_
                        refine l_icmp_ne rfl rfl (by unfold rg; omega) (by unfold rg; omega) (fun w45 => ?_) (fun w46 => ?_)
                        · refine l_iconst rfl ?_
                          refine l_iadd rfl ?_
                          refine l_istore rfl rfl rfl ?_
                          refine l_goto rfl rfl ?_
                          exact Rl_weak (ih9 _ (by omega) U3 hHU3 hFU3 ((v5 + 1)) (((v8 + 1) + 0)) (1) (by omega) (by omega) (by omega) (by omega) (by omega) (by omega) (by omega) rfl) (And.intro rfl (And.intro rfl (And.intro rfl (And.intro rfl (And.intro rfl (And.intro rfl (And.intro rfl (True.intro))))))))
                        · refine l_iconst rfl ?_
                          refine l_goto rfl rfl ?_
                          refine l_iadd rfl ?_
                          refine l_istore rfl rfl rfl ?_
                          refine l_goto rfl rfl ?_
                          exact Rl_weak (ih9 _ (by omega) U3 hHU3 hFU3 ((v5 + 1)) (((v8 + 1) + 1)) (1) (by omega) (by omega) (by omega) (by omega) (by omega) (by omega) (by omega) rfl) (And.intro rfl (And.intro rfl (And.intro rfl (And.intro rfl (And.intro rfl (And.intro rfl (And.intro rfl (True.intro))))))))
              · refine l_iconst rfl ?_
                refine l_ireturn rfl rfl ?_
                exact ⟨hHT2, hFT2, _, rfl, ⟨by omega, by omega⟩⟩
          · refine l_aload_n rfl rfl ?_
            refine l_gfr rfl rfl rfl rfl rfl (hHT2.r 904 4 907 rfl) ?_
            refine l_iload rfl rfl ?_
            refine l_iaload (n := 5002) rfl rfl (by omega) (by omega) (by unfold rg; omega) ?_
            have w47 : 0 ≤ (Xi T2 907 ((v8).toNat)) ∧ (Xi T2 907 ((v8).toNat)) ≤ 154 := hHT2.c _ _
            refine l_bipush rfl rfl ?_
            refine l_icmp_eq rfl rfl (by unfold rg; omega) (by unfold rg; omega) (fun w48 => ?_) (fun w49 => ?_)
            · refine l_aload_n rfl rfl ?_
              refine l_iload rfl rfl ?_
              refine l_iload rfl rfl ?_
              have w50 : 0 ≤ Xi T2 904 19 ∧ Xi T2 904 19 ≤ 24 := hHT2.c _ _
              refine l_callV rfl rfl rfl (t_mo_objectOf__2 hHT2 v6 v8 ⟨by omega, by omega⟩ ⟨by omega, by omega⟩ (by first | assumption | exact (LXM_FR hFT2 rfl (by assumption : LXM S))) _) ?_
              rintro _ _ ⟨rfl, z53, rfl, w53, w51, w52⟩
              show Rl _ _ _ _ _ [iv z53] _ _
              refine l_istore rfl rfl rfl ?_
              refine l_iload rfl rfl ?_
              refine l_bipush rfl rfl ?_
              refine l_icmp_eq rfl rfl (by unfold rg; omega) (by unfold rg; omega) (fun w54 => ?_) (fun w55 => ?_)
              · refine l_iconst rfl ?_
                refine l_ireturn rfl rfl ?_
                exact ⟨hHT2, hFT2, _, rfl, ⟨by omega, by omega⟩⟩
              · refine l_aload_n rfl rfl ?_
                refine l_aload_n rfl rfl ?_
                refine l_gfr rfl rfl rfl rfl rfl (hHT2.r 904 20 918 rfl) ?_
                refine l_iload rfl rfl ?_
                refine l_iaload (n := 24) rfl rfl (by omega) (by omega) (by unfold rg; omega) ?_
                have w56 : 0 ≤ (Xi T2 918 ((z53).toNat)) ∧ (Xi T2 918 ((z53).toNat)) ≤ 15 := hHT2.c _ _
                refine l_iload rfl rfl ?_
                refine l_callV rfl rfl rfl (t_mo_isBelow hHT2 (Xi T2 918 ((z53).toNat)) kind ⟨by omega, by omega⟩ ⟨by omega, by omega⟩ (by first | assumption | exact (ABV_FR hFT2 rfl (by assumption : ABV S))) _) ?_
                rintro _ _ ⟨rfl, z58, rfl, w58, w57⟩
                show Rl _ _ _ _ _ [iv z58] _ _
                refine l_if_ne rfl rfl (by unfold rg; omega) (fun w59 => ?_) (fun w60 => ?_)
                · refine l_aload_n rfl rfl ?_
                  refine l_iload rfl rfl ?_
                  refine l_iload rfl rfl ?_
                  refine l_iastore (n := 2600) rfl rfl (by omega) (by omega) (by unfold rg; omega) ?_
                  obtain ⟨U4, eU4⟩ : ∃ T : sS, T = uI T2 988 ((v5).toNat) (Int32.ofInt z53) := ⟨_, rfl⟩
                  rw [← eU4]
                  have hHU4 : HI U4 := by rw [eU4]; exact HI_w hHT2 (show 0 ≤ z53 by omega) (show z53 ≤ 23 by omega)
                  have hFU4 : FR md_mo_listOf S U4 := by rw [eU4]; exact FR.wI hFT2 (mdf_i (r := (988, 989, 0, 100000)) (List.mem_of_getElem? (i := 0) rfl) (inR_i (by omega) (by omega) (by omega) (by omega)))
                  have w61 : Xi U4 988 ((v5).toNat) = z53 := by rw [eU4]; exact Xi_same (by unfold rg; omega)
                  refine l_iinc rfl rfl rfl rfl ?_
                  refine l_iload rfl rfl ?_
                  refine l_iload_n rfl rfl ?_
                  refine l_icmp_ge rfl rfl (by unfold rg; omega) (by unfold rg; omega) (fun w62 => ?_) (fun w63 => ?_)
                  · refine l_iconst rfl ?_
                    refine l_istore rfl rfl rfl ?_
                    refine l_iload rfl rfl ?_
                    refine l_iconst rfl ?_
                    refine l_iadd rfl ?_
                    refine l_istore rfl rfl rfl ?_
                    refine l_iload rfl rfl ?_
                    refine l_iload rfl rfl ?_
                    refine l_if_eq rfl rfl (by unfold rg; omega) (fun w64 => ?_) (fun w65 => absurd w65 (by omega))
                    · refine l_iconst rfl ?_
                      refine l_iadd rfl ?_
                      refine l_istore rfl rfl rfl ?_
                      refine l_goto rfl rfl ?_
                      exact Rl_weak (ih9 _ (by omega) U4 hHU4 hFU4 ((v5 + 1)) (((v8 + 1) + 0)) (0) (by omega) (by omega) (by omega) (by omega) (by omega) (by omega) (by omega) rfl) (And.intro rfl (And.intro rfl (And.intro rfl (And.intro rfl (And.intro rfl (And.intro rfl (And.intro rfl (True.intro))))))))
                  · refine l_iconst rfl ?_
                    refine l_goto rfl rfl ?_
                    refine l_istore rfl rfl rfl ?_
                    refine l_iload rfl rfl ?_
                    refine l_iconst rfl ?_
                    refine l_iadd rfl ?_
                    refine l_istore rfl rfl rfl ?_
                    refine l_iload rfl rfl ?_
                    refine l_iload rfl rfl ?_
                    refine l_if_eq rfl rfl (by unfold rg; omega) (fun w66 => absurd w66 (by omega)) (fun w67 => ?_)
                    · refine l_aload_n rfl rfl ?_
                      refine l_gfr rfl rfl rfl rfl rfl (hHU4.r 904 4 907 rfl) ?_
                      refine l_iload rfl rfl ?_
                      refine l_iaload (n := 5002) rfl rfl (by omega) (by omega) (by unfold rg; omega) ?_
                      have w68 : (Xi U4 907 ((v8).toNat)) = (Xi T2 907 ((v8).toNat)) := (show Xi U4 907 ((v8).toNat) = Xi T2 907 ((v8).toNat) from by rw [eU4]; exact Xi_ne (by omega))
                      rw [w68]
                      refine l_bipush rfl rfl ?_
                      refine l_icmp_ne rfl rfl (by unfold rg; omega) (by unfold rg; omega) (fun w69 => ?_) (fun w70 => ?_)
                      · refine l_iconst rfl ?_
                        refine l_iadd rfl ?_
                        refine l_istore rfl rfl rfl ?_
                        refine l_goto rfl rfl ?_
                        exact Rl_weak (ih9 _ (by omega) U4 hHU4 hFU4 ((v5 + 1)) (((v8 + 1) + 0)) (1) (by omega) (by omega) (by omega) (by omega) (by omega) (by omega) (by omega) rfl) (And.intro rfl (And.intro rfl (And.intro rfl (And.intro rfl (And.intro rfl (And.intro rfl (And.intro rfl (True.intro))))))))
                      · refine l_iload rfl rfl ?_
                        refine l_iload_n rfl rfl ?_
                        refine l_icmp_ge rfl rfl (by unfold rg; omega) (by unfold rg; omega) (fun w71 => ?_) (fun w72 => ?_)
                        · refine l_iconst rfl ?_
                          refine l_iadd rfl ?_
                          refine l_istore rfl rfl rfl ?_
                          refine l_goto rfl rfl ?_
                          exact Rl_weak (ih9 _ (by omega) U4 hHU4 hFU4 ((v5 + 1)) (((v8 + 1) + 0)) (1) (by omega) (by omega) (by omega) (by omega) (by omega) (by omega) (by omega) rfl) (And.intro rfl (And.intro rfl (And.intro rfl (And.intro rfl (And.intro rfl (And.intro rfl (And.intro rfl (True.intro))))))))
                        · refine l_aload_n rfl rfl ?_
                          refine l_gfr rfl rfl rfl rfl rfl (hHU4.r 904 4 907 rfl) ?_
                          refine l_iload rfl rfl ?_
                          refine l_iaload (n := 5002) rfl rfl (by omega) (by omega) (by unfold rg; omega) ?_
                          have w73 : 0 ≤ (Xi U4 907 (((v8 + 1)).toNat)) ∧ (Xi U4 907 (((v8 + 1)).toNat)) ≤ 154 := hHU4.c _ _
                          refine l_bipush rfl rfl ?_
                          refine l_icmp_ne rfl rfl (by unfold rg; omega) (by unfold rg; omega) (fun w74 => ?_) (fun w75 => ?_)
                          · refine l_iconst rfl ?_
                            refine l_iadd rfl ?_
                            refine l_istore rfl rfl rfl ?_
                            refine l_goto rfl rfl ?_
                            exact Rl_weak (ih9 _ (by omega) U4 hHU4 hFU4 ((v5 + 1)) (((v8 + 1) + 0)) (1) (by omega) (by omega) (by omega) (by omega) (by omega) (by omega) (by omega) rfl) (And.intro rfl (And.intro rfl (And.intro rfl (And.intro rfl (And.intro rfl (And.intro rfl (And.intro rfl (True.intro))))))))
                          · refine l_iconst rfl ?_
                            refine l_goto rfl rfl ?_
                            refine l_iadd rfl ?_
                            refine l_istore rfl rfl rfl ?_
                            refine l_goto rfl rfl ?_
                            exact Rl_weak (ih9 _ (by omega) U4 hHU4 hFU4 ((v5 + 1)) (((v8 + 1) + 1)) (1) (by omega) (by omega) (by omega) (by omega) (by omega) (by omega) (by omega) rfl) (And.intro rfl (And.intro rfl (And.intro rfl (And.intro rfl (And.intro rfl (And.intro rfl (And.intro rfl (True.intro))))))))
                · refine l_iconst rfl ?_
                  refine l_ireturn rfl rfl ?_
                  exact ⟨hHT2, hFT2, _, rfl, ⟨by omega, by omega⟩⟩
            · refine l_aload_n rfl rfl ?_
              refine l_gfr rfl rfl rfl rfl rfl (hHT2.r 904 4 907 rfl) ?_
              refine l_iload rfl rfl ?_
              refine l_iaload (n := 5002) rfl rfl (by omega) (by omega) (by unfold rg; omega) ?_
              refine l_bipush rfl rfl ?_
              refine l_icmp_eq rfl rfl (by unfold rg; omega) (by unfold rg; omega) (fun w76 => ?_) (fun w77 => ?_)
              · refine l_aload_n rfl rfl ?_
                refine l_iload rfl rfl ?_
                refine l_iload rfl rfl ?_
                have w78 : 0 ≤ Xi T2 904 19 ∧ Xi T2 904 19 ≤ 24 := hHT2.c _ _
                refine l_callV rfl rfl rfl (t_mo_objectOf__2 hHT2 v6 v8 ⟨by omega, by omega⟩ ⟨by omega, by omega⟩ (by first | assumption | exact (LXM_FR hFT2 rfl (by assumption : LXM S))) _) ?_
                rintro _ _ ⟨rfl, z81, rfl, w81, w79, w80⟩
                show Rl _ _ _ _ _ [iv z81] _ _
                refine l_istore rfl rfl rfl ?_
                refine l_iload rfl rfl ?_
                refine l_bipush rfl rfl ?_
                refine l_icmp_eq rfl rfl (by unfold rg; omega) (by unfold rg; omega) (fun w82 => ?_) (fun w83 => ?_)
                · refine l_iconst rfl ?_
                  refine l_ireturn rfl rfl ?_
                  exact ⟨hHT2, hFT2, _, rfl, ⟨by omega, by omega⟩⟩
                · refine l_aload_n rfl rfl ?_
                  refine l_aload_n rfl rfl ?_
                  refine l_gfr rfl rfl rfl rfl rfl (hHT2.r 904 20 918 rfl) ?_
                  refine l_iload rfl rfl ?_
                  refine l_iaload (n := 24) rfl rfl (by omega) (by omega) (by unfold rg; omega) ?_
                  have w84 : 0 ≤ (Xi T2 918 ((z81).toNat)) ∧ (Xi T2 918 ((z81).toNat)) ≤ 15 := hHT2.c _ _
                  refine l_iload rfl rfl ?_
                  refine l_callV rfl rfl rfl (t_mo_isBelow hHT2 (Xi T2 918 ((z81).toNat)) kind ⟨by omega, by omega⟩ ⟨by omega, by omega⟩ (by first | assumption | exact (ABV_FR hFT2 rfl (by assumption : ABV S))) _) ?_
                  rintro _ _ ⟨rfl, z86, rfl, w86, w85⟩
                  show Rl _ _ _ _ _ [iv z86] _ _
                  refine l_if_ne rfl rfl (by unfold rg; omega) (fun w87 => ?_) (fun w88 => ?_)
                  · refine l_aload_n rfl rfl ?_
                    refine l_iload rfl rfl ?_
                    refine l_iload rfl rfl ?_
                    refine l_iastore (n := 2600) rfl rfl (by omega) (by omega) (by unfold rg; omega) ?_
                    obtain ⟨U5, eU5⟩ : ∃ T : sS, T = uI T2 988 ((v5).toNat) (Int32.ofInt z81) := ⟨_, rfl⟩
                    rw [← eU5]
                    have hHU5 : HI U5 := by rw [eU5]; exact HI_w hHT2 (show 0 ≤ z81 by omega) (show z81 ≤ 23 by omega)
                    have hFU5 : FR md_mo_listOf S U5 := by rw [eU5]; exact FR.wI hFT2 (mdf_i (r := (988, 989, 0, 100000)) (List.mem_of_getElem? (i := 0) rfl) (inR_i (by omega) (by omega) (by omega) (by omega)))
                    have w89 : Xi U5 988 ((v5).toNat) = z81 := by rw [eU5]; exact Xi_same (by unfold rg; omega)
                    refine l_iinc rfl rfl rfl rfl ?_
                    refine l_iload rfl rfl ?_
                    refine l_iload_n rfl rfl ?_
                    refine l_icmp_ge rfl rfl (by unfold rg; omega) (by unfold rg; omega) (fun w90 => ?_) (fun w91 => ?_)
                    · refine l_iconst rfl ?_
                      refine l_istore rfl rfl rfl ?_
                      refine l_iload rfl rfl ?_
                      refine l_iconst rfl ?_
                      refine l_iadd rfl ?_
                      refine l_istore rfl rfl rfl ?_
                      refine l_iload rfl rfl ?_
                      refine l_iload rfl rfl ?_
                      refine l_if_eq rfl rfl (by unfold rg; omega) (fun w92 => ?_) (fun w93 => absurd w93 (by omega))
                      · refine l_iconst rfl ?_
                        refine l_iadd rfl ?_
                        refine l_istore rfl rfl rfl ?_
                        refine l_goto rfl rfl ?_
                        exact Rl_weak (ih9 _ (by omega) U5 hHU5 hFU5 ((v5 + 1)) (((v8 + 1) + 0)) (0) (by omega) (by omega) (by omega) (by omega) (by omega) (by omega) (by omega) rfl) (And.intro rfl (And.intro rfl (And.intro rfl (And.intro rfl (And.intro rfl (And.intro rfl (And.intro rfl (True.intro))))))))
                    · refine l_iconst rfl ?_
                      refine l_goto rfl rfl ?_
                      refine l_istore rfl rfl rfl ?_
                      refine l_iload rfl rfl ?_
                      refine l_iconst rfl ?_
                      refine l_iadd rfl ?_
                      refine l_istore rfl rfl rfl ?_
                      refine l_iload rfl rfl ?_
                      refine l_iload rfl rfl ?_
                      refine l_if_eq rfl rfl (by unfold rg; omega) (fun w94 => absurd w94 (by omega)) (fun w95 => ?_)
                      · refine l_aload_n rfl rfl ?_
                        refine l_gfr rfl rfl rfl rfl rfl (hHU5.r 904 4 907 rfl) ?_
                        refine l_iload rfl rfl ?_
                        refine l_iaload (n := 5002) rfl rfl (by omega) (by omega) (by unfold rg; omega) ?_
                        have w96 : (Xi U5 907 ((v8).toNat)) = (Xi T2 907 ((v8).toNat)) := (show Xi U5 907 ((v8).toNat) = Xi T2 907 ((v8).toNat) from by rw [eU5]; exact Xi_ne (by omega))
                        rw [w96]
                        refine l_bipush rfl rfl ?_
                        refine l_icmp_ne rfl rfl (by unfold rg; omega) (by unfold rg; omega) (fun w97 => ?_) (fun w98 => ?_)
                        · refine l_iconst rfl ?_
                          refine l_iadd rfl ?_
                          refine l_istore rfl rfl rfl ?_
                          refine l_goto rfl rfl ?_
                          exact Rl_weak (ih9 _ (by omega) U5 hHU5 hFU5 ((v5 + 1)) (((v8 + 1) + 0)) (1) (by omega) (by omega) (by omega) (by omega) (by omega) (by omega) (by omega) rfl) (And.intro rfl (And.intro rfl (And.intro rfl (And.intro rfl (And.intro rfl (And.intro rfl (And.intro rfl (True.intro))))))))
                        · refine l_iload rfl rfl ?_
                          refine l_iload_n rfl rfl ?_
                          refine l_icmp_ge rfl rfl (by unfold rg; omega) (by unfold rg; omega) (fun w99 => ?_) (fun w100 => ?_)
                          · refine l_iconst rfl ?_
                            refine l_iadd rfl ?_
                            refine l_istore rfl rfl rfl ?_
                            refine l_goto rfl rfl ?_
                            exact Rl_weak (ih9 _ (by omega) U5 hHU5 hFU5 ((v5 + 1)) (((v8 + 1) + 0)) (1) (by omega) (by omega) (by omega) (by omega) (by omega) (by omega) (by omega) rfl) (And.intro rfl (And.intro rfl (And.intro rfl (And.intro rfl (And.intro rfl (And.intro rfl (And.intro rfl (True.intro))))))))
                          · refine l_aload_n rfl rfl ?_
                            refine l_gfr rfl rfl rfl rfl rfl (hHU5.r 904 4 907 rfl) ?_
                            refine l_iload rfl rfl ?_
                            refine l_iaload (n := 5002) rfl rfl (by omega) (by omega) (by unfold rg; omega) ?_
                            have w101 : 0 ≤ (Xi U5 907 (((v8 + 1)).toNat)) ∧ (Xi U5 907 (((v8 + 1)).toNat)) ≤ 154 := hHU5.c _ _
                            refine l_bipush rfl rfl ?_
                            refine l_icmp_ne rfl rfl (by unfold rg; omega) (by unfold rg; omega) (fun w102 => ?_) (fun w103 => ?_)
                            · refine l_iconst rfl ?_
                              refine l_iadd rfl ?_
                              refine l_istore rfl rfl rfl ?_
                              refine l_goto rfl rfl ?_
                              exact Rl_weak (ih9 _ (by omega) U5 hHU5 hFU5 ((v5 + 1)) (((v8 + 1) + 0)) (1) (by omega) (by omega) (by omega) (by omega) (by omega) (by omega) (by omega) rfl) (And.intro rfl (And.intro rfl (And.intro rfl (And.intro rfl (And.intro rfl (And.intro rfl (And.intro rfl (True.intro))))))))
                            · refine l_iconst rfl ?_
                              refine l_goto rfl rfl ?_
                              refine l_iadd rfl ?_
                              refine l_istore rfl rfl rfl ?_
                              refine l_goto rfl rfl ?_
                              exact Rl_weak (ih9 _ (by omega) U5 hHU5 hFU5 ((v5 + 1)) (((v8 + 1) + 1)) (1) (by omega) (by omega) (by omega) (by omega) (by omega) (by omega) (by omega) rfl) (And.intro rfl (And.intro rfl (And.intro rfl (And.intro rfl (And.intro rfl (And.intro rfl (And.intro rfl (True.intro))))))))
                  · refine l_iconst rfl ?_
                    refine l_ireturn rfl rfl ?_
                    exact ⟨hHT2, hFT2, _, rfl, ⟨by omega, by omega⟩⟩
              · refine l_iinc rfl rfl rfl rfl ?_
                refine l_goto rfl rfl ?_
                exact Rl_weak (ih18 _ (by omega) T2 hHT2 hFT2 (v5) (v6) ((v8 + 1)) (by omega) (by omega) (by omega) (by omega) (by omega) (by omega) (by omega) (by omega) (by omega) rfl) (And.intro rfl (And.intro rfl (And.intro rfl (And.intro rfl (And.intro rfl (And.intro rfl (And.intro rfl (True.intro))))))))
      refine l_iload rfl rfl ?_
      refine l_if_eq rfl rfl (by unfold rg; omega) (fun w104 => ?_) (fun w105 => ?_)
      · refine l_iload rfl rfl ?_
        refine l_ireturn rfl rfl ?_
        exact ⟨hHT1, hFT1, _, rfl, ⟨by omega, by omega⟩⟩
      · refine l_iload rfl rfl ?_
        refine l_istore rfl rfl rfl ?_
        exact Rl_weak (C18 _ T1 hHT1 hFT1 (v5) (v6) (v6) (by omega) (by omega) (by omega) (by omega) (by omega) (by omega) (by omega) (by omega) (by omega) rfl) (And.intro rfl (And.intro rfl (And.intro rfl (And.intro rfl (And.intro rfl (And.intro rfl (And.intro rfl (True.intro))))))))
  refine l_iconst rfl ?_
  refine l_istore rfl rfl rfl ?_
  refine l_iload_n rfl rfl ?_
  refine l_istore rfl rfl rfl ?_
  refine l_iconst rfl ?_
  refine l_istore rfl rfl rfl ?_
  exact Rl_weak (C9 _ S hH hF (0) (from_) (1) (by omega) (by omega) (by omega) (by omega) (by omega) (by omega) (by omega) rfl) (And.intro rfl (And.intro rfl (And.intro rfl (And.intro rfl (And.intro rfl (And.intro rfl (And.intro rfl (True.intro))))))))
def md_mo_listOf__2 : List rec := [(988, 989, 0, 100000), (989, 990, 0, 100000), (990, 991, 0, 100000)]
abbrev Q_mo_listOf__2 (S : sS) (from_ : Int) (to : Int) (kind : Int) : pst := fun r S1 => HI S1 ∧ FR md_mo_listOf__2 S S1 ∧ (∃ z : Int, r = some (iv z) ∧ (0 ≤ z ∧ z ≤ 2600))
set_option maxRecDepth 100000 in
theorem t_mo_listOf__2 {S : sS} (hH : HI S) (from_ : Int) (to : Int) (kind : Int) (hfrom_ : 0 ≤ from_ ∧ from_ ≤ 5001) (hto : 0 ≤ to ∧ to ≤ 5001) (hkind : 0 ≤ kind ∧ kind ≤ 15) (hM : LXM S) (hB : ABV S) (hft : from_ ≤ to) (d : Nat) : Mt lay0 (d + 5) m_mo_listOf [.ref 904, iv from_, iv to, .ref 989, iv kind] S (Q_mo_listOf__2 S from_ to kind) := by
  refine Mt_R rfl rfl ?_
  have hF : FR md_mo_listOf__2 S S := FR.rf
  have hc19 : 0 ≤ Xi S 904 19 ∧ Xi S 904 19 ≤ 24 := hH.c _ _
  have C9 : ∀ (n9 : Nat) (T1 : sS) (_ : HI T1) (_ : FR md_mo_listOf__2 S T1) (v5 : Int) (v6 : Int) (v7 : Int), (0 ≤ v5 ∧ v5 ≤ 2600) → (0 ≤ v6 ∧ v6 ≤ 5002) → (0 ≤ v7 ∧ v7 ≤ 1) → (from_ ≤ v6) → (v6 ≤ to + 1) → (v7 = 1 → v6 ≤ to) → (2 * v5 ≤ v6 - from_) → n9 = (6000 * v7 - v6).toNat → Rl lay0 (d + 4) m_mo_listOf 9 [(0, .ref 904), (2, iv to), (3, .ref 989), (4, iv kind), (5, iv v5), (6, iv v6), (7, iv v7)] [] T1 (Q_mo_listOf__2 S from_ to kind) := by
    intro n9
    induction n9 using Nat.strongRecOn with
    | ind n9 ih9 =>
      intro T1 hHT1 hFT1 v5 v6 v7 w1 w2 w3 w4 w5 w6 w7 hm9
      have w8 : Xi T1 904 19 = Xi S 904 19 := hFT1.x _ _ rfl
      have C18 : ∀ (n18 : Nat) (T2 : sS) (_ : HI T2) (_ : FR md_mo_listOf__2 S T2) (v5 : Int) (v6 : Int) (v8 : Int), (0 ≤ v5 ∧ v5 ≤ 2600) → (0 ≤ v6 ∧ v6 ≤ 5002) → (0 ≤ v8 ∧ v8 ≤ 5001) → (from_ ≤ v6) → (v6 ≤ to) → (2 * v5 ≤ v6 - from_) → (v6 ≤ v8) → (v8 ≤ to) → ((6000 - v6).toNat ≤ n9) → n18 = (5002 - v8).toNat → Rl lay0 (d + 4) m_mo_listOf 18 [(0, .ref 904), (2, iv to), (3, .ref 989), (4, iv kind), (5, iv v5), (6, iv v6), (8, iv v8)] [] T2 (Q_mo_listOf__2 S from_ to kind) := by
        intro n18
        induction n18 using Nat.strongRecOn with
        | ind n18 ih18 =>
          intro T2 hHT2 hFT2 v5 v6 v8 w9 w10 w11 w12 w13 w14 w15 w16 w17 hm18
          have w18 : Xi T2 904 19 = Xi S 904 19 := hFT2.x _ _ rfl
          refine l_iload rfl rfl ?_
          refine l_iload_n rfl rfl ?_
          refine l_icmp_ge rfl rfl (by unfold rg; omega) (by unfold rg; omega) (fun w19 => ?_) (fun w20 => ?_)
          · refine l_aload_n rfl rfl ?_
            refine l_iload rfl rfl ?_
            refine l_iload rfl rfl ?_
            have w21 : 0 ≤ Xi T2 904 19 ∧ Xi T2 904 19 ≤ 24 := hHT2.c _ _
            refine l_callV rfl rfl rfl (t_mo_objectOf__2 hHT2 v6 v8 ⟨by omega, by omega⟩ ⟨by omega, by omega⟩ (by first | assumption | exact (LXM_FR hFT2 rfl (by assumption : LXM S))) _) ?_
            rintro _ _ ⟨rfl, z24, rfl, w24, w22, w23⟩
            show Rl _ _ _ _ _ [iv z24] _ _
            refine l_istore rfl rfl rfl ?_
            refine l_iload rfl rfl ?_
            refine l_bipush rfl rfl ?_
            refine l_icmp_eq rfl rfl (by unfold rg; omega) (by unfold rg; omega) (fun w25 => ?_) (fun w26 => ?_)
            · refine l_iconst rfl ?_
              refine l_ireturn rfl rfl ?_
              exact ⟨hHT2, hFT2, _, rfl, ⟨by omega, by omega⟩⟩
            · refine l_aload_n rfl rfl ?_
              refine l_aload_n rfl rfl ?_
              refine l_gfr rfl rfl rfl rfl rfl (hHT2.r 904 20 918 rfl) ?_
              refine l_iload rfl rfl ?_
              refine l_iaload (n := 24) rfl rfl (by omega) (by omega) (by unfold rg; omega) ?_
              have w27 : 0 ≤ (Xi T2 918 ((z24).toNat)) ∧ (Xi T2 918 ((z24).toNat)) ≤ 15 := hHT2.c _ _
              refine l_iload rfl rfl ?_
              refine l_callV rfl rfl rfl (t_mo_isBelow hHT2 (Xi T2 918 ((z24).toNat)) kind ⟨by omega, by omega⟩ ⟨by omega, by omega⟩ (by first | assumption | exact (ABV_FR hFT2 rfl (by assumption : ABV S))) _) ?_
              rintro _ _ ⟨rfl, z29, rfl, w29, w28⟩
              show Rl _ _ _ _ _ [iv z29] _ _
              refine l_if_ne rfl rfl (by unfold rg; omega) (fun w30 => ?_) (fun w31 => ?_)
              · refine l_aload_n rfl rfl ?_
                refine l_iload rfl rfl ?_
                refine l_iload rfl rfl ?_
                refine l_iastore (n := 2600) rfl rfl (by omega) (by omega) (by unfold rg; omega) ?_
                obtain ⟨U3, eU3⟩ : ∃ T : sS, T = uI T2 989 ((v5).toNat) (Int32.ofInt z24) := ⟨_, rfl⟩
                rw [← eU3]
                have hHU3 : HI U3 := by rw [eU3]; exact HI_w hHT2 (show 0 ≤ z24 by omega) (show z24 ≤ 23 by omega)
                have hFU3 : FR md_mo_listOf__2 S U3 := by rw [eU3]; exact FR.wI hFT2 (mdf_i (r := (989, 990, 0, 100000)) (List.mem_of_getElem? (i := 1) rfl) (inR_i (by omega) (by omega) (by omega) (by omega)))
                have w32 : Xi U3 989 ((v5).toNat) = z24 := by rw [eU3]; exact Xi_same (by unfold rg; omega)
                refine l_iinc rfl rfl rfl rfl ?_
                refine l_iload rfl rfl ?_
                refine l_iload_n rfl rfl ?_
                refine l_icmp_ge rfl rfl (by unfold rg; omega) (by unfold rg; omega) (fun w33 => ?_) (fun w34 => ?_)
                · refine l_iconst rfl ?_
                  refine l_istore rfl rfl rfl ?_
                  refine l_iload rfl rfl ?_
                  refine l_iconst rfl ?_
                  refine l_iadd rfl ?_
                  refine l_istore rfl rfl rfl ?_
                  refine l_iload rfl rfl ?_
                  refine l_iload rfl rfl ?_
                  refine l_if_eq rfl rfl (by unfold rg; omega) (fun w35 => ?_) (fun w36 => absurd w36 (by omega))
                  · refine l_iconst rfl ?_
                    refine l_iadd rfl ?_
                    refine l_istore rfl rfl rfl ?_
                    refine l_goto rfl rfl ?_
                    exact Rl_weak (ih9 _ (by omega) U3 hHU3 hFU3 ((v5 + 1)) (((v8 + 1) + 0)) (0) (by omega) (by omega) (by omega) (by omega) (by omega) (by omega) (by omega) rfl) (And.intro rfl (And.intro rfl (And.intro rfl (And.intro rfl (And.intro rfl (And.intro rfl (And.intro rfl (True.intro))))))))
                · refine l_iconst rfl ?_
                  refine l_goto rfl rfl ?_
                  refine l_istore rfl rfl rfl ?_
                  refine l_iload rfl rfl ?_
                  refine l_iconst rfl ?_
                  refine l_iadd rfl ?_
                  refine l_istore rfl rfl rfl ?_
                  refine l_iload rfl rfl ?_
                  refine l_iload rfl rfl ?_
                  refine l_if_eq rfl rfl (by unfold rg; omega) (fun w37 => absurd w37 (by omega)) (fun w38 => ?_)
                  · refine l_aload_n rfl rfl ?_
                    refine l_gfr rfl rfl rfl rfl rfl (hHU3.r 904 4 907 rfl) ?_
                    refine l_iload rfl rfl ?_
                    refine l_iaload (n := 5002) rfl rfl (by omega) (by omega) (by unfold rg; omega) ?_
                    have w39 : 0 ≤ (Xi U3 907 ((v8).toNat)) ∧ (Xi U3 907 ((v8).toNat)) ≤ 154 := hHU3.c _ _
                    refine l_bipush rfl rfl ?_
                    refine l_icmp_ne rfl rfl (by unfold rg; omega) (by unfold rg; omega) (fun w40 => ?_) (fun w41 => ?_)
                    · refine l_iconst rfl ?_
                      refine l_iadd rfl ?_
                      refine l_istore rfl rfl rfl ?_
                      refine l_goto rfl rfl ?_
                      exact Rl_weak (ih9 _ (by omega) U3 hHU3 hFU3 ((v5 + 1)) (((v8 + 1) + 0)) (1) (by omega) (by omega) (by omega) (by omega) (by omega) (by omega) (by omega) rfl) (And.intro rfl (And.intro rfl (And.intro rfl (And.intro rfl (And.intro rfl (And.intro rfl (And.intro rfl (True.intro))))))))
                    · refine l_iload rfl rfl ?_
                      refine l_iload_n rfl rfl ?_
                      refine l_icmp_ge rfl rfl (by unfold rg; omega) (by unfold rg; omega) (fun w42 => ?_) (fun w43 => ?_)
                      · refine l_iconst rfl ?_
                        refine l_iadd rfl ?_
                        refine l_istore rfl rfl rfl ?_
                        refine l_goto rfl rfl ?_
                        exact Rl_weak (ih9 _ (by omega) U3 hHU3 hFU3 ((v5 + 1)) (((v8 + 1) + 0)) (1) (by omega) (by omega) (by omega) (by omega) (by omega) (by omega) (by omega) rfl) (And.intro rfl (And.intro rfl (And.intro rfl (And.intro rfl (And.intro rfl (And.intro rfl (And.intro rfl (True.intro))))))))
                      · refine l_aload_n rfl rfl ?_
                        refine l_gfr rfl rfl rfl rfl rfl (hHU3.r 904 4 907 rfl) ?_
                        refine l_iload rfl rfl ?_
                        refine l_iaload (n := 5002) rfl rfl (by omega) (by omega) (by unfold rg; omega) ?_
                        have w44 : 0 ≤ (Xi U3 907 (((v8 + 1)).toNat)) ∧ (Xi U3 907 (((v8 + 1)).toNat)) ≤ 154 := hHU3.c _ _
                        refine l_bipush rfl rfl ?_
                        refine l_icmp_ne rfl rfl (by unfold rg; omega) (by unfold rg; omega) (fun w45 => ?_) (fun w46 => ?_)
                        · refine l_iconst rfl ?_
                          refine l_iadd rfl ?_
                          refine l_istore rfl rfl rfl ?_
                          refine l_goto rfl rfl ?_
                          exact Rl_weak (ih9 _ (by omega) U3 hHU3 hFU3 ((v5 + 1)) (((v8 + 1) + 0)) (1) (by omega) (by omega) (by omega) (by omega) (by omega) (by omega) (by omega) rfl) (And.intro rfl (And.intro rfl (And.intro rfl (And.intro rfl (And.intro rfl (And.intro rfl (And.intro rfl (True.intro))))))))
                        · refine l_iconst rfl ?_
                          refine l_goto rfl rfl ?_
                          refine l_iadd rfl ?_
                          refine l_istore rfl rfl rfl ?_
                          refine l_goto rfl rfl ?_
                          exact Rl_weak (ih9 _ (by omega) U3 hHU3 hFU3 ((v5 + 1)) (((v8 + 1) + 1)) (1) (by omega) (by omega) (by omega) (by omega) (by omega) (by omega) (by omega) rfl) (And.intro rfl (And.intro rfl (And.intro rfl (And.intro rfl (And.intro rfl (And.intro rfl (And.intro rfl (True.intro))))))))
              · refine l_iconst rfl ?_
                refine l_ireturn rfl rfl ?_
                exact ⟨hHT2, hFT2, _, rfl, ⟨by omega, by omega⟩⟩
          · refine l_aload_n rfl rfl ?_
            refine l_gfr rfl rfl rfl rfl rfl (hHT2.r 904 4 907 rfl) ?_
            refine l_iload rfl rfl ?_
            refine l_iaload (n := 5002) rfl rfl (by omega) (by omega) (by unfold rg; omega) ?_
            have w47 : 0 ≤ (Xi T2 907 ((v8).toNat)) ∧ (Xi T2 907 ((v8).toNat)) ≤ 154 := hHT2.c _ _
            refine l_bipush rfl rfl ?_
            refine l_icmp_eq rfl rfl (by unfold rg; omega) (by unfold rg; omega) (fun w48 => ?_) (fun w49 => ?_)
            · refine l_aload_n rfl rfl ?_
              refine l_iload rfl rfl ?_
              refine l_iload rfl rfl ?_
              have w50 : 0 ≤ Xi T2 904 19 ∧ Xi T2 904 19 ≤ 24 := hHT2.c _ _
              refine l_callV rfl rfl rfl (t_mo_objectOf__2 hHT2 v6 v8 ⟨by omega, by omega⟩ ⟨by omega, by omega⟩ (by first | assumption | exact (LXM_FR hFT2 rfl (by assumption : LXM S))) _) ?_
              rintro _ _ ⟨rfl, z53, rfl, w53, w51, w52⟩
              show Rl _ _ _ _ _ [iv z53] _ _
              refine l_istore rfl rfl rfl ?_
              refine l_iload rfl rfl ?_
              refine l_bipush rfl rfl ?_
              refine l_icmp_eq rfl rfl (by unfold rg; omega) (by unfold rg; omega) (fun w54 => ?_) (fun w55 => ?_)
              · refine l_iconst rfl ?_
                refine l_ireturn rfl rfl ?_
                exact ⟨hHT2, hFT2, _, rfl, ⟨by omega, by omega⟩⟩
              · refine l_aload_n rfl rfl ?_
                refine l_aload_n rfl rfl ?_
                refine l_gfr rfl rfl rfl rfl rfl (hHT2.r 904 20 918 rfl) ?_
                refine l_iload rfl rfl ?_
                refine l_iaload (n := 24) rfl rfl (by omega) (by omega) (by unfold rg; omega) ?_
                have w56 : 0 ≤ (Xi T2 918 ((z53).toNat)) ∧ (Xi T2 918 ((z53).toNat)) ≤ 15 := hHT2.c _ _
                refine l_iload rfl rfl ?_
                refine l_callV rfl rfl rfl (t_mo_isBelow hHT2 (Xi T2 918 ((z53).toNat)) kind ⟨by omega, by omega⟩ ⟨by omega, by omega⟩ (by first | assumption | exact (ABV_FR hFT2 rfl (by assumption : ABV S))) _) ?_
                rintro _ _ ⟨rfl, z58, rfl, w58, w57⟩
                show Rl _ _ _ _ _ [iv z58] _ _
                refine l_if_ne rfl rfl (by unfold rg; omega) (fun w59 => ?_) (fun w60 => ?_)
                · refine l_aload_n rfl rfl ?_
                  refine l_iload rfl rfl ?_
                  refine l_iload rfl rfl ?_
                  refine l_iastore (n := 2600) rfl rfl (by omega) (by omega) (by unfold rg; omega) ?_
                  obtain ⟨U4, eU4⟩ : ∃ T : sS, T = uI T2 989 ((v5).toNat) (Int32.ofInt z53) := ⟨_, rfl⟩
                  rw [← eU4]
                  have hHU4 : HI U4 := by rw [eU4]; exact HI_w hHT2 (show 0 ≤ z53 by omega) (show z53 ≤ 23 by omega)
                  have hFU4 : FR md_mo_listOf__2 S U4 := by rw [eU4]; exact FR.wI hFT2 (mdf_i (r := (989, 990, 0, 100000)) (List.mem_of_getElem? (i := 1) rfl) (inR_i (by omega) (by omega) (by omega) (by omega)))
                  have w61 : Xi U4 989 ((v5).toNat) = z53 := by rw [eU4]; exact Xi_same (by unfold rg; omega)
                  refine l_iinc rfl rfl rfl rfl ?_
                  refine l_iload rfl rfl ?_
                  refine l_iload_n rfl rfl ?_
                  refine l_icmp_ge rfl rfl (by unfold rg; omega) (by unfold rg; omega) (fun w62 => ?_) (fun w63 => ?_)
                  · refine l_iconst rfl ?_
                    refine l_istore rfl rfl rfl ?_
                    refine l_iload rfl rfl ?_
                    refine l_iconst rfl ?_
                    refine l_iadd rfl ?_
                    refine l_istore rfl rfl rfl ?_
                    refine l_iload rfl rfl ?_
                    refine l_iload rfl rfl ?_
                    refine l_if_eq rfl rfl (by unfold rg; omega) (fun w64 => ?_) (fun w65 => absurd w65 (by omega))
                    · refine l_iconst rfl ?_
                      refine l_iadd rfl ?_
                      refine l_istore rfl rfl rfl ?_
                      refine l_goto rfl rfl ?_
                      exact Rl_weak (ih9 _ (by omega) U4 hHU4 hFU4 ((v5 + 1)) (((v8 + 1) + 0)) (0) (by omega) (by omega) (by omega) (by omega) (by omega) (by omega) (by omega) rfl) (And.intro rfl (And.intro rfl (And.intro rfl (And.intro rfl (And.intro rfl (And.intro rfl (And.intro rfl (True.intro))))))))
                  · refine l_iconst rfl ?_
                    refine l_goto rfl rfl ?_
                    refine l_istore rfl rfl rfl ?_
                    refine l_iload rfl rfl ?_
                    refine l_iconst rfl ?_
                    refine l_iadd rfl ?_
                    refine l_istore rfl rfl rfl ?_
                    refine l_iload rfl rfl ?_
                    refine l_iload rfl rfl ?_
                    refine l_if_eq rfl rfl (by unfold rg; omega) (fun w66 => absurd w66 (by omega)) (fun w67 => ?_)
                    · refine l_aload_n rfl rfl ?_
                      refine l_gfr rfl rfl rfl rfl rfl (hHU4.r 904 4 907 rfl) ?_
                      refine l_iload rfl rfl ?_
                      refine l_iaload (n := 5002) rfl rfl (by omega) (by omega) (by unfold rg; omega) ?_
                      have w68 : (Xi U4 907 ((v8).toNat)) = (Xi T2 907 ((v8).toNat)) := (show Xi U4 907 ((v8).toNat) = Xi T2 907 ((v8).toNat) from by rw [eU4]; exact Xi_ne (by omega))
                      rw [w68]
                      refine l_bipush rfl rfl ?_
                      refine l_icmp_ne rfl rfl (by unfold rg; omega) (by unfold rg; omega) (fun w69 => ?_) (fun w70 => ?_)
                      · refine l_iconst rfl ?_
                        refine l_iadd rfl ?_
                        refine l_istore rfl rfl rfl ?_
                        refine l_goto rfl rfl ?_
                        exact Rl_weak (ih9 _ (by omega) U4 hHU4 hFU4 ((v5 + 1)) (((v8 + 1) + 0)) (1) (by omega) (by omega) (by omega) (by omega) (by omega) (by omega) (by omega) rfl) (And.intro rfl (And.intro rfl (And.intro rfl (And.intro rfl (And.intro rfl (And.intro rfl (And.intro rfl (True.intro))))))))
                      · refine l_iload rfl rfl ?_
                        refine l_iload_n rfl rfl ?_
                        refine l_icmp_ge rfl rfl (by unfold rg; omega) (by unfold rg; omega) (fun w71 => ?_) (fun w72 => ?_)
                        · refine l_iconst rfl ?_
                          refine l_iadd rfl ?_
                          refine l_istore rfl rfl rfl ?_
                          refine l_goto rfl rfl ?_
                          exact Rl_weak (ih9 _ (by omega) U4 hHU4 hFU4 ((v5 + 1)) (((v8 + 1) + 0)) (1) (by omega) (by omega) (by omega) (by omega) (by omega) (by omega) (by omega) rfl) (And.intro rfl (And.intro rfl (And.intro rfl (And.intro rfl (And.intro rfl (And.intro rfl (And.intro rfl (True.intro))))))))
                        · refine l_aload_n rfl rfl ?_
                          refine l_gfr rfl rfl rfl rfl rfl (hHU4.r 904 4 907 rfl) ?_
                          refine l_iload rfl rfl ?_
                          refine l_iaload (n := 5002) rfl rfl (by omega) (by omega) (by unfold rg; omega) ?_
                          have w73 : 0 ≤ (Xi U4 907 (((v8 + 1)).toNat)) ∧ (Xi U4 907 (((v8 + 1)).toNat)) ≤ 154 := hHU4.c _ _
                          refine l_bipush rfl rfl ?_
                          refine l_icmp_ne rfl rfl (by unfold rg; omega) (by unfold rg; omega) (fun w74 => ?_) (fun w75 => ?_)
                          · refine l_iconst rfl ?_
                            refine l_iadd rfl ?_
                            refine l_istore rfl rfl rfl ?_
                            refine l_goto rfl rfl ?_
                            exact Rl_weak (ih9 _ (by omega) U4 hHU4 hFU4 ((v5 + 1)) (((v8 + 1) + 0)) (1) (by omega) (by omega) (by omega) (by omega) (by omega) (by omega) (by omega) rfl) (And.intro rfl (And.intro rfl (And.intro rfl (And.intro rfl (And.intro rfl (And.intro rfl (And.intro rfl (True.intro))))))))
                          · refine l_iconst rfl ?_
                            refine l_goto rfl rfl ?_
                            refine l_iadd rfl ?_
                            refine l_istore rfl rfl rfl ?_
                            refine l_goto rfl rfl ?_
                            exact Rl_weak (ih9 _ (by omega) U4 hHU4 hFU4 ((v5 + 1)) (((v8 + 1) + 1)) (1) (by omega) (by omega) (by omega) (by omega) (by omega) (by omega) (by omega) rfl) (And.intro rfl (And.intro rfl (And.intro rfl (And.intro rfl (And.intro rfl (And.intro rfl (And.intro rfl (True.intro))))))))
                · refine l_iconst rfl ?_
                  refine l_ireturn rfl rfl ?_
                  exact ⟨hHT2, hFT2, _, rfl, ⟨by omega, by omega⟩⟩
            · refine l_aload_n rfl rfl ?_
              refine l_gfr rfl rfl rfl rfl rfl (hHT2.r 904 4 907 rfl) ?_
              refine l_iload rfl rfl ?_
              refine l_iaload (n := 5002) rfl rfl (by omega) (by omega) (by unfold rg; omega) ?_
              refine l_bipush rfl rfl ?_
              refine l_icmp_eq rfl rfl (by unfold rg; omega) (by unfold rg; omega) (fun w76 => ?_) (fun w77 => ?_)
              · refine l_aload_n rfl rfl ?_
                refine l_iload rfl rfl ?_
                refine l_iload rfl rfl ?_
                have w78 : 0 ≤ Xi T2 904 19 ∧ Xi T2 904 19 ≤ 24 := hHT2.c _ _
                refine l_callV rfl rfl rfl (t_mo_objectOf__2 hHT2 v6 v8 ⟨by omega, by omega⟩ ⟨by omega, by omega⟩ (by first | assumption | exact (LXM_FR hFT2 rfl (by assumption : LXM S))) _) ?_
                rintro _ _ ⟨rfl, z81, rfl, w81, w79, w80⟩
                show Rl _ _ _ _ _ [iv z81] _ _
                refine l_istore rfl rfl rfl ?_
                refine l_iload rfl rfl ?_
                refine l_bipush rfl rfl ?_
                refine l_icmp_eq rfl rfl (by unfold rg; omega) (by unfold rg; omega) (fun w82 => ?_) (fun w83 => ?_)
                · refine l_iconst rfl ?_
                  refine l_ireturn rfl rfl ?_
                  exact ⟨hHT2, hFT2, _, rfl, ⟨by omega, by omega⟩⟩
                · refine l_aload_n rfl rfl ?_
                  refine l_aload_n rfl rfl ?_
                  refine l_gfr rfl rfl rfl rfl rfl (hHT2.r 904 20 918 rfl) ?_
                  refine l_iload rfl rfl ?_
                  refine l_iaload (n := 24) rfl rfl (by omega) (by omega) (by unfold rg; omega) ?_
                  have w84 : 0 ≤ (Xi T2 918 ((z81).toNat)) ∧ (Xi T2 918 ((z81).toNat)) ≤ 15 := hHT2.c _ _
                  refine l_iload rfl rfl ?_
                  refine l_callV rfl rfl rfl (t_mo_isBelow hHT2 (Xi T2 918 ((z81).toNat)) kind ⟨by omega, by omega⟩ ⟨by omega, by omega⟩ (by first | assumption | exact (ABV_FR hFT2 rfl (by assumption : ABV S))) _) ?_
                  rintro _ _ ⟨rfl, z86, rfl, w86, w85⟩
                  show Rl _ _ _ _ _ [iv z86] _ _
                  refine l_if_ne rfl rfl (by unfold rg; omega) (fun w87 => ?_) (fun w88 => ?_)
                  · refine l_aload_n rfl rfl ?_
                    refine l_iload rfl rfl ?_
                    refine l_iload rfl rfl ?_
                    refine l_iastore (n := 2600) rfl rfl (by omega) (by omega) (by unfold rg; omega) ?_
                    obtain ⟨U5, eU5⟩ : ∃ T : sS, T = uI T2 989 ((v5).toNat) (Int32.ofInt z81) := ⟨_, rfl⟩
                    rw [← eU5]
                    have hHU5 : HI U5 := by rw [eU5]; exact HI_w hHT2 (show 0 ≤ z81 by omega) (show z81 ≤ 23 by omega)
                    have hFU5 : FR md_mo_listOf__2 S U5 := by rw [eU5]; exact FR.wI hFT2 (mdf_i (r := (989, 990, 0, 100000)) (List.mem_of_getElem? (i := 1) rfl) (inR_i (by omega) (by omega) (by omega) (by omega)))
                    have w89 : Xi U5 989 ((v5).toNat) = z81 := by rw [eU5]; exact Xi_same (by unfold rg; omega)
                    refine l_iinc rfl rfl rfl rfl ?_
                    refine l_iload rfl rfl ?_
                    refine l_iload_n rfl rfl ?_
                    refine l_icmp_ge rfl rfl (by unfold rg; omega) (by unfold rg; omega) (fun w90 => ?_) (fun w91 => ?_)
                    · refine l_iconst rfl ?_
                      refine l_istore rfl rfl rfl ?_
                      refine l_iload rfl rfl ?_
                      refine l_iconst rfl ?_
                      refine l_iadd rfl ?_
                      refine l_istore rfl rfl rfl ?_
                      refine l_iload rfl rfl ?_
                      refine l_iload rfl rfl ?_
                      refine l_if_eq rfl rfl (by unfold rg; omega) (fun w92 => ?_) (fun w93 => absurd w93 (by omega))
                      · refine l_iconst rfl ?_
                        refine l_iadd rfl ?_
                        refine l_istore rfl rfl rfl ?_
                        refine l_goto rfl rfl ?_
                        exact Rl_weak (ih9 _ (by omega) U5 hHU5 hFU5 ((v5 + 1)) (((v8 + 1) + 0)) (0) (by omega) (by omega) (by omega) (by omega) (by omega) (by omega) (by omega) rfl) (And.intro rfl (And.intro rfl (And.intro rfl (And.intro rfl (And.intro rfl (And.intro rfl (And.intro rfl (True.intro))))))))
                    · refine l_iconst rfl ?_
                      refine l_goto rfl rfl ?_
                      refine l_istore rfl rfl rfl ?_
                      refine l_iload rfl rfl ?_
                      refine l_iconst rfl ?_
                      refine l_iadd rfl ?_
                      refine l_istore rfl rfl rfl ?_
                      refine l_iload rfl rfl ?_
                      refine l_iload rfl rfl ?_
                      refine l_if_eq rfl rfl (by unfold rg; omega) (fun w94 => absurd w94 (by omega)) (fun w95 => ?_)
                      · refine l_aload_n rfl rfl ?_
                        refine l_gfr rfl rfl rfl rfl rfl (hHU5.r 904 4 907 rfl) ?_
                        refine l_iload rfl rfl ?_
                        refine l_iaload (n := 5002) rfl rfl (by omega) (by omega) (by unfold rg; omega) ?_
                        have w96 : (Xi U5 907 ((v8).toNat)) = (Xi T2 907 ((v8).toNat)) := (show Xi U5 907 ((v8).toNat) = Xi T2 907 ((v8).toNat) from by rw [eU5]; exact Xi_ne (by omega))
                        rw [w96]
                        refine l_bipush rfl rfl ?_
                        refine l_icmp_ne rfl rfl (by unfold rg; omega) (by unfold rg; omega) (fun w97 => ?_) (fun w98 => ?_)
                        · refine l_iconst rfl ?_
                          refine l_iadd rfl ?_
                          refine l_istore rfl rfl rfl ?_
                          refine l_goto rfl rfl ?_
                          exact Rl_weak (ih9 _ (by omega) U5 hHU5 hFU5 ((v5 + 1)) (((v8 + 1) + 0)) (1) (by omega) (by omega) (by omega) (by omega) (by omega) (by omega) (by omega) rfl) (And.intro rfl (And.intro rfl (And.intro rfl (And.intro rfl (And.intro rfl (And.intro rfl (And.intro rfl (True.intro))))))))
                        · refine l_iload rfl rfl ?_
                          refine l_iload_n rfl rfl ?_
                          refine l_icmp_ge rfl rfl (by unfold rg; omega) (by unfold rg; omega) (fun w99 => ?_) (fun w100 => ?_)
                          · refine l_iconst rfl ?_
                            refine l_iadd rfl ?_
                            refine l_istore rfl rfl rfl ?_
                            refine l_goto rfl rfl ?_
                            exact Rl_weak (ih9 _ (by omega) U5 hHU5 hFU5 ((v5 + 1)) (((v8 + 1) + 0)) (1) (by omega) (by omega) (by omega) (by omega) (by omega) (by omega) (by omega) rfl) (And.intro rfl (And.intro rfl (And.intro rfl (And.intro rfl (And.intro rfl (And.intro rfl (And.intro rfl (True.intro))))))))
                          · refine l_aload_n rfl rfl ?_
                            refine l_gfr rfl rfl rfl rfl rfl (hHU5.r 904 4 907 rfl) ?_
                            refine l_iload rfl rfl ?_
                            refine l_iaload (n := 5002) rfl rfl (by omega) (by omega) (by unfold rg; omega) ?_
                            have w101 : 0 ≤ (Xi U5 907 (((v8 + 1)).toNat)) ∧ (Xi U5 907 (((v8 + 1)).toNat)) ≤ 154 := hHU5.c _ _
                            refine l_bipush rfl rfl ?_
                            refine l_icmp_ne rfl rfl (by unfold rg; omega) (by unfold rg; omega) (fun w102 => ?_) (fun w103 => ?_)
                            · refine l_iconst rfl ?_
                              refine l_iadd rfl ?_
                              refine l_istore rfl rfl rfl ?_
                              refine l_goto rfl rfl ?_
                              exact Rl_weak (ih9 _ (by omega) U5 hHU5 hFU5 ((v5 + 1)) (((v8 + 1) + 0)) (1) (by omega) (by omega) (by omega) (by omega) (by omega) (by omega) (by omega) rfl) (And.intro rfl (And.intro rfl (And.intro rfl (And.intro rfl (And.intro rfl (And.intro rfl (And.intro rfl (True.intro))))))))
                            · refine l_iconst rfl ?_
                              refine l_goto rfl rfl ?_
                              refine l_iadd rfl ?_
                              refine l_istore rfl rfl rfl ?_
                              refine l_goto rfl rfl ?_
                              exact Rl_weak (ih9 _ (by omega) U5 hHU5 hFU5 ((v5 + 1)) (((v8 + 1) + 1)) (1) (by omega) (by omega) (by omega) (by omega) (by omega) (by omega) (by omega) rfl) (And.intro rfl (And.intro rfl (And.intro rfl (And.intro rfl (And.intro rfl (And.intro rfl (And.intro rfl (True.intro))))))))
                  · refine l_iconst rfl ?_
                    refine l_ireturn rfl rfl ?_
                    exact ⟨hHT2, hFT2, _, rfl, ⟨by omega, by omega⟩⟩
              · refine l_iinc rfl rfl rfl rfl ?_
                refine l_goto rfl rfl ?_
                exact Rl_weak (ih18 _ (by omega) T2 hHT2 hFT2 (v5) (v6) ((v8 + 1)) (by omega) (by omega) (by omega) (by omega) (by omega) (by omega) (by omega) (by omega) (by omega) rfl) (And.intro rfl (And.intro rfl (And.intro rfl (And.intro rfl (And.intro rfl (And.intro rfl (And.intro rfl (True.intro))))))))
      refine l_iload rfl rfl ?_
      refine l_if_eq rfl rfl (by unfold rg; omega) (fun w104 => ?_) (fun w105 => ?_)
      · refine l_iload rfl rfl ?_
        refine l_ireturn rfl rfl ?_
        exact ⟨hHT1, hFT1, _, rfl, ⟨by omega, by omega⟩⟩
      · refine l_iload rfl rfl ?_
        refine l_istore rfl rfl rfl ?_
        exact Rl_weak (C18 _ T1 hHT1 hFT1 (v5) (v6) (v6) (by omega) (by omega) (by omega) (by omega) (by omega) (by omega) (by omega) (by omega) (by omega) rfl) (And.intro rfl (And.intro rfl (And.intro rfl (And.intro rfl (And.intro rfl (And.intro rfl (And.intro rfl (True.intro))))))))
  refine l_iconst rfl ?_
  refine l_istore rfl rfl rfl ?_
  refine l_iload_n rfl rfl ?_
  refine l_istore rfl rfl rfl ?_
  refine l_iconst rfl ?_
  refine l_istore rfl rfl rfl ?_
  exact Rl_weak (C9 _ S hH hF (0) (from_) (1) (by omega) (by omega) (by omega) (by omega) (by omega) (by omega) (by omega) rfl) (And.intro rfl (And.intro rfl (And.intro rfl (And.intro rfl (And.intro rfl (And.intro rfl (And.intro rfl (True.intro))))))))
def md_mo_listOf__3 : List rec := [(988, 989, 0, 100000), (989, 990, 0, 100000), (990, 991, 0, 100000)]
abbrev Q_mo_listOf__3 (S : sS) (from_ : Int) (to : Int) (kind : Int) : pst := fun r S1 => HI S1 ∧ FR md_mo_listOf__3 S S1 ∧ (∃ z : Int, r = some (iv z) ∧ (0 ≤ z ∧ z ≤ 2600))
set_option maxRecDepth 100000 in
theorem t_mo_listOf__3 {S : sS} (hH : HI S) (from_ : Int) (to : Int) (kind : Int) (hfrom_ : 0 ≤ from_ ∧ from_ ≤ 5001) (hto : 0 ≤ to ∧ to ≤ 5001) (hkind : 0 ≤ kind ∧ kind ≤ 15) (hM : LXM S) (hB : ABV S) (hft : from_ ≤ to) (d : Nat) : Mt lay0 (d + 5) m_mo_listOf [.ref 904, iv from_, iv to, .ref 990, iv kind] S (Q_mo_listOf__3 S from_ to kind) := by
  refine Mt_R rfl rfl ?_
  have hF : FR md_mo_listOf__3 S S := FR.rf
  have hc19 : 0 ≤ Xi S 904 19 ∧ Xi S 904 19 ≤ 24 := hH.c _ _
  have C9 : ∀ (n9 : Nat) (T1 : sS) (_ : HI T1) (_ : FR md_mo_listOf__3 S T1) (v5 : Int) (v6 : Int) (v7 : Int), (0 ≤ v5 ∧ v5 ≤ 2600) → (0 ≤ v6 ∧ v6 ≤ 5002) → (0 ≤ v7 ∧ v7 ≤ 1) → (from_ ≤ v6) → (v6 ≤ to + 1) → (v7 = 1 → v6 ≤ to) → (2 * v5 ≤ v6 - from_) → n9 = (6000 * v7 - v6).toNat → Rl lay0 (d + 4) m_mo_listOf 9 [(0, .ref 904), (2, iv to), (3, .ref 990), (4, iv kind), (5, iv v5), (6, iv v6), (7, iv v7)] [] T1 (Q_mo_listOf__3 S from_ to kind) := by
    intro n9
    induction n9 using Nat.strongRecOn with
    | ind n9 ih9 =>
      intro T1 hHT1 hFT1 v5 v6 v7 w1 w2 w3 w4 w5 w6 w7 hm9
      have w8 : Xi T1 904 19 = Xi S 904 19 := hFT1.x _ _ rfl
      have C18 : ∀ (n18 : Nat) (T2 : sS) (_ : HI T2) (_ : FR md_mo_listOf__3 S T2) (v5 : Int) (v6 : Int) (v8 : Int), (0 ≤ v5 ∧ v5 ≤ 2600) → (0 ≤ v6 ∧ v6 ≤ 5002) → (0 ≤ v8 ∧ v8 ≤ 5001) → (from_ ≤ v6) → (v6 ≤ to) → (2 * v5 ≤ v6 - from_) → (v6 ≤ v8) → (v8 ≤ to) → ((6000 - v6).toNat ≤ n9) → n18 = (5002 - v8).toNat → Rl lay0 (d + 4) m_mo_listOf 18 [(0, .ref 904), (2, iv to), (3, .ref 990), (4, iv kind), (5, iv v5), (6, iv v6), (8, iv v8)] [] T2 (Q_mo_listOf__3 S from_ to kind) := by
        intro n18
        induction n18 using Nat.strongRecOn with
        | ind n18 ih18 =>
          intro T2 hHT2 hFT2 v5 v6 v8 w9 w10 w11 w12 w13 w14 w15 w16 w17 hm18
          have w18 : Xi T2 904 19 = Xi S 904 19 := hFT2.x _ _ rfl
          refine l_iload rfl rfl ?_
          refine l_iload_n rfl rfl ?_
          refine l_icmp_ge rfl rfl (by unfold rg; omega) (by unfold rg; omega) (fun w19 => ?_) (fun w20 => ?_)
          · refine l_aload_n rfl rfl ?_
            refine l_iload rfl rfl ?_
            refine l_iload rfl rfl ?_
            have w21 : 0 ≤ Xi T2 904 19 ∧ Xi T2 904 19 ≤ 24 := hHT2.c _ _
            refine l_callV rfl rfl rfl (t_mo_objectOf__2 hHT2 v6 v8 ⟨by omega, by omega⟩ ⟨by omega, by omega⟩ (by first | assumption | exact (LXM_FR hFT2 rfl (by assumption : LXM S))) _) ?_
            rintro _ _ ⟨rfl, z24, rfl, w24, w22, w23⟩
            show Rl _ _ _ _ _ [iv z24] _ _
            refine l_istore rfl rfl rfl ?_
            refine l_iload rfl rfl ?_
            refine l_bipush rfl rfl ?_
            refine l_icmp_eq rfl rfl (by unfold rg; omega) (by unfold rg; omega) (fun w25 => ?_) (fun w26 => ?_)
            · refine l_iconst rfl ?_
              refine l_ireturn rfl rfl ?_
              exact ⟨hHT2, hFT2, _, rfl, ⟨by omega, by omega⟩⟩
            · refine l_aload_n rfl rfl ?_
              refine l_aload_n rfl rfl ?_
              refine l_gfr rfl rfl rfl rfl rfl (hHT2.r 904 20 918 rfl) ?_
              refine l_iload rfl rfl ?_
              refine l_iaload (n := 24) rfl rfl (by omega) (by omega) (by unfold rg; omega) ?_
              have w27 : 0 ≤ (Xi T2 918 ((z24).toNat)) ∧ (Xi T2 918 ((z24).toNat)) ≤ 15 := hHT2.c _ _
              refine l_iload rfl rfl ?_
              refine l_callV rfl rfl rfl (t_mo_isBelow hHT2 (Xi T2 918 ((z24).toNat)) kind ⟨by omega, by omega⟩ ⟨by omega, by omega⟩ (by first | assumption | exact (ABV_FR hFT2 rfl (by assumption : ABV S))) _) ?_
              rintro _ _ ⟨rfl, z29, rfl, w29, w28⟩
              show Rl _ _ _ _ _ [iv z29] _ _
              refine l_if_ne rfl rfl (by unfold rg; omega) (fun w30 => ?_) (fun w31 => ?_)
              · refine l_aload_n rfl rfl ?_
                refine l_iload rfl rfl ?_
                refine l_iload rfl rfl ?_
                refine l_iastore (n := 2600) rfl rfl (by omega) (by omega) (by unfold rg; omega) ?_
                obtain ⟨U3, eU3⟩ : ∃ T : sS, T = uI T2 990 ((v5).toNat) (Int32.ofInt z24) := ⟨_, rfl⟩
                rw [← eU3]
                have hHU3 : HI U3 := by rw [eU3]; exact HI_w hHT2 (show 0 ≤ z24 by omega) (show z24 ≤ 23 by omega)
                have hFU3 : FR md_mo_listOf__3 S U3 := by rw [eU3]; exact FR.wI hFT2 (mdf_i (r := (990, 991, 0, 100000)) (List.mem_of_getElem? (i := 2) rfl) (inR_i (by omega) (by omega) (by omega) (by omega)))
                have w32 : Xi U3 990 ((v5).toNat) = z24 := by rw [eU3]; exact Xi_same (by unfold rg; omega)
                refine l_iinc rfl rfl rfl rfl ?_
                refine l_iload rfl rfl ?_
                refine l_iload_n rfl rfl ?_
                refine l_icmp_ge rfl rfl (by unfold rg; omega) (by unfold rg; omega) (fun w33 => ?_) (fun w34 => ?_)
                · refine l_iconst rfl ?_
                  refine l_istore rfl rfl rfl ?_
                  refine l_iload rfl rfl ?_
                  refine l_iconst rfl ?_
                  refine l_iadd rfl ?_
                  refine l_istore rfl rfl rfl ?_
                  refine l_iload rfl rfl ?_
                  refine l_iload rfl rfl ?_
                  refine l_if_eq rfl rfl (by unfold rg; omega) (fun w35 => ?_) (fun w36 => absurd w36 (by omega))
                  · refine l_iconst rfl ?_
                    refine l_iadd rfl ?_
                    refine l_istore rfl rfl rfl ?_
                    refine l_goto rfl rfl ?_
                    exact Rl_weak (ih9 _ (by omega) U3 hHU3 hFU3 ((v5 + 1)) (((v8 + 1) + 0)) (0) (by omega) (by omega) (by omega) (by omega) (by omega) (by omega) (by omega) rfl) (And.intro rfl (And.intro rfl (And.intro rfl (And.intro rfl (And.intro rfl (And.intro rfl (And.intro rfl (True.intro))))))))
                · refine l_iconst rfl ?_
                  refine l_goto rfl rfl ?_
                  refine l_istore rfl rfl rfl ?_
                  refine l_iload rfl rfl ?_
                  refine l_iconst rfl ?_
                  refine l_iadd rfl ?_
                  refine l_istore rfl rfl rfl ?_
                  refine l_iload rfl rfl ?_
                  refine l_iload rfl rfl ?_
                  refine l_if_eq rfl rfl (by unfold rg; omega) (fun w37 => absurd w37 (by omega)) (fun w38 => ?_)
                  · refine l_aload_n rfl rfl ?_
                    refine l_gfr rfl rfl rfl rfl rfl (hHU3.r 904 4 907 rfl) ?_
                    refine l_iload rfl rfl ?_
                    refine l_iaload (n := 5002) rfl rfl (by omega) (by omega) (by unfold rg; omega) ?_
                    have w39 : 0 ≤ (Xi U3 907 ((v8).toNat)) ∧ (Xi U3 907 ((v8).toNat)) ≤ 154 := hHU3.c _ _
                    refine l_bipush rfl rfl ?_
                    refine l_icmp_ne rfl rfl (by unfold rg; omega) (by unfold rg; omega) (fun w40 => ?_) (fun w41 => ?_)
                    · refine l_iconst rfl ?_
                      refine l_iadd rfl ?_
                      refine l_istore rfl rfl rfl ?_
                      refine l_goto rfl rfl ?_
                      exact Rl_weak (ih9 _ (by omega) U3 hHU3 hFU3 ((v5 + 1)) (((v8 + 1) + 0)) (1) (by omega) (by omega) (by omega) (by omega) (by omega) (by omega) (by omega) rfl) (And.intro rfl (And.intro rfl (And.intro rfl (And.intro rfl (And.intro rfl (And.intro rfl (And.intro rfl (True.intro))))))))
                    · refine l_iload rfl rfl ?_
                      refine l_iload_n rfl rfl ?_
                      refine l_icmp_ge rfl rfl (by unfold rg; omega) (by unfold rg; omega) (fun w42 => ?_) (fun w43 => ?_)
                      · refine l_iconst rfl ?_
                        refine l_iadd rfl ?_
                        refine l_istore rfl rfl rfl ?_
                        refine l_goto rfl rfl ?_
                        exact Rl_weak (ih9 _ (by omega) U3 hHU3 hFU3 ((v5 + 1)) (((v8 + 1) + 0)) (1) (by omega) (by omega) (by omega) (by omega) (by omega) (by omega) (by omega) rfl) (And.intro rfl (And.intro rfl (And.intro rfl (And.intro rfl (And.intro rfl (And.intro rfl (And.intro rfl (True.intro))))))))
                      · refine l_aload_n rfl rfl ?_
                        refine l_gfr rfl rfl rfl rfl rfl (hHU3.r 904 4 907 rfl) ?_
                        refine l_iload rfl rfl ?_
                        refine l_iaload (n := 5002) rfl rfl (by omega) (by omega) (by unfold rg; omega) ?_
                        have w44 : 0 ≤ (Xi U3 907 (((v8 + 1)).toNat)) ∧ (Xi U3 907 (((v8 + 1)).toNat)) ≤ 154 := hHU3.c _ _
                        refine l_bipush rfl rfl ?_
                        refine l_icmp_ne rfl rfl (by unfold rg; omega) (by unfold rg; omega) (fun w45 => ?_) (fun w46 => ?_)
                        · refine l_iconst rfl ?_
                          refine l_iadd rfl ?_
                          refine l_istore rfl rfl rfl ?_
                          refine l_goto rfl rfl ?_
                          exact Rl_weak (ih9 _ (by omega) U3 hHU3 hFU3 ((v5 + 1)) (((v8 + 1) + 0)) (1) (by omega) (by omega) (by omega) (by omega) (by omega) (by omega) (by omega) rfl) (And.intro rfl (And.intro rfl (And.intro rfl (And.intro rfl (And.intro rfl (And.intro rfl (And.intro rfl (True.intro))))))))
                        · refine l_iconst rfl ?_
                          refine l_goto rfl rfl ?_
                          refine l_iadd rfl ?_
                          refine l_istore rfl rfl rfl ?_
                          refine l_goto rfl rfl ?_
                          exact Rl_weak (ih9 _ (by omega) U3 hHU3 hFU3 ((v5 + 1)) (((v8 + 1) + 1)) (1) (by omega) (by omega) (by omega) (by omega) (by omega) (by omega) (by omega) rfl) (And.intro rfl (And.intro rfl (And.intro rfl (And.intro rfl (And.intro rfl (And.intro rfl (And.intro rfl (True.intro))))))))
              · refine l_iconst rfl ?_
                refine l_ireturn rfl rfl ?_
                exact ⟨hHT2, hFT2, _, rfl, ⟨by omega, by omega⟩⟩
          · refine l_aload_n rfl rfl ?_
            refine l_gfr rfl rfl rfl rfl rfl (hHT2.r 904 4 907 rfl) ?_
            refine l_iload rfl rfl ?_
            refine l_iaload (n := 5002) rfl rfl (by omega) (by omega) (by unfold rg; omega) ?_
            have w47 : 0 ≤ (Xi T2 907 ((v8).toNat)) ∧ (Xi T2 907 ((v8).toNat)) ≤ 154 := hHT2.c _ _
            refine l_bipush rfl rfl ?_
            refine l_icmp_eq rfl rfl (by unfold rg; omega) (by unfold rg; omega) (fun w48 => ?_) (fun w49 => ?_)
            · refine l_aload_n rfl rfl ?_
              refine l_iload rfl rfl ?_
              refine l_iload rfl rfl ?_
              have w50 : 0 ≤ Xi T2 904 19 ∧ Xi T2 904 19 ≤ 24 := hHT2.c _ _
              refine l_callV rfl rfl rfl (t_mo_objectOf__2 hHT2 v6 v8 ⟨by omega, by omega⟩ ⟨by omega, by omega⟩ (by first | assumption | exact (LXM_FR hFT2 rfl (by assumption : LXM S))) _) ?_
              rintro _ _ ⟨rfl, z53, rfl, w53, w51, w52⟩
              show Rl _ _ _ _ _ [iv z53] _ _
              refine l_istore rfl rfl rfl ?_
              refine l_iload rfl rfl ?_
              refine l_bipush rfl rfl ?_
              refine l_icmp_eq rfl rfl (by unfold rg; omega) (by unfold rg; omega) (fun w54 => ?_) (fun w55 => ?_)
              · refine l_iconst rfl ?_
                refine l_ireturn rfl rfl ?_
                exact ⟨hHT2, hFT2, _, rfl, ⟨by omega, by omega⟩⟩
              · refine l_aload_n rfl rfl ?_
                refine l_aload_n rfl rfl ?_
                refine l_gfr rfl rfl rfl rfl rfl (hHT2.r 904 20 918 rfl) ?_
                refine l_iload rfl rfl ?_
                refine l_iaload (n := 24) rfl rfl (by omega) (by omega) (by unfold rg; omega) ?_
                have w56 : 0 ≤ (Xi T2 918 ((z53).toNat)) ∧ (Xi T2 918 ((z53).toNat)) ≤ 15 := hHT2.c _ _
                refine l_iload rfl rfl ?_
                refine l_callV rfl rfl rfl (t_mo_isBelow hHT2 (Xi T2 918 ((z53).toNat)) kind ⟨by omega, by omega⟩ ⟨by omega, by omega⟩ (by first | assumption | exact (ABV_FR hFT2 rfl (by assumption : ABV S))) _) ?_
                rintro _ _ ⟨rfl, z58, rfl, w58, w57⟩
                show Rl _ _ _ _ _ [iv z58] _ _
                refine l_if_ne rfl rfl (by unfold rg; omega) (fun w59 => ?_) (fun w60 => ?_)
                · refine l_aload_n rfl rfl ?_
                  refine l_iload rfl rfl ?_
                  refine l_iload rfl rfl ?_
                  refine l_iastore (n := 2600) rfl rfl (by omega) (by omega) (by unfold rg; omega) ?_
                  obtain ⟨U4, eU4⟩ : ∃ T : sS, T = uI T2 990 ((v5).toNat) (Int32.ofInt z53) := ⟨_, rfl⟩
                  rw [← eU4]
                  have hHU4 : HI U4 := by rw [eU4]; exact HI_w hHT2 (show 0 ≤ z53 by omega) (show z53 ≤ 23 by omega)
                  have hFU4 : FR md_mo_listOf__3 S U4 := by rw [eU4]; exact FR.wI hFT2 (mdf_i (r := (990, 991, 0, 100000)) (List.mem_of_getElem? (i := 2) rfl) (inR_i (by omega) (by omega) (by omega) (by omega)))
                  have w61 : Xi U4 990 ((v5).toNat) = z53 := by rw [eU4]; exact Xi_same (by unfold rg; omega)
                  refine l_iinc rfl rfl rfl rfl ?_
                  refine l_iload rfl rfl ?_
                  refine l_iload_n rfl rfl ?_
                  refine l_icmp_ge rfl rfl (by unfold rg; omega) (by unfold rg; omega) (fun w62 => ?_) (fun w63 => ?_)
                  · refine l_iconst rfl ?_
                    refine l_istore rfl rfl rfl ?_
                    refine l_iload rfl rfl ?_
                    refine l_iconst rfl ?_
                    refine l_iadd rfl ?_
                    refine l_istore rfl rfl rfl ?_
                    refine l_iload rfl rfl ?_
                    refine l_iload rfl rfl ?_
                    refine l_if_eq rfl rfl (by unfold rg; omega) (fun w64 => ?_) (fun w65 => absurd w65 (by omega))
                    · refine l_iconst rfl ?_
                      refine l_iadd rfl ?_
                      refine l_istore rfl rfl rfl ?_
                      refine l_goto rfl rfl ?_
                      exact Rl_weak (ih9 _ (by omega) U4 hHU4 hFU4 ((v5 + 1)) (((v8 + 1) + 0)) (0) (by omega) (by omega) (by omega) (by omega) (by omega) (by omega) (by omega) rfl) (And.intro rfl (And.intro rfl (And.intro rfl (And.intro rfl (And.intro rfl (And.intro rfl (And.intro rfl (True.intro))))))))
                  · refine l_iconst rfl ?_
                    refine l_goto rfl rfl ?_
                    refine l_istore rfl rfl rfl ?_
                    refine l_iload rfl rfl ?_
                    refine l_iconst rfl ?_
                    refine l_iadd rfl ?_
                    refine l_istore rfl rfl rfl ?_
                    refine l_iload rfl rfl ?_
                    refine l_iload rfl rfl ?_
                    refine l_if_eq rfl rfl (by unfold rg; omega) (fun w66 => absurd w66 (by omega)) (fun w67 => ?_)
                    · refine l_aload_n rfl rfl ?_
                      refine l_gfr rfl rfl rfl rfl rfl (hHU4.r 904 4 907 rfl) ?_
                      refine l_iload rfl rfl ?_
                      refine l_iaload (n := 5002) rfl rfl (by omega) (by omega) (by unfold rg; omega) ?_
                      have w68 : (Xi U4 907 ((v8).toNat)) = (Xi T2 907 ((v8).toNat)) := (show Xi U4 907 ((v8).toNat) = Xi T2 907 ((v8).toNat) from by rw [eU4]; exact Xi_ne (by omega))
                      rw [w68]
                      refine l_bipush rfl rfl ?_
                      refine l_icmp_ne rfl rfl (by unfold rg; omega) (by unfold rg; omega) (fun w69 => ?_) (fun w70 => ?_)
                      · refine l_iconst rfl ?_
                        refine l_iadd rfl ?_
                        refine l_istore rfl rfl rfl ?_
                        refine l_goto rfl rfl ?_
                        exact Rl_weak (ih9 _ (by omega) U4 hHU4 hFU4 ((v5 + 1)) (((v8 + 1) + 0)) (1) (by omega) (by omega) (by omega) (by omega) (by omega) (by omega) (by omega) rfl) (And.intro rfl (And.intro rfl (And.intro rfl (And.intro rfl (And.intro rfl (And.intro rfl (And.intro rfl (True.intro))))))))
                      · refine l_iload rfl rfl ?_
                        refine l_iload_n rfl rfl ?_
                        refine l_icmp_ge rfl rfl (by unfold rg; omega) (by unfold rg; omega) (fun w71 => ?_) (fun w72 => ?_)
                        · refine l_iconst rfl ?_
                          refine l_iadd rfl ?_
                          refine l_istore rfl rfl rfl ?_
                          refine l_goto rfl rfl ?_
                          exact Rl_weak (ih9 _ (by omega) U4 hHU4 hFU4 ((v5 + 1)) (((v8 + 1) + 0)) (1) (by omega) (by omega) (by omega) (by omega) (by omega) (by omega) (by omega) rfl) (And.intro rfl (And.intro rfl (And.intro rfl (And.intro rfl (And.intro rfl (And.intro rfl (And.intro rfl (True.intro))))))))
                        · refine l_aload_n rfl rfl ?_
                          refine l_gfr rfl rfl rfl rfl rfl (hHU4.r 904 4 907 rfl) ?_
                          refine l_iload rfl rfl ?_
                          refine l_iaload (n := 5002) rfl rfl (by omega) (by omega) (by unfold rg; omega) ?_
                          have w73 : 0 ≤ (Xi U4 907 (((v8 + 1)).toNat)) ∧ (Xi U4 907 (((v8 + 1)).toNat)) ≤ 154 := hHU4.c _ _
                          refine l_bipush rfl rfl ?_
                          refine l_icmp_ne rfl rfl (by unfold rg; omega) (by unfold rg; omega) (fun w74 => ?_) (fun w75 => ?_)
                          · refine l_iconst rfl ?_
                            refine l_iadd rfl ?_
                            refine l_istore rfl rfl rfl ?_
                            refine l_goto rfl rfl ?_
                            exact Rl_weak (ih9 _ (by omega) U4 hHU4 hFU4 ((v5 + 1)) (((v8 + 1) + 0)) (1) (by omega) (by omega) (by omega) (by omega) (by omega) (by omega) (by omega) rfl) (And.intro rfl (And.intro rfl (And.intro rfl (And.intro rfl (And.intro rfl (And.intro rfl (And.intro rfl (True.intro))))))))
                          · refine l_iconst rfl ?_
                            refine l_goto rfl rfl ?_
                            refine l_iadd rfl ?_
                            refine l_istore rfl rfl rfl ?_
                            refine l_goto rfl rfl ?_
                            exact Rl_weak (ih9 _ (by omega) U4 hHU4 hFU4 ((v5 + 1)) (((v8 + 1) + 1)) (1) (by omega) (by omega) (by omega) (by omega) (by omega) (by omega) (by omega) rfl) (And.intro rfl (And.intro rfl (And.intro rfl (And.intro rfl (And.intro rfl (And.intro rfl (And.intro rfl (True.intro))))))))
                · refine l_iconst rfl ?_
                  refine l_ireturn rfl rfl ?_
                  exact ⟨hHT2, hFT2, _, rfl, ⟨by omega, by omega⟩⟩
            · refine l_aload_n rfl rfl ?_
              refine l_gfr rfl rfl rfl rfl rfl (hHT2.r 904 4 907 rfl) ?_
              refine l_iload rfl rfl ?_
              refine l_iaload (n := 5002) rfl rfl (by omega) (by omega) (by unfold rg; omega) ?_
              refine l_bipush rfl rfl ?_
              refine l_icmp_eq rfl rfl (by unfold rg; omega) (by unfold rg; omega) (fun w76 => ?_) (fun w77 => ?_)
              · refine l_aload_n rfl rfl ?_
                refine l_iload rfl rfl ?_
                refine l_iload rfl rfl ?_
                have w78 : 0 ≤ Xi T2 904 19 ∧ Xi T2 904 19 ≤ 24 := hHT2.c _ _
                refine l_callV rfl rfl rfl (t_mo_objectOf__2 hHT2 v6 v8 ⟨by omega, by omega⟩ ⟨by omega, by omega⟩ (by first | assumption | exact (LXM_FR hFT2 rfl (by assumption : LXM S))) _) ?_
                rintro _ _ ⟨rfl, z81, rfl, w81, w79, w80⟩
                show Rl _ _ _ _ _ [iv z81] _ _
                refine l_istore rfl rfl rfl ?_
                refine l_iload rfl rfl ?_
                refine l_bipush rfl rfl ?_
                refine l_icmp_eq rfl rfl (by unfold rg; omega) (by unfold rg; omega) (fun w82 => ?_) (fun w83 => ?_)
                · refine l_iconst rfl ?_
                  refine l_ireturn rfl rfl ?_
                  exact ⟨hHT2, hFT2, _, rfl, ⟨by omega, by omega⟩⟩
                · refine l_aload_n rfl rfl ?_
                  refine l_aload_n rfl rfl ?_
                  refine l_gfr rfl rfl rfl rfl rfl (hHT2.r 904 20 918 rfl) ?_
                  refine l_iload rfl rfl ?_
                  refine l_iaload (n := 24) rfl rfl (by omega) (by omega) (by unfold rg; omega) ?_
                  have w84 : 0 ≤ (Xi T2 918 ((z81).toNat)) ∧ (Xi T2 918 ((z81).toNat)) ≤ 15 := hHT2.c _ _
                  refine l_iload rfl rfl ?_
                  refine l_callV rfl rfl rfl (t_mo_isBelow hHT2 (Xi T2 918 ((z81).toNat)) kind ⟨by omega, by omega⟩ ⟨by omega, by omega⟩ (by first | assumption | exact (ABV_FR hFT2 rfl (by assumption : ABV S))) _) ?_
                  rintro _ _ ⟨rfl, z86, rfl, w86, w85⟩
                  show Rl _ _ _ _ _ [iv z86] _ _
                  refine l_if_ne rfl rfl (by unfold rg; omega) (fun w87 => ?_) (fun w88 => ?_)
                  · refine l_aload_n rfl rfl ?_
                    refine l_iload rfl rfl ?_
                    refine l_iload rfl rfl ?_
                    refine l_iastore (n := 2600) rfl rfl (by omega) (by omega) (by unfold rg; omega) ?_
                    obtain ⟨U5, eU5⟩ : ∃ T : sS, T = uI T2 990 ((v5).toNat) (Int32.ofInt z81) := ⟨_, rfl⟩
                    rw [← eU5]
                    have hHU5 : HI U5 := by rw [eU5]; exact HI_w hHT2 (show 0 ≤ z81 by omega) (show z81 ≤ 23 by omega)
                    have hFU5 : FR md_mo_listOf__3 S U5 := by rw [eU5]; exact FR.wI hFT2 (mdf_i (r := (990, 991, 0, 100000)) (List.mem_of_getElem? (i := 2) rfl) (inR_i (by omega) (by omega) (by omega) (by omega)))
                    have w89 : Xi U5 990 ((v5).toNat) = z81 := by rw [eU5]; exact Xi_same (by unfold rg; omega)
                    refine l_iinc rfl rfl rfl rfl ?_
                    refine l_iload rfl rfl ?_
                    refine l_iload_n rfl rfl ?_
                    refine l_icmp_ge rfl rfl (by unfold rg; omega) (by unfold rg; omega) (fun w90 => ?_) (fun w91 => ?_)
                    · refine l_iconst rfl ?_
                      refine l_istore rfl rfl rfl ?_
                      refine l_iload rfl rfl ?_
                      refine l_iconst rfl ?_
                      refine l_iadd rfl ?_
                      refine l_istore rfl rfl rfl ?_
                      refine l_iload rfl rfl ?_
                      refine l_iload rfl rfl ?_
                      refine l_if_eq rfl rfl (by unfold rg; omega) (fun w92 => ?_) (fun w93 => absurd w93 (by omega))
                      · refine l_iconst rfl ?_
                        refine l_iadd rfl ?_
                        refine l_istore rfl rfl rfl ?_
                        refine l_goto rfl rfl ?_
                        exact Rl_weak (ih9 _ (by omega) U5 hHU5 hFU5 ((v5 + 1)) (((v8 + 1) + 0)) (0) (by omega) (by omega) (by omega) (by omega) (by omega) (by omega) (by omega) rfl) (And.intro rfl (And.intro rfl (And.intro rfl (And.intro rfl (And.intro rfl (And.intro rfl (And.intro rfl (True.intro))))))))
                    · refine l_iconst rfl ?_
                      refine l_goto rfl rfl ?_
                      refine l_istore rfl rfl rfl ?_
                      refine l_iload rfl rfl ?_
                      refine l_iconst rfl ?_
                      refine l_iadd rfl ?_
                      refine l_istore rfl rfl rfl ?_
                      refine l_iload rfl rfl ?_
                      refine l_iload rfl rfl ?_
                      refine l_if_eq rfl rfl (by unfold rg; omega) (fun w94 => absurd w94 (by omega)) (fun w95 => ?_)
                      · refine l_aload_n rfl rfl ?_
                        refine l_gfr rfl rfl rfl rfl rfl (hHU5.r 904 4 907 rfl) ?_
                        refine l_iload rfl rfl ?_
                        refine l_iaload (n := 5002) rfl rfl (by omega) (by omega) (by unfold rg; omega) ?_
                        have w96 : (Xi U5 907 ((v8).toNat)) = (Xi T2 907 ((v8).toNat)) := (show Xi U5 907 ((v8).toNat) = Xi T2 907 ((v8).toNat) from by rw [eU5]; exact Xi_ne (by omega))
                        rw [w96]
                        refine l_bipush rfl rfl ?_
                        refine l_icmp_ne rfl rfl (by unfold rg; omega) (by unfold rg; omega) (fun w97 => ?_) (fun w98 => ?_)
                        · refine l_iconst rfl ?_
                          refine l_iadd rfl ?_
                          refine l_istore rfl rfl rfl ?_
                          refine l_goto rfl rfl ?_
                          exact Rl_weak (ih9 _ (by omega) U5 hHU5 hFU5 ((v5 + 1)) (((v8 + 1) + 0)) (1) (by omega) (by omega) (by omega) (by omega) (by omega) (by omega) (by omega) rfl) (And.intro rfl (And.intro rfl (And.intro rfl (And.intro rfl (And.intro rfl (And.intro rfl (And.intro rfl (True.intro))))))))
                        · refine l_iload rfl rfl ?_
                          refine l_iload_n rfl rfl ?_
                          refine l_icmp_ge rfl rfl (by unfold rg; omega) (by unfold rg; omega) (fun w99 => ?_) (fun w100 => ?_)
                          · refine l_iconst rfl ?_
                            refine l_iadd rfl ?_
                            refine l_istore rfl rfl rfl ?_
                            refine l_goto rfl rfl ?_
                            exact Rl_weak (ih9 _ (by omega) U5 hHU5 hFU5 ((v5 + 1)) (((v8 + 1) + 0)) (1) (by omega) (by omega) (by omega) (by omega) (by omega) (by omega) (by omega) rfl) (And.intro rfl (And.intro rfl (And.intro rfl (And.intro rfl (And.intro rfl (And.intro rfl (And.intro rfl (True.intro))))))))
                          · refine l_aload_n rfl rfl ?_
                            refine l_gfr rfl rfl rfl rfl rfl (hHU5.r 904 4 907 rfl) ?_
                            refine l_iload rfl rfl ?_
                            refine l_iaload (n := 5002) rfl rfl (by omega) (by omega) (by unfold rg; omega) ?_
                            have w101 : 0 ≤ (Xi U5 907 (((v8 + 1)).toNat)) ∧ (Xi U5 907 (((v8 + 1)).toNat)) ≤ 154 := hHU5.c _ _
                            refine l_bipush rfl rfl ?_
                            refine l_icmp_ne rfl rfl (by unfold rg; omega) (by unfold rg; omega) (fun w102 => ?_) (fun w103 => ?_)
                            · refine l_iconst rfl ?_
                              refine l_iadd rfl ?_
                              refine l_istore rfl rfl rfl ?_
                              refine l_goto rfl rfl ?_
                              exact Rl_weak (ih9 _ (by omega) U5 hHU5 hFU5 ((v5 + 1)) (((v8 + 1) + 0)) (1) (by omega) (by omega) (by omega) (by omega) (by omega) (by omega) (by omega) rfl) (And.intro rfl (And.intro rfl (And.intro rfl (And.intro rfl (And.intro rfl (And.intro rfl (And.intro rfl (True.intro))))))))
                            · refine l_iconst rfl ?_
                              refine l_goto rfl rfl ?_
                              refine l_iadd rfl ?_
                              refine l_istore rfl rfl rfl ?_
                              refine l_goto rfl rfl ?_
                              exact Rl_weak (ih9 _ (by omega) U5 hHU5 hFU5 ((v5 + 1)) (((v8 + 1) + 1)) (1) (by omega) (by omega) (by omega) (by omega) (by omega) (by omega) (by omega) rfl) (And.intro rfl (And.intro rfl (And.intro rfl (And.intro rfl (And.intro rfl (And.intro rfl (And.intro rfl (True.intro))))))))
                  · refine l_iconst rfl ?_
                    refine l_ireturn rfl rfl ?_
                    exact ⟨hHT2, hFT2, _, rfl, ⟨by omega, by omega⟩⟩
              · refine l_iinc rfl rfl rfl rfl ?_
                refine l_goto rfl rfl ?_
                exact Rl_weak (ih18 _ (by omega) T2 hHT2 hFT2 (v5) (v6) ((v8 + 1)) (by omega) (by omega) (by omega) (by omega) (by omega) (by omega) (by omega) (by omega) (by omega) rfl) (And.intro rfl (And.intro rfl (And.intro rfl (And.intro rfl (And.intro rfl (And.intro rfl (And.intro rfl (True.intro))))))))
      refine l_iload rfl rfl ?_
      refine l_if_eq rfl rfl (by unfold rg; omega) (fun w104 => ?_) (fun w105 => ?_)
      · refine l_iload rfl rfl ?_
        refine l_ireturn rfl rfl ?_
        exact ⟨hHT1, hFT1, _, rfl, ⟨by omega, by omega⟩⟩
      · refine l_iload rfl rfl ?_
        refine l_istore rfl rfl rfl ?_
        exact Rl_weak (C18 _ T1 hHT1 hFT1 (v5) (v6) (v6) (by omega) (by omega) (by omega) (by omega) (by omega) (by omega) (by omega) (by omega) (by omega) rfl) (And.intro rfl (And.intro rfl (And.intro rfl (And.intro rfl (And.intro rfl (And.intro rfl (And.intro rfl (True.intro))))))))
  refine l_iconst rfl ?_
  refine l_istore rfl rfl rfl ?_
  refine l_iload_n rfl rfl ?_
  refine l_istore rfl rfl rfl ?_
  refine l_iconst rfl ?_
  refine l_istore rfl rfl rfl ?_
  exact Rl_weak (C9 _ S hH hF (0) (from_) (1) (by omega) (by omega) (by omega) (by omega) (by omega) (by omega) (by omega) rfl) (And.intro rfl (And.intro rfl (And.intro rfl (And.intro rfl (And.intro rfl (And.intro rfl (And.intro rfl (True.intro))))))))
def md_mo_askSaying : List rec := [(904, 905, 104, 105), (904, 905, 105, 106), (904, 905, 106, 107), (904, 905, 144, 145), (904, 905, 146, 147), (904, 905, 147, 148), (988, 989, 0, 100000), (989, 990, 0, 100000), (990, 991, 0, 100000)]
abbrev Q_mo_askSaying (S : sS) (n : Nat) (dd : Nat) (first : Int) : pst := fun r S1 => HI S1 ∧ FR md_mo_askSaying S S1 ∧ (r = none ∧ (Xi S 904 106 ≠ 0 → Xi S1 904 106 ≠ 0))
set_option maxRecDepth 100000 in
set_option maxHeartbeats 4000000 in
theorem t_mo_askSaying {S : sS} (hH : HI S) (n : Nat) (dd : Nat) (first : Int) (hfirst : 0 ≤ first ∧ first ≤ 5001) (hT : TK S n) (hM : LXM S) (hB : ABV S) (hd : first ≤ dd ∧ dd < n ∧ Xi S 907 dd = 46) (d : Nat) : Mt lay0 (d + 6) m_mo_askSaying [.ref 904, iv first] S (Q_mo_askSaying S n dd first) := by
  refine Mt_R rfl rfl ?_
  have hF : FR md_mo_askSaying S S := FR.rf
  have w1 : 0 ≤ Xi S 904 106 ∧ Xi S 904 106 ≤ 9 := hH.c _ _
  have hn5 := hT.1
  have hc47 : 0 ≤ Xi S 904 47 ∧ Xi S 904 47 ≤ 8 := hH.c _ _
  have C2 : ∀ (n2 : Nat) (v2 : Int), (0 ≤ v2 ∧ v2 ≤ 5001) → (first ≤ v2) → (v2 ≤ dd) → n2 = (5002 - v2).toNat → Rl lay0 (d + 5) m_mo_askSaying 2 [(0, .ref 904), (1, iv first), (2, iv v2)] [] S (Q_mo_askSaying S n dd first) := by
    intro n2
    induction n2 using Nat.strongRecOn with
    | ind n2 ih2 =>
      intro v2 w2 w3 w4 hm2
      have C27 : ∀ (n27 : Nat) (T1 : sS) (_ : HI T1) (_ : FR md_mo_askSaying S T1) (v2 : Int) (v3 : Int) (v4 : Int) (v5 : Int), (0 ≤ v2 ∧ v2 ≤ 5001) → (0 ≤ v3 ∧ v3 ≤ 5002) → (0 ≤ v4 ∧ v4 ≤ 1) → (0 ≤ v5 ∧ v5 ≤ 5001) → (first ≤ v2) → (v2 ≤ dd) → (first ≤ v5) → (v5 ≤ v2) → (v3 ≤ v5 - first) → (Xi S 904 106 ≠ 0 → Xi T1 904 106 ≠ 0) → n27 = (5002 - v5).toNat → Rl lay0 (d + 5) m_mo_askSaying 27 [(0, .ref 904), (1, iv first), (2, iv v2), (3, iv v3), (4, iv v4), (5, iv v5)] [] T1 (Q_mo_askSaying S n dd first) := by
        intro n27
        induction n27 using Nat.strongRecOn with
        | ind n27 ih27 =>
          intro T1 hHT1 hFT1 v2 v3 v4 v5 w5 w6 w7 w8 w9 w10 w11 w12 w13 w14 hm27
          have w15 : 0 ≤ Xi T1 904 106 ∧ Xi T1 904 106 ≤ 9 := hHT1.c _ _
          have C69 : ∀  (T2 : sS) (_ : HI T2) (_ : FR md_mo_askSaying S T2) (v2 : Int) (v3 : Int) (v4 : Int) (v5 : Int) (v6 : Int), (1 ≤ v2 ∧ v2 ≤ 5001) → (0 ≤ v3 ∧ v3 ≤ 5002) → (0 ≤ v4 ∧ v4 ≤ 1) → (0 ≤ v5 ∧ v5 ≤ 5000) → (-1 ≤ v6 ∧ v6 ≤ 7) → (first ≤ v2) → (v2 ≤ dd) → (first ≤ v5) → (v5 < v2) → (v3 ≤ v5 - first) → (Xi S 904 106 ≠ 0 → Xi T2 904 106 ≠ 0) → ((5002 - v5).toNat ≤ n27) → Rl lay0 (d + 5) m_mo_askSaying 69 [(0, .ref 904), (1, iv first), (2, iv v2), (3, iv v3), (4, iv v4), (5, iv v5), (6, iv v6)] [] T2 (Q_mo_askSaying S n dd first) := by
            intro T2 hHT2 hFT2 v2 v3 v4 v5 v6 w16 w17 w18 w19 w20 w21 w22 w23 w24 w25 w26 w27
            have w28 : 0 ≤ Xi T2 904 106 ∧ Xi T2 904 106 ≤ 9 := hHT2.c _ _
            have C197 : ∀  (T3 : sS) (_ : HI T3) (_ : FR md_mo_askSaying S T3) (v2 : Int) (v3 : Int) (v4 : Int) (v5 : Int), (1 ≤ v2 ∧ v2 ≤ 5001) → (0 ≤ v3 ∧ v3 ≤ 5002) → (0 ≤ v4 ∧ v4 ≤ 1) → (0 ≤ v5 ∧ v5 ≤ 5000) → (first ≤ v2) → (v2 ≤ dd) → (first ≤ v5) → (v5 < v2) → (v3 ≤ v5 - first + 1) → (Xi S 904 106 ≠ 0 → Xi T3 904 106 ≠ 0) → ((5002 - v5).toNat ≤ n27) → Rl lay0 (d + 5) m_mo_askSaying 197 [(0, .ref 904), (1, iv first), (2, iv v2), (3, iv v3), (4, iv v4), (5, iv v5)] [] T3 (Q_mo_askSaying S n dd first) := by
              intro T3 hHT3 hFT3 v2 v3 v4 v5 w29 w30 w31 w32 w33 w34 w35 w36 w37 w38 w39
              have w40 : 0 ≤ Xi T3 904 106 ∧ Xi T3 904 106 ≤ 9 := hHT3.c _ _
              refine l_iload rfl rfl ?_
              refine l_if_eq rfl rfl (by unfold rg; omega) (fun w41 => ?_) (fun w42 => ?_)
              · refine l_iconst rfl ?_
                refine l_istore rfl rfl rfl ?_
                refine l_iinc rfl rfl rfl rfl ?_
                refine l_goto rfl rfl ?_
                exact Rl_weak (ih27 _ (by omega) T3 hHT3 hFT3 (v2) (v3) (0) ((v5 + 1)) (by omega) (by omega) (by omega) (by omega) (by omega) (by omega) (by omega) (by omega) (by omega) (by omega) rfl) (And.intro rfl (And.intro rfl (And.intro rfl (And.intro rfl (And.intro rfl (And.intro rfl (True.intro)))))))
              · refine l_aload_n rfl rfl ?_
                refine l_gfr rfl rfl rfl rfl rfl (hHT3.r 904 4 907 rfl) ?_
                refine l_iload rfl rfl ?_
                refine l_iaload (n := 5002) rfl rfl (by omega) (by omega) (by unfold rg; omega) ?_
                have w44 : 0 ≤ (Xi T3 907 ((v5).toNat)) ∧ (Xi T3 907 ((v5).toNat)) ≤ 154 := hHT3.c _ _
                refine l_bipush rfl rfl ?_
                refine l_icmp_eq rfl rfl (by unfold rg; omega) (by unfold rg; omega) (fun w45 => ?_) (fun w46 => ?_)
                · refine l_iconst rfl ?_
                  refine l_istore rfl rfl rfl ?_
                  refine l_iinc rfl rfl rfl rfl ?_
                  refine l_goto rfl rfl ?_
                  exact Rl_weak (ih27 _ (by omega) T3 hHT3 hFT3 (v2) (v3) (0) ((v5 + 1)) (by omega) (by omega) (by omega) (by omega) (by omega) (by omega) (by omega) (by omega) (by omega) (by omega) rfl) (And.intro rfl (And.intro rfl (And.intro rfl (And.intro rfl (And.intro rfl (And.intro rfl (True.intro)))))))
                · refine l_aload_n rfl rfl ?_
                  refine l_gfr rfl rfl rfl rfl rfl (hHT3.r 904 4 907 rfl) ?_
                  refine l_iload rfl rfl ?_
                  refine l_iaload (n := 5002) rfl rfl (by omega) (by omega) (by unfold rg; omega) ?_
                  refine l_bipush rfl rfl ?_
                  refine l_icmp_eq rfl rfl (by unfold rg; omega) (by unfold rg; omega) (fun w48 => ?_) (fun w49 => ?_)
                  · refine l_iconst rfl ?_
                    refine l_istore rfl rfl rfl ?_
                    refine l_iinc rfl rfl rfl rfl ?_
                    refine l_goto rfl rfl ?_
                    exact Rl_weak (ih27 _ (by omega) T3 hHT3 hFT3 (v2) (v3) (0) ((v5 + 1)) (by omega) (by omega) (by omega) (by omega) (by omega) (by omega) (by omega) (by omega) (by omega) (by omega) rfl) (And.intro rfl (And.intro rfl (And.intro rfl (And.intro rfl (And.intro rfl (And.intro rfl (True.intro)))))))
                  · refine l_iconst rfl ?_
                    refine l_goto rfl rfl ?_
                    refine l_istore rfl rfl rfl ?_
                    refine l_iinc rfl rfl rfl rfl ?_
                    refine l_goto rfl rfl ?_
                    exact Rl_weak (ih27 _ (by omega) T3 hHT3 hFT3 (v2) (v3) (1) ((v5 + 1)) (by omega) (by omega) (by omega) (by omega) (by omega) (by omega) (by omega) (by omega) (by omega) (by omega) rfl) (And.intro rfl (And.intro rfl (And.intro rfl (And.intro rfl (And.intro rfl (And.intro rfl (True.intro)))))))
            refine l_iload rfl rfl ?_
            refine l_iconst rfl ?_
            refine l_icmp_eq rfl rfl (by unfold rg; omega) (by unfold rg; omega) (fun w52 => ?_) (fun w53 => ?_)
            · have w54 : 0 ≤ Xi T2 904 106 ∧ Xi T2 904 106 ≤ 9 := hHT2.c _ _
              exact Rl_weak (C197 T2 hHT2 hFT2 (v2) (v3) (v4) (v5) (by omega) (by omega) (by omega) (by omega) (by omega) (by omega) (by omega) (by omega) (by omega) (by omega) (by omega)) (And.intro rfl (And.intro rfl (And.intro rfl (And.intro rfl (And.intro rfl (And.intro rfl (True.intro)))))))
            · refine l_iload rfl rfl ?_
              refine l_iload_n rfl rfl ?_
              refine l_icmp_le rfl rfl (by unfold rg; omega) (by unfold rg; omega) (fun w55 => ?_) (fun w56 => ?_)
              · have w57 : 0 ≤ Xi T2 904 106 ∧ Xi T2 904 106 ≤ 9 := hHT2.c _ _
                exact Rl_weak (C197 T2 hHT2 hFT2 (v2) (v3) (v4) (v5) (by omega) (by omega) (by omega) (by omega) (by omega) (by omega) (by omega) (by omega) (by omega) (by omega) (by omega)) (And.intro rfl (And.intro rfl (And.intro rfl (And.intro rfl (And.intro rfl (And.intro rfl (True.intro)))))))
              · refine l_iload rfl rfl ?_
                refine l_iconst rfl ?_
                refine l_iadd rfl ?_
                refine l_iload_n rfl rfl ?_
                refine l_icmp_ge rfl rfl (by unfold rg; omega) (by unfold rg; omega) (fun w58 => ?_) (fun w59 => ?_)
                · have w60 : 0 ≤ Xi T2 904 106 ∧ Xi T2 904 106 ≤ 9 := hHT2.c _ _
                  exact Rl_weak (C197 T2 hHT2 hFT2 (v2) (v3) (v4) (v5) (by omega) (by omega) (by omega) (by omega) (by omega) (by omega) (by omega) (by omega) (by omega) (by omega) (by omega)) (And.intro rfl (And.intro rfl (And.intro rfl (And.intro rfl (And.intro rfl (And.intro rfl (True.intro)))))))
                · refine l_aload_n rfl rfl ?_
                  refine l_gfr rfl rfl rfl rfl rfl (hHT2.r 904 48 941 rfl) ?_
                  refine l_iload rfl rfl ?_
                  refine l_iaload (n := 8) rfl rfl (by omega) (by omega) (by unfold rg; omega) ?_
                  have w61 : 0 ≤ (Xi T2 941 ((v6).toNat)) ∧ (Xi T2 941 ((v6).toNat)) ≤ 5 := hHT2.c _ _
                  refine l_istore rfl rfl rfl ?_
                  refine l_aload_n rfl rfl ?_
                  refine l_iload_n rfl rfl ?_
                  refine l_iload rfl rfl ?_
                  refine l_iload_n rfl rfl ?_
                  refine l_if_ne rfl rfl (by unfold rg; omega) (fun w62 => ?_) (fun w63 => ?_)
                  · refine l_aload_n rfl rfl ?_
                    refine l_gfr rfl rfl rfl rfl rfl (hHT2.r 904 148 990 rfl) ?_
                    refine l_aload_n rfl rfl ?_
                    refine l_gfr rfl rfl rfl rfl rfl (hHT2.r 904 42 936 rfl) ?_
                    refine l_iload rfl rfl ?_
                    refine l_iaload (n := 6) rfl rfl (by omega) (by omega) (by unfold rg; omega) ?_
                    have w64 : 0 ≤ (Xi T2 936 (((Xi T2 941 ((v6).toNat))).toNat)) ∧ (Xi T2 936 (((Xi T2 941 ((v6).toNat))).toNat)) ≤ 15 := hHT2.c _ _
                    refine l_callV rfl rfl rfl (t_mo_listOf__3 hHT2 first v5 (Xi T2 936 (((Xi T2 941 ((v6).toNat))).toNat)) ⟨by omega, by omega⟩ ⟨by omega, by omega⟩ ⟨by omega, by omega⟩ (by first | assumption | exact (LXM_FR hFT2 rfl (by assumption : LXM S))) (by first | assumption | exact (ABV_FR hFT2 rfl (by assumption : ABV S))) (by first | assumption | omega) _) ?_
                    rintro _ T4 ⟨hHT4, w67, z66, rfl, w66⟩
                    have hFT4 : FR md_mo_askSaying S T4 := FR.tr hFT2 w67 rfl
                    show Rl _ _ _ _ _ [iv z66] _ _
                    refine l_istore rfl rfl rfl ?_
                    refine l_aload_n rfl rfl ?_
                    refine l_iload rfl rfl ?_
                    refine l_iconst rfl ?_
                    refine l_iadd rfl ?_
                    refine l_iload_n rfl rfl ?_
                    refine l_iload_n rfl rfl ?_
                    refine l_if_ne rfl rfl (by unfold rg; omega) (fun w68 => ?_) (fun w69 => ?_)
                    · refine l_aload_n rfl rfl ?_
                      refine l_gfr rfl rfl rfl rfl rfl (hHT4.r 904 148 990 rfl) ?_
                      refine l_aload_n rfl rfl ?_
                      refine l_gfr rfl rfl rfl rfl rfl (hHT4.r 904 43 937 rfl) ?_
                      refine l_iload rfl rfl ?_
                      refine l_iaload (n := 6) rfl rfl (by omega) (by omega) (by unfold rg; omega) ?_
                      have w70 : 0 ≤ (Xi T4 937 (((Xi T2 941 ((v6).toNat))).toNat)) ∧ (Xi T4 937 (((Xi T2 941 ((v6).toNat))).toNat)) ≤ 15 := hHT4.c _ _
                      refine l_callV rfl rfl rfl (t_mo_listOf__3 hHT4 (v5 + 1) v2 (Xi T4 937 (((Xi T2 941 ((v6).toNat))).toNat)) ⟨by omega, by omega⟩ ⟨by omega, by omega⟩ ⟨by omega, by omega⟩ (by first | assumption | exact (LXM_FR hFT4 rfl (by assumption : LXM S))) (by first | assumption | exact (ABV_FR hFT4 rfl (by assumption : ABV S))) (by first | assumption | omega) _) ?_
                      rintro _ T5 ⟨hHT5, w74, z73, rfl, w73⟩
                      have hFT5 : FR md_mo_askSaying S T5 := FR.tr hFT4 w74 rfl
                      show Rl _ _ _ _ _ [iv z73] _ _
                      refine l_istore rfl rfl rfl ?_
                      refine l_iload rfl rfl ?_
                      refine l_if_le rfl rfl (by unfold rg; omega) (fun w75 => ?_) (fun w76 => ?_)
                      · have w77 : Xi T5 904 106 = Xi T2 904 106 := (show Xi T5 904 106 = Xi T4 904 106 from w74.x _ _ rfl).trans ((show Xi T4 904 106 = Xi T2 904 106 from w67.x _ _ rfl))
                        exact Rl_weak (C197 T5 hHT5 hFT5 (v2) (v3) (v4) (v5) (by omega) (by omega) (by omega) (by omega) (by omega) (by omega) (by omega) (by omega) (by omega) (by omega) (by omega)) (And.intro rfl (And.intro rfl (And.intro rfl (And.intro rfl (And.intro rfl (And.intro rfl (True.intro)))))))
                      · refine l_iload rfl rfl ?_
                        refine l_if_le rfl rfl (by unfold rg; omega) (fun w79 => ?_) (fun w80 => ?_)
                        · have w81 : Xi T5 904 106 = Xi T2 904 106 := (show Xi T5 904 106 = Xi T4 904 106 from w74.x _ _ rfl).trans ((show Xi T4 904 106 = Xi T2 904 106 from w67.x _ _ rfl))
                          exact Rl_weak (C197 T5 hHT5 hFT5 (v2) (v3) (v4) (v5) (by omega) (by omega) (by omega) (by omega) (by omega) (by omega) (by omega) (by omega) (by omega) (by omega) (by omega)) (And.intro rfl (And.intro rfl (And.intro rfl (And.intro rfl (And.intro rfl (And.intro rfl (True.intro)))))))
                        · refine l_iload_n rfl rfl ?_
                          refine l_if_ne rfl rfl (by unfold rg; omega) (fun w83 => ?_) (fun w84 => ?_)
                          · refine l_iinc rfl rfl rfl rfl ?_
                            have w85 : Xi T5 904 106 = Xi T2 904 106 := (show Xi T5 904 106 = Xi T4 904 106 from w74.x _ _ rfl).trans ((show Xi T4 904 106 = Xi T2 904 106 from w67.x _ _ rfl))
                            exact Rl_weak (C197 T5 hHT5 hFT5 (v2) ((v3 + 1)) (v4) (v5) (by omega) (by omega) (by omega) (by omega) (by omega) (by omega) (by omega) (by omega) (by omega) (by omega) (by omega)) (And.intro rfl (And.intro rfl (And.intro rfl (And.intro rfl (And.intro rfl (And.intro rfl (True.intro)))))))
                          · refine l_aload_n rfl rfl ?_
                            refine l_iload rfl rfl ?_
                            refine l_pfi rfl rfl rfl rfl ?_
                            obtain ⟨U6, eU6⟩ : ∃ T : sS, T = uI T5 904 144 (Int32.ofInt z66) := ⟨_, rfl⟩
                            rw [← eU6]
                            have hHU6 : HI U6 := by rw [eU6]; exact HI_w hHT5 (show 0 ≤ z66 by omega) (show z66 ≤ 2600 by omega)
                            have hFU6 : FR md_mo_askSaying S U6 := by rw [eU6]; exact FR.wI hFT5 (mdf_i (r := (904, 905, 144, 145)) (List.mem_of_getElem? (i := 3) rfl) (inR_i (by omega) (by omega) (by omega) (by omega)))
                            have w87 : Xi U6 904 144 = z66 := by rw [eU6]; exact Xi_same (by unfold rg; omega)
                            refine l_aload_n rfl rfl ?_
                            refine l_iload rfl rfl ?_
                            refine l_pfi rfl rfl rfl rfl ?_
                            obtain ⟨U7, eU7⟩ : ∃ T : sS, T = uI U6 904 146 (Int32.ofInt z73) := ⟨_, rfl⟩
                            rw [← eU7]
                            have hHU7 : HI U7 := by rw [eU7]; exact HI_w hHU6 (show 0 ≤ z73 by omega) (show z73 ≤ 2600 by omega)
                            have hFU7 : FR md_mo_askSaying S U7 := by rw [eU7]; exact FR.wI hFU6 (mdf_i (r := (904, 905, 146, 147)) (List.mem_of_getElem? (i := 4) rfl) (inR_i (by omega) (by omega) (by omega) (by omega)))
                            have w88 : Xi U7 904 146 = z73 := by rw [eU7]; exact Xi_same (by unfold rg; omega)
                            refine l_aload_n rfl rfl ?_
                            refine l_iload rfl rfl ?_
                            refine l_pfi rfl rfl rfl rfl ?_
                            obtain ⟨U8, eU8⟩ : ∃ T : sS, T = uI U7 904 147 (Int32.ofInt (Xi T2 941 ((v6).toNat))) := ⟨_, rfl⟩
                            rw [← eU8]
                            have hHU8 : HI U8 := by rw [eU8]; exact HI_w hHU7 (show 0 ≤ (Xi T2 941 ((v6).toNat)) by omega) (show (Xi T2 941 ((v6).toNat)) ≤ 5 by omega)
                            have hFU8 : FR md_mo_askSaying S U8 := by rw [eU8]; exact FR.wI hFU7 (mdf_i (r := (904, 905, 147, 148)) (List.mem_of_getElem? (i := 5) rfl) (inR_i (by omega) (by omega) (by omega) (by omega)))
                            have w89 : Xi U8 904 147 = (Xi T2 941 ((v6).toNat)) := by rw [eU8]; exact Xi_same (by unfold rg; omega)
                            refine l_iinc rfl rfl rfl rfl ?_
                            have w90 : Xi U8 904 106 = Xi T2 904 106 := (show Xi U8 904 106 = Xi U7 904 106 from by rw [eU8]; exact Xi_ne (by omega)).trans ( (show Xi U7 904 106 = Xi U6 904 106 from by rw [eU7]; exact Xi_ne (by omega)).trans ( (show Xi U6 904 106 = Xi T5 904 106 from by rw [eU6]; exact Xi_ne (by omega)).trans ( (show Xi T5 904 106 = Xi T4 904 106 from w74.x _ _ rfl).trans ((show Xi T4 904 106 = Xi T2 904 106 from w67.x _ _ rfl)))))
                            exact Rl_weak (C197 U8 hHU8 hFU8 (v2) ((v3 + 1)) (v4) (v5) (by omega) (by omega) (by omega) (by omega) (by omega) (by omega) (by omega) (by omega) (by omega) (by omega) (by omega)) (And.intro rfl (And.intro rfl (And.intro rfl (And.intro rfl (And.intro rfl (And.intro rfl (True.intro)))))))
                    · refine l_aload_n rfl rfl ?_
                      refine l_gfr rfl rfl rfl rfl rfl (hHT4.r 904 145 989 rfl) ?_
                      refine l_goto rfl rfl ?_
                      refine l_aload_n rfl rfl ?_
                      refine l_gfr rfl rfl rfl rfl rfl (hHT4.r 904 43 937 rfl) ?_
                      refine l_iload rfl rfl ?_
                      refine l_iaload (n := 6) rfl rfl (by omega) (by omega) (by unfold rg; omega) ?_
                      have w92 : 0 ≤ (Xi T4 937 (((Xi T2 941 ((v6).toNat))).toNat)) ∧ (Xi T4 937 (((Xi T2 941 ((v6).toNat))).toNat)) ≤ 15 := hHT4.c _ _
                      refine l_callV rfl rfl rfl (t_mo_listOf__2 hHT4 (v5 + 1) v2 (Xi T4 937 (((Xi T2 941 ((v6).toNat))).toNat)) ⟨by omega, by omega⟩ ⟨by omega, by omega⟩ ⟨by omega, by omega⟩ (by first | assumption | exact (LXM_FR hFT4 rfl (by assumption : LXM S))) (by first | assumption | exact (ABV_FR hFT4 rfl (by assumption : ABV S))) (by first | assumption | omega) _) ?_
                      rintro _ T9 ⟨hHT9, w96, z95, rfl, w95⟩
                      have hFT9 : FR md_mo_askSaying S T9 := FR.tr hFT4 w96 rfl
                      show Rl _ _ _ _ _ [iv z95] _ _
                      refine l_istore rfl rfl rfl ?_
                      refine l_iload rfl rfl ?_
                      refine l_if_le rfl rfl (by unfold rg; omega) (fun w97 => ?_) (fun w98 => ?_)
                      · have w99 : Xi T9 904 106 = Xi T2 904 106 := (show Xi T9 904 106 = Xi T4 904 106 from w96.x _ _ rfl).trans ((show Xi T4 904 106 = Xi T2 904 106 from w67.x _ _ rfl))
                        exact Rl_weak (C197 T9 hHT9 hFT9 (v2) (v3) (v4) (v5) (by omega) (by omega) (by omega) (by omega) (by omega) (by omega) (by omega) (by omega) (by omega) (by omega) (by omega)) (And.intro rfl (And.intro rfl (And.intro rfl (And.intro rfl (And.intro rfl (And.intro rfl (True.intro)))))))
                      · refine l_iload rfl rfl ?_
                        refine l_if_le rfl rfl (by unfold rg; omega) (fun w101 => ?_) (fun w102 => ?_)
                        · have w103 : Xi T9 904 106 = Xi T2 904 106 := (show Xi T9 904 106 = Xi T4 904 106 from w96.x _ _ rfl).trans ((show Xi T4 904 106 = Xi T2 904 106 from w67.x _ _ rfl))
                          exact Rl_weak (C197 T9 hHT9 hFT9 (v2) (v3) (v4) (v5) (by omega) (by omega) (by omega) (by omega) (by omega) (by omega) (by omega) (by omega) (by omega) (by omega) (by omega)) (And.intro rfl (And.intro rfl (And.intro rfl (And.intro rfl (And.intro rfl (And.intro rfl (True.intro)))))))
                        · refine l_iload_n rfl rfl ?_
                          refine l_if_ne rfl rfl (by unfold rg; omega) (fun w105 => ?_) (fun w106 => ?_)
                          · refine l_iinc rfl rfl rfl rfl ?_
                            have w107 : Xi T9 904 106 = Xi T2 904 106 := (show Xi T9 904 106 = Xi T4 904 106 from w96.x _ _ rfl).trans ((show Xi T4 904 106 = Xi T2 904 106 from w67.x _ _ rfl))
                            exact Rl_weak (C197 T9 hHT9 hFT9 (v2) ((v3 + 1)) (v4) (v5) (by omega) (by omega) (by omega) (by omega) (by omega) (by omega) (by omega) (by omega) (by omega) (by omega) (by omega)) (And.intro rfl (And.intro rfl (And.intro rfl (And.intro rfl (And.intro rfl (And.intro rfl (True.intro)))))))
                          · refine l_aload_n rfl rfl ?_
                            refine l_iload rfl rfl ?_
                            refine l_pfi rfl rfl rfl rfl ?_
                            obtain ⟨U10, eU10⟩ : ∃ T : sS, T = uI T9 904 144 (Int32.ofInt z66) := ⟨_, rfl⟩
                            rw [← eU10]
                            have hHU10 : HI U10 := by rw [eU10]; exact HI_w hHT9 (show 0 ≤ z66 by omega) (show z66 ≤ 2600 by omega)
                            have hFU10 : FR md_mo_askSaying S U10 := by rw [eU10]; exact FR.wI hFT9 (mdf_i (r := (904, 905, 144, 145)) (List.mem_of_getElem? (i := 3) rfl) (inR_i (by omega) (by omega) (by omega) (by omega)))
                            have w109 : Xi U10 904 144 = z66 := by rw [eU10]; exact Xi_same (by unfold rg; omega)
                            refine l_aload_n rfl rfl ?_
                            refine l_iload rfl rfl ?_
                            refine l_pfi rfl rfl rfl rfl ?_
                            obtain ⟨U11, eU11⟩ : ∃ T : sS, T = uI U10 904 146 (Int32.ofInt z95) := ⟨_, rfl⟩
                            rw [← eU11]
                            have hHU11 : HI U11 := by rw [eU11]; exact HI_w hHU10 (show 0 ≤ z95 by omega) (show z95 ≤ 2600 by omega)
                            have hFU11 : FR md_mo_askSaying S U11 := by rw [eU11]; exact FR.wI hFU10 (mdf_i (r := (904, 905, 146, 147)) (List.mem_of_getElem? (i := 4) rfl) (inR_i (by omega) (by omega) (by omega) (by omega)))
                            have w110 : Xi U11 904 146 = z95 := by rw [eU11]; exact Xi_same (by unfold rg; omega)
                            refine l_aload_n rfl rfl ?_
                            refine l_iload rfl rfl ?_
                            refine l_pfi rfl rfl rfl rfl ?_
                            obtain ⟨U12, eU12⟩ : ∃ T : sS, T = uI U11 904 147 (Int32.ofInt (Xi T2 941 ((v6).toNat))) := ⟨_, rfl⟩
                            rw [← eU12]
                            have hHU12 : HI U12 := by rw [eU12]; exact HI_w hHU11 (show 0 ≤ (Xi T2 941 ((v6).toNat)) by omega) (show (Xi T2 941 ((v6).toNat)) ≤ 5 by omega)
                            have hFU12 : FR md_mo_askSaying S U12 := by rw [eU12]; exact FR.wI hFU11 (mdf_i (r := (904, 905, 147, 148)) (List.mem_of_getElem? (i := 5) rfl) (inR_i (by omega) (by omega) (by omega) (by omega)))
                            have w111 : Xi U12 904 147 = (Xi T2 941 ((v6).toNat)) := by rw [eU12]; exact Xi_same (by unfold rg; omega)
                            refine l_iinc rfl rfl rfl rfl ?_
                            have w112 : Xi U12 904 106 = Xi T2 904 106 := (show Xi U12 904 106 = Xi U11 904 106 from by rw [eU12]; exact Xi_ne (by omega)).trans ( (show Xi U11 904 106 = Xi U10 904 106 from by rw [eU11]; exact Xi_ne (by omega)).trans ( (show Xi U10 904 106 = Xi T9 904 106 from by rw [eU10]; exact Xi_ne (by omega)).trans ( (show Xi T9 904 106 = Xi T4 904 106 from w96.x _ _ rfl).trans ((show Xi T4 904 106 = Xi T2 904 106 from w67.x _ _ rfl)))))
                            exact Rl_weak (C197 U12 hHU12 hFU12 (v2) ((v3 + 1)) (v4) (v5) (by omega) (by omega) (by omega) (by omega) (by omega) (by omega) (by omega) (by omega) (by omega) (by omega) (by omega)) (And.intro rfl (And.intro rfl (And.intro rfl (And.intro rfl (And.intro rfl (And.intro rfl (True.intro)))))))
                  · refine l_aload_n rfl rfl ?_
                    refine l_gfr rfl rfl rfl rfl rfl (hHT2.r 904 143 988 rfl) ?_
                    refine l_goto rfl rfl ?_
                    refine l_aload_n rfl rfl ?_
                    refine l_gfr rfl rfl rfl rfl rfl (hHT2.r 904 42 936 rfl) ?_
                    refine l_iload rfl rfl ?_
                    refine l_iaload (n := 6) rfl rfl (by omega) (by omega) (by unfold rg; omega) ?_
                    have w114 : 0 ≤ (Xi T2 936 (((Xi T2 941 ((v6).toNat))).toNat)) ∧ (Xi T2 936 (((Xi T2 941 ((v6).toNat))).toNat)) ≤ 15 := hHT2.c _ _
                    refine l_callV rfl rfl rfl (t_mo_listOf hHT2 first v5 (Xi T2 936 (((Xi T2 941 ((v6).toNat))).toNat)) ⟨by omega, by omega⟩ ⟨by omega, by omega⟩ ⟨by omega, by omega⟩ (by first | assumption | exact (LXM_FR hFT2 rfl (by assumption : LXM S))) (by first | assumption | exact (ABV_FR hFT2 rfl (by assumption : ABV S))) (by first | assumption | omega) _) ?_
                    rintro _ T13 ⟨hHT13, w117, z116, rfl, w116⟩
                    have hFT13 : FR md_mo_askSaying S T13 := FR.tr hFT2 w117 rfl
                    show Rl _ _ _ _ _ [iv z116] _ _
                    refine l_istore rfl rfl rfl ?_
                    refine l_aload_n rfl rfl ?_
                    refine l_iload rfl rfl ?_
                    refine l_iconst rfl ?_
                    refine l_iadd rfl ?_
                    refine l_iload_n rfl rfl ?_
                    refine l_iload_n rfl rfl ?_
                    refine l_if_ne rfl rfl (by unfold rg; omega) (fun w118 => ?_) (fun w119 => ?_)
                    · refine l_aload_n rfl rfl ?_
                      refine l_gfr rfl rfl rfl rfl rfl (hHT13.r 904 148 990 rfl) ?_
                      refine l_aload_n rfl rfl ?_
                      refine l_gfr rfl rfl rfl rfl rfl (hHT13.r 904 43 937 rfl) ?_
                      refine l_iload rfl rfl ?_
                      refine l_iaload (n := 6) rfl rfl (by omega) (by omega) (by unfold rg; omega) ?_
                      have w120 : 0 ≤ (Xi T13 937 (((Xi T2 941 ((v6).toNat))).toNat)) ∧ (Xi T13 937 (((Xi T2 941 ((v6).toNat))).toNat)) ≤ 15 := hHT13.c _ _
                      refine l_callV rfl rfl rfl (t_mo_listOf__3 hHT13 (v5 + 1) v2 (Xi T13 937 (((Xi T2 941 ((v6).toNat))).toNat)) ⟨by omega, by omega⟩ ⟨by omega, by omega⟩ ⟨by omega, by omega⟩ (by first | assumption | exact (LXM_FR hFT13 rfl (by assumption : LXM S))) (by first | assumption | exact (ABV_FR hFT13 rfl (by assumption : ABV S))) (by first | assumption | omega) _) ?_
                      rintro _ T14 ⟨hHT14, w124, z123, rfl, w123⟩
                      have hFT14 : FR md_mo_askSaying S T14 := FR.tr hFT13 w124 rfl
                      show Rl _ _ _ _ _ [iv z123] _ _
                      refine l_istore rfl rfl rfl ?_
                      refine l_iload rfl rfl ?_
                      refine l_if_le rfl rfl (by unfold rg; omega) (fun w125 => ?_) (fun w126 => ?_)
                      · have w127 : Xi T14 904 106 = Xi T2 904 106 := (show Xi T14 904 106 = Xi T13 904 106 from w124.x _ _ rfl).trans ((show Xi T13 904 106 = Xi T2 904 106 from w117.x _ _ rfl))
                        exact Rl_weak (C197 T14 hHT14 hFT14 (v2) (v3) (v4) (v5) (by omega) (by omega) (by omega) (by omega) (by omega) (by omega) (by omega) (by omega) (by omega) (by omega) (by omega)) (And.intro rfl (And.intro rfl (And.intro rfl (And.intro rfl (And.intro rfl (And.intro rfl (True.intro)))))))
                      · refine l_iload rfl rfl ?_
                        refine l_if_le rfl rfl (by unfold rg; omega) (fun w129 => ?_) (fun w130 => ?_)
                        · have w131 : Xi T14 904 106 = Xi T2 904 106 := (show Xi T14 904 106 = Xi T13 904 106 from w124.x _ _ rfl).trans ((show Xi T13 904 106 = Xi T2 904 106 from w117.x _ _ rfl))
                          exact Rl_weak (C197 T14 hHT14 hFT14 (v2) (v3) (v4) (v5) (by omega) (by omega) (by omega) (by omega) (by omega) (by omega) (by omega) (by omega) (by omega) (by omega) (by omega)) (And.intro rfl (And.intro rfl (And.intro rfl (And.intro rfl (And.intro rfl (And.intro rfl (True.intro)))))))
                        · refine l_iload_n rfl rfl ?_
                          refine l_if_ne rfl rfl (by unfold rg; omega) (fun w133 => ?_) (fun w134 => ?_)
                          · refine l_iinc rfl rfl rfl rfl ?_
                            have w135 : Xi T14 904 106 = Xi T2 904 106 := (show Xi T14 904 106 = Xi T13 904 106 from w124.x _ _ rfl).trans ((show Xi T13 904 106 = Xi T2 904 106 from w117.x _ _ rfl))
                            exact Rl_weak (C197 T14 hHT14 hFT14 (v2) ((v3 + 1)) (v4) (v5) (by omega) (by omega) (by omega) (by omega) (by omega) (by omega) (by omega) (by omega) (by omega) (by omega) (by omega)) (And.intro rfl (And.intro rfl (And.intro rfl (And.intro rfl (And.intro rfl (And.intro rfl (True.intro)))))))
                          · refine l_aload_n rfl rfl ?_
                            refine l_iload rfl rfl ?_
                            refine l_pfi rfl rfl rfl rfl ?_
                            obtain ⟨U15, eU15⟩ : ∃ T : sS, T = uI T14 904 144 (Int32.ofInt z116) := ⟨_, rfl⟩
                            rw [← eU15]
                            have hHU15 : HI U15 := by rw [eU15]; exact HI_w hHT14 (show 0 ≤ z116 by omega) (show z116 ≤ 2600 by omega)
                            have hFU15 : FR md_mo_askSaying S U15 := by rw [eU15]; exact FR.wI hFT14 (mdf_i (r := (904, 905, 144, 145)) (List.mem_of_getElem? (i := 3) rfl) (inR_i (by omega) (by omega) (by omega) (by omega)))
                            have w137 : Xi U15 904 144 = z116 := by rw [eU15]; exact Xi_same (by unfold rg; omega)
                            refine l_aload_n rfl rfl ?_
                            refine l_iload rfl rfl ?_
                            refine l_pfi rfl rfl rfl rfl ?_
                            obtain ⟨U16, eU16⟩ : ∃ T : sS, T = uI U15 904 146 (Int32.ofInt z123) := ⟨_, rfl⟩
                            rw [← eU16]
                            have hHU16 : HI U16 := by rw [eU16]; exact HI_w hHU15 (show 0 ≤ z123 by omega) (show z123 ≤ 2600 by omega)
                            have hFU16 : FR md_mo_askSaying S U16 := by rw [eU16]; exact FR.wI hFU15 (mdf_i (r := (904, 905, 146, 147)) (List.mem_of_getElem? (i := 4) rfl) (inR_i (by omega) (by omega) (by omega) (by omega)))
                            have w138 : Xi U16 904 146 = z123 := by rw [eU16]; exact Xi_same (by unfold rg; omega)
                            refine l_aload_n rfl rfl ?_
                            refine l_iload rfl rfl ?_
                            refine l_pfi rfl rfl rfl rfl ?_
                            obtain ⟨U17, eU17⟩ : ∃ T : sS, T = uI U16 904 147 (Int32.ofInt (Xi T2 941 ((v6).toNat))) := ⟨_, rfl⟩
                            rw [← eU17]
                            have hHU17 : HI U17 := by rw [eU17]; exact HI_w hHU16 (show 0 ≤ (Xi T2 941 ((v6).toNat)) by omega) (show (Xi T2 941 ((v6).toNat)) ≤ 5 by omega)
                            have hFU17 : FR md_mo_askSaying S U17 := by rw [eU17]; exact FR.wI hFU16 (mdf_i (r := (904, 905, 147, 148)) (List.mem_of_getElem? (i := 5) rfl) (inR_i (by omega) (by omega) (by omega) (by omega)))
                            have w139 : Xi U17 904 147 = (Xi T2 941 ((v6).toNat)) := by rw [eU17]; exact Xi_same (by unfold rg; omega)
                            refine l_iinc rfl rfl rfl rfl ?_
                            have w140 : Xi U17 904 106 = Xi T2 904 106 := (show Xi U17 904 106 = Xi U16 904 106 from by rw [eU17]; exact Xi_ne (by omega)).trans ( (show Xi U16 904 106 = Xi U15 904 106 from by rw [eU16]; exact Xi_ne (by omega)).trans ( (show Xi U15 904 106 = Xi T14 904 106 from by rw [eU15]; exact Xi_ne (by omega)).trans ( (show Xi T14 904 106 = Xi T13 904 106 from w124.x _ _ rfl).trans ((show Xi T13 904 106 = Xi T2 904 106 from w117.x _ _ rfl)))))
                            exact Rl_weak (C197 U17 hHU17 hFU17 (v2) ((v3 + 1)) (v4) (v5) (by omega) (by omega) (by omega) (by omega) (by omega) (by omega) (by omega) (by omega) (by omega) (by omega) (by omega)) (And.intro rfl (And.intro rfl (And.intro rfl (And.intro rfl (And.intro rfl (And.intro rfl (True.intro)))))))
                    · refine l_aload_n rfl rfl ?_
                      refine l_gfr rfl rfl rfl rfl rfl (hHT13.r 904 145 989 rfl) ?_
                      refine l_goto rfl rfl ?_
                      refine l_aload_n rfl rfl ?_
                      refine l_gfr rfl rfl rfl rfl rfl (hHT13.r 904 43 937 rfl) ?_
                      refine l_iload rfl rfl ?_
                      refine l_iaload (n := 6) rfl rfl (by omega) (by omega) (by unfold rg; omega) ?_
                      have w142 : 0 ≤ (Xi T13 937 (((Xi T2 941 ((v6).toNat))).toNat)) ∧ (Xi T13 937 (((Xi T2 941 ((v6).toNat))).toNat)) ≤ 15 := hHT13.c _ _
                      refine l_callV rfl rfl rfl (t_mo_listOf__2 hHT13 (v5 + 1) v2 (Xi T13 937 (((Xi T2 941 ((v6).toNat))).toNat)) ⟨by omega, by omega⟩ ⟨by omega, by omega⟩ ⟨by omega, by omega⟩ (by first | assumption | exact (LXM_FR hFT13 rfl (by assumption : LXM S))) (by first | assumption | exact (ABV_FR hFT13 rfl (by assumption : ABV S))) (by first | assumption | omega) _) ?_
                      rintro _ T18 ⟨hHT18, w146, z145, rfl, w145⟩
                      have hFT18 : FR md_mo_askSaying S T18 := FR.tr hFT13 w146 rfl
                      show Rl _ _ _ _ _ [iv z145] _ _
                      refine l_istore rfl rfl rfl ?_
                      refine l_iload rfl rfl ?_
                      refine l_if_le rfl rfl (by unfold rg; omega) (fun w147 => ?_) (fun w148 => ?_)
                      · have w149 : Xi T18 904 106 = Xi T2 904 106 := (show Xi T18 904 106 = Xi T13 904 106 from w146.x _ _ rfl).trans ((show Xi T13 904 106 = Xi T2 904 106 from w117.x _ _ rfl))
                        exact Rl_weak (C197 T18 hHT18 hFT18 (v2) (v3) (v4) (v5) (by omega) (by omega) (by omega) (by omega) (by omega) (by omega) (by omega) (by omega) (by omega) (by omega) (by omega)) (And.intro rfl (And.intro rfl (And.intro rfl (And.intro rfl (And.intro rfl (And.intro rfl (True.intro)))))))
                      · refine l_iload rfl rfl ?_
                        refine l_if_le rfl rfl (by unfold rg; omega) (fun w151 => ?_) (fun w152 => ?_)
                        · have w153 : Xi T18 904 106 = Xi T2 904 106 := (show Xi T18 904 106 = Xi T13 904 106 from w146.x _ _ rfl).trans ((show Xi T13 904 106 = Xi T2 904 106 from w117.x _ _ rfl))
                          exact Rl_weak (C197 T18 hHT18 hFT18 (v2) (v3) (v4) (v5) (by omega) (by omega) (by omega) (by omega) (by omega) (by omega) (by omega) (by omega) (by omega) (by omega) (by omega)) (And.intro rfl (And.intro rfl (And.intro rfl (And.intro rfl (And.intro rfl (And.intro rfl (True.intro)))))))
                        · refine l_iload_n rfl rfl ?_
                          refine l_if_ne rfl rfl (by unfold rg; omega) (fun w155 => ?_) (fun w156 => ?_)
                          · refine l_iinc rfl rfl rfl rfl ?_
                            have w157 : Xi T18 904 106 = Xi T2 904 106 := (show Xi T18 904 106 = Xi T13 904 106 from w146.x _ _ rfl).trans ((show Xi T13 904 106 = Xi T2 904 106 from w117.x _ _ rfl))
                            exact Rl_weak (C197 T18 hHT18 hFT18 (v2) ((v3 + 1)) (v4) (v5) (by omega) (by omega) (by omega) (by omega) (by omega) (by omega) (by omega) (by omega) (by omega) (by omega) (by omega)) (And.intro rfl (And.intro rfl (And.intro rfl (And.intro rfl (And.intro rfl (And.intro rfl (True.intro)))))))
                          · refine l_aload_n rfl rfl ?_
                            refine l_iload rfl rfl ?_
                            refine l_pfi rfl rfl rfl rfl ?_
                            obtain ⟨U19, eU19⟩ : ∃ T : sS, T = uI T18 904 144 (Int32.ofInt z116) := ⟨_, rfl⟩
                            rw [← eU19]
                            have hHU19 : HI U19 := by rw [eU19]; exact HI_w hHT18 (show 0 ≤ z116 by omega) (show z116 ≤ 2600 by omega)
                            have hFU19 : FR md_mo_askSaying S U19 := by rw [eU19]; exact FR.wI hFT18 (mdf_i (r := (904, 905, 144, 145)) (List.mem_of_getElem? (i := 3) rfl) (inR_i (by omega) (by omega) (by omega) (by omega)))
                            have w159 : Xi U19 904 144 = z116 := by rw [eU19]; exact Xi_same (by unfold rg; omega)
                            refine l_aload_n rfl rfl ?_
                            refine l_iload rfl rfl ?_
                            refine l_pfi rfl rfl rfl rfl ?_
                            obtain ⟨U20, eU20⟩ : ∃ T : sS, T = uI U19 904 146 (Int32.ofInt z145) := ⟨_, rfl⟩
                            rw [← eU20]
                            have hHU20 : HI U20 := by rw [eU20]; exact HI_w hHU19 (show 0 ≤ z145 by omega) (show z145 ≤ 2600 by omega)
                            have hFU20 : FR md_mo_askSaying S U20 := by rw [eU20]; exact FR.wI hFU19 (mdf_i (r := (904, 905, 146, 147)) (List.mem_of_getElem? (i := 4) rfl) (inR_i (by omega) (by omega) (by omega) (by omega)))
                            have w160 : Xi U20 904 146 = z145 := by rw [eU20]; exact Xi_same (by unfold rg; omega)
                            refine l_aload_n rfl rfl ?_
                            refine l_iload rfl rfl ?_
                            refine l_pfi rfl rfl rfl rfl ?_
                            obtain ⟨U21, eU21⟩ : ∃ T : sS, T = uI U20 904 147 (Int32.ofInt (Xi T2 941 ((v6).toNat))) := ⟨_, rfl⟩
                            rw [← eU21]
                            have hHU21 : HI U21 := by rw [eU21]; exact HI_w hHU20 (show 0 ≤ (Xi T2 941 ((v6).toNat)) by omega) (show (Xi T2 941 ((v6).toNat)) ≤ 5 by omega)
                            have hFU21 : FR md_mo_askSaying S U21 := by rw [eU21]; exact FR.wI hFU20 (mdf_i (r := (904, 905, 147, 148)) (List.mem_of_getElem? (i := 5) rfl) (inR_i (by omega) (by omega) (by omega) (by omega)))
                            have w161 : Xi U21 904 147 = (Xi T2 941 ((v6).toNat)) := by rw [eU21]; exact Xi_same (by unfold rg; omega)
                            refine l_iinc rfl rfl rfl rfl ?_
                            have w162 : Xi U21 904 106 = Xi T2 904 106 := (show Xi U21 904 106 = Xi U20 904 106 from by rw [eU21]; exact Xi_ne (by omega)).trans ( (show Xi U20 904 106 = Xi U19 904 106 from by rw [eU20]; exact Xi_ne (by omega)).trans ( (show Xi U19 904 106 = Xi T18 904 106 from by rw [eU19]; exact Xi_ne (by omega)).trans ( (show Xi T18 904 106 = Xi T13 904 106 from w146.x _ _ rfl).trans ((show Xi T13 904 106 = Xi T2 904 106 from w117.x _ _ rfl)))))
                            exact Rl_weak (C197 U21 hHU21 hFU21 (v2) ((v3 + 1)) (v4) (v5) (by omega) (by omega) (by omega) (by omega) (by omega) (by omega) (by omega) (by omega) (by omega) (by omega) (by omega)) (And.intro rfl (And.intro rfl (And.intro rfl (And.intro rfl (And.intro rfl (And.intro rfl (True.intro)))))))
          refine l_iload rfl rfl ?_
          refine l_iload_n rfl rfl ?_
          refine l_icmp_ge rfl rfl (by unfold rg; omega) (by unfold rg; omega) (fun w164 => ?_) (fun w165 => ?_)
          · refine l_aload_n rfl rfl ?_
            refine l_iload_n rfl rfl ?_
            refine l_if_le rfl rfl (by unfold rg; omega) (fun w166 => ?_) (fun w167 => ?_)
            · refine l_iconst rfl ?_
              refine l_iconst rfl ?_
              refine l_iload_n rfl rfl ?_
              refine l_callV rfl rfl rfl (t_mo_need hHT1 0 4 first ⟨by omega, by omega⟩ ⟨by omega, by omega⟩ ⟨by omega, by omega⟩ _) ?_
              rintro _ T22 ⟨hHT22, w172, rfl, w169, w170⟩
              have hFT22 : FR md_mo_askSaying S T22 := FR.tr hFT1 w172 rfl
              show Rl _ _ _ _ _ [] _ _
              refine l_aload_n rfl rfl ?_
              refine l_iload_n rfl rfl ?_
              refine l_iconst rfl ?_
              refine l_icmp_ge rfl rfl (by unfold rg; omega) (by unfold rg; omega) (fun w173 => ?_) (fun w174 => ?_)
              · refine l_iconst rfl ?_
                refine l_bipush rfl rfl ?_
                refine l_iload_n rfl rfl ?_
                have w175 : 0 ≤ Xi T22 904 106 ∧ Xi T22 904 106 ≤ 9 := hHT22.c _ _
                refine l_callV rfl rfl rfl (t_mo_need hHT22 0 7 first ⟨by omega, by omega⟩ ⟨by omega, by omega⟩ ⟨by omega, by omega⟩ _) ?_
                rintro _ T23 ⟨hHT23, w179, rfl, w176, w177⟩
                have hFT23 : FR md_mo_askSaying S T23 := FR.tr hFT22 w179 rfl
                show Rl _ _ _ _ _ [] _ _
                refine l_return rfl rfl ?_
                have w180 : 0 ≤ Xi T23 904 106 ∧ Xi T23 904 106 ≤ 9 := hHT23.c _ _
                exact ⟨hHT23, hFT23, rfl, (by first | assumption | omega)⟩
              · refine l_iconst rfl ?_
                refine l_goto rfl rfl ?_
                refine l_bipush rfl rfl ?_
                refine l_iload_n rfl rfl ?_
                have w181 : 0 ≤ Xi T22 904 106 ∧ Xi T22 904 106 ≤ 9 := hHT22.c _ _
                refine l_callV rfl rfl rfl (t_mo_need hHT22 1 7 first ⟨by omega, by omega⟩ ⟨by omega, by omega⟩ ⟨by omega, by omega⟩ _) ?_
                rintro _ T24 ⟨hHT24, w185, rfl, w182, w183⟩
                have hFT24 : FR md_mo_askSaying S T24 := FR.tr hFT22 w185 rfl
                show Rl _ _ _ _ _ [] _ _
                refine l_return rfl rfl ?_
                have w186 : 0 ≤ Xi T24 904 106 ∧ Xi T24 904 106 ≤ 9 := hHT24.c _ _
                exact ⟨hHT24, hFT24, rfl, (by first | assumption | omega)⟩
            · refine l_iconst rfl ?_
              refine l_goto rfl rfl ?_
              refine l_iconst rfl ?_
              refine l_iload_n rfl rfl ?_
              refine l_callV rfl rfl rfl (t_mo_need hHT1 1 4 first ⟨by omega, by omega⟩ ⟨by omega, by omega⟩ ⟨by omega, by omega⟩ _) ?_
              rintro _ T25 ⟨hHT25, w191, rfl, w188, w189⟩
              have hFT25 : FR md_mo_askSaying S T25 := FR.tr hFT1 w191 rfl
              show Rl _ _ _ _ _ [] _ _
              refine l_aload_n rfl rfl ?_
              refine l_iload_n rfl rfl ?_
              refine l_iconst rfl ?_
              refine l_icmp_ge rfl rfl (by unfold rg; omega) (by unfold rg; omega) (fun w192 => ?_) (fun w193 => ?_)
              · refine l_iconst rfl ?_
                refine l_bipush rfl rfl ?_
                refine l_iload_n rfl rfl ?_
                have w194 : 0 ≤ Xi T25 904 106 ∧ Xi T25 904 106 ≤ 9 := hHT25.c _ _
                refine l_callV rfl rfl rfl (t_mo_need hHT25 0 7 first ⟨by omega, by omega⟩ ⟨by omega, by omega⟩ ⟨by omega, by omega⟩ _) ?_
                rintro _ T26 ⟨hHT26, w198, rfl, w195, w196⟩
                have hFT26 : FR md_mo_askSaying S T26 := FR.tr hFT25 w198 rfl
                show Rl _ _ _ _ _ [] _ _
                refine l_return rfl rfl ?_
                have w199 : 0 ≤ Xi T26 904 106 ∧ Xi T26 904 106 ≤ 9 := hHT26.c _ _
                exact ⟨hHT26, hFT26, rfl, (by first | assumption | omega)⟩
              · refine l_iconst rfl ?_
                refine l_goto rfl rfl ?_
                refine l_bipush rfl rfl ?_
                refine l_iload_n rfl rfl ?_
                have w200 : 0 ≤ Xi T25 904 106 ∧ Xi T25 904 106 ≤ 9 := hHT25.c _ _
                refine l_callV rfl rfl rfl (t_mo_need hHT25 1 7 first ⟨by omega, by omega⟩ ⟨by omega, by omega⟩ ⟨by omega, by omega⟩ _) ?_
                rintro _ T27 ⟨hHT27, w204, rfl, w201, w202⟩
                have hFT27 : FR md_mo_askSaying S T27 := FR.tr hFT25 w204 rfl
                show Rl _ _ _ _ _ [] _ _
                refine l_return rfl rfl ?_
                have w205 : 0 ≤ Xi T27 904 106 ∧ Xi T27 904 106 ≤ 9 := hHT27.c _ _
                exact ⟨hHT27, hFT27, rfl, (by first | assumption | omega)⟩
          · refine l_aload_n rfl rfl ?_
            refine l_gfr rfl rfl rfl rfl rfl (hHT1.r 904 4 907 rfl) ?_
            refine l_iload rfl rfl ?_
            refine l_iaload (n := 5002) rfl rfl (by omega) (by omega) (by unfold rg; omega) ?_
            have w206 : 0 ≤ (Xi T1 907 ((v5).toNat)) ∧ (Xi T1 907 ((v5).toNat)) ≤ 154 := hHT1.c _ _
            refine l_iconst rfl ?_
            refine l_icmp_ne rfl rfl (by unfold rg; omega) (by unfold rg; omega) (fun w207 => ?_) (fun w208 => ?_)
            · refine l_iconst rfl ?_
              refine l_istore rfl rfl rfl ?_
              exact Rl_weak (C69 T1 hHT1 hFT1 (v2) (v3) (v4) (v5) ((-1)) (by omega) (by omega) (by omega) (by omega) (by omega) (by omega) (by omega) (by omega) (by omega) (by omega) (by omega) (by omega)) (And.intro rfl (And.intro rfl (And.intro rfl (And.intro rfl (And.intro rfl (And.intro rfl (And.intro rfl (True.intro))))))))
            · refine l_aload_n rfl rfl ?_
              refine l_iload rfl rfl ?_
              refine l_iconst rfl ?_
              refine l_iload rfl rfl ?_
              refine l_if_eq rfl rfl (by unfold rg; omega) (fun w210 => ?_) (fun w211 => ?_)
              · refine l_bipush rfl rfl ?_
                refine l_callV rfl rfl rfl (t_mo_means hHT1 v5 1 9 ⟨by omega, by omega⟩ ⟨by omega, by omega⟩ ⟨by omega, by omega⟩ (by first | assumption | omega) (by first | assumption | exact (LXM_FR hFT1 rfl (by assumption : LXM S))) _) ?_
                rintro _ _ ⟨rfl, z214, rfl, w214, w213⟩
                show Rl _ _ _ _ _ [iv z214] _ _
                have c60 : 0 ≤ Xi T1 904 47 ∧ Xi T1 904 47 ≤ 8 := hHT1.c _ _
                have x60 : z214 ≠ -1 → z214 < 8 := fun q => by have t := (by assumption : z214 ≠ -1 → z214 < cM T1 _) q; first | (rw [cM9] at t; omega) | (rw [cM10] at t; omega)
                refine l_goto rfl rfl ?_
                refine l_istore rfl rfl rfl ?_
                exact Rl_weak (C69 T1 hHT1 hFT1 (v2) (v3) (v4) (v5) (z214) (by omega) (by omega) (by omega) (by omega) (by omega) (by omega) (by omega) (by omega) (by omega) (by omega) (by omega) (by omega)) (And.intro rfl (And.intro rfl (And.intro rfl (And.intro rfl (And.intro rfl (And.intro rfl (And.intro rfl (True.intro))))))))
              · refine l_bipush rfl rfl ?_
                refine l_goto rfl rfl ?_
                refine l_callV rfl rfl rfl (t_mo_means hHT1 v5 1 10 ⟨by omega, by omega⟩ ⟨by omega, by omega⟩ ⟨by omega, by omega⟩ (by first | assumption | omega) (by first | assumption | exact (LXM_FR hFT1 rfl (by assumption : LXM S))) _) ?_
                rintro _ _ ⟨rfl, z218, rfl, w218, w217⟩
                show Rl _ _ _ _ _ [iv z218] _ _
                have c60 : 0 ≤ Xi T1 904 47 ∧ Xi T1 904 47 ≤ 8 := hHT1.c _ _
                have x60 : z218 ≠ -1 → z218 < 8 := fun q => by have t := (by assumption : z218 ≠ -1 → z218 < cM T1 _) q; first | (rw [cM9] at t; omega) | (rw [cM10] at t; omega)
                refine l_goto rfl rfl ?_
                refine l_istore rfl rfl rfl ?_
                exact Rl_weak (C69 T1 hHT1 hFT1 (v2) (v3) (v4) (v5) (z218) (by omega) (by omega) (by omega) (by omega) (by omega) (by omega) (by omega) (by omega) (by omega) (by omega) (by omega) (by omega)) (And.intro rfl (And.intro rfl (And.intro rfl (And.intro rfl (And.intro rfl (And.intro rfl (And.intro rfl (True.intro))))))))
      refine l_aload_n rfl rfl ?_
      refine l_gfr rfl rfl rfl rfl rfl (hH.r 904 4 907 rfl) ?_
      refine l_iload_n rfl rfl ?_
      refine l_iaload (n := 5002) rfl rfl (by omega) (by omega) (by unfold rg; omega) ?_
      have w220 : 0 ≤ (Xi S 907 ((v2).toNat)) ∧ (Xi S 907 ((v2).toNat)) ≤ 154 := hH.c _ _
      have d7 : v2 = dd → (Xi S 907 ((v2).toNat)) = 46 := fun q => by rw [show (v2).toNat = dd by omega]; exact hd.2.2
      refine l_bipush rfl rfl ?_
      refine l_icmp_eq rfl rfl (by unfold rg; omega) (by unfold rg; omega) (fun w221 => ?_) (fun w222 => ?_)
      · refine l_iconst rfl ?_
        refine l_istore_n rfl rfl rfl ?_
        refine l_iconst rfl ?_
        refine l_istore rfl rfl rfl ?_
        refine l_iload_n rfl rfl ?_
        refine l_istore rfl rfl rfl ?_
        exact Rl_weak (C27 _ S hH hF (v2) (0) (1) (first) (by omega) (by omega) (by omega) (by omega) (by omega) (by omega) (by omega) (by omega) (by omega) (by omega) rfl) (And.intro rfl (And.intro rfl (And.intro rfl (And.intro rfl (And.intro rfl (And.intro rfl (True.intro)))))))
      · refine l_iinc rfl rfl rfl rfl ?_
        refine l_goto rfl rfl ?_
        exact Rl_weak (ih2 _ (by omega) ((v2 + 1)) (by omega) (by omega) (by omega) rfl) (And.intro rfl (And.intro rfl (And.intro rfl (True.intro))))
  refine l_iload_n rfl rfl ?_
  refine l_istore_n rfl rfl rfl ?_
  exact Rl_weak (C2 _ (first) (by omega) (by omega) (by omega) rfl) (And.intro rfl (And.intro rfl (And.intro rfl (True.intro))))
/-- other entries than q stay -/
def KQ (T S : sS) (q : Int) : Prop := ∀ i : Nat, (i : Int) ≠ q → ∀ k : Nat, 969 ≤ k → k ≤ 975 → Xi T k i = Xi S k i
theorem KQ.rf {S : sS} {q : Int} : KQ S S q := fun _ _ _ _ _ => rfl
theorem KQ.w {T U S : sS} {q : Int} {k j : Nat} {v : Int32} (h : KQ T S q) (e : U = uI T k j v) (hj : (k < 969 ∨ 975 < k) ∨ (j : Int) = q) : KQ U S q := fun i hi k2 a b => by
  rw [e, Xi_ne (by omega)]
  exact h i hi k2 a b
theorem KQ.tr {S T U : sS} {q : Int} (h : KQ T S q) (g : KQ U T q) : KQ U S q := fun i hi k a b => (g i hi k a b).trans (h i hi k a b)
theorem kdis_q {l : List rec} {S T : sS} (f : FR l S T) (e : kdis l [(969, 976)] = true) (k : Nat) (a : 969 ≤ k) (b : k ≤ 975) (i : Nat) : Xi T k i = Xi S k i := by
  have q := f.smk e
  rcases (by omega : k = 969 ∨ k = 970 ∨ k = 971 ∨ k = 972 ∨ k = 973 ∨ k = 974 ∨ k = 975) with h | h | h | h | h | h | h <;> subst h <;> exact q.x _ rfl i
theorem KQ_FR {l : List rec} {T U S : sS} {q : Int} (f : FR l T U) (e : kdis l [(969, 976)] = true) (h : KQ T S q) : KQ U S q := fun i hi k a b => (kdis_q f e k a b i).trans (h i hi k a b)
/-- values are of the types that were told -/
def VTM (S : sS) : Prop := ∀ v : Nat, (v : Int) < Xi S 904 30 → 2 ≤ Xi S 927 v
theorem VTM_FR {l : List rec} {S T : sS} (h : FR l S T) (e : (kdis l [(927, 928)] && mD l [30]) = true) (hv : VTM S) : VTM T := by
  rw [Bool.and_eq_true] at e
  have k := h.smk e.1
  unfold VTM
  rw [mD_x h e.2 30 (by decide)]
  simp only [k.x 927 rfl]
  exact hv
def md_mo_whatMeant : List rec := [(904, 905, 104, 105), (904, 905, 105, 106), (904, 905, 106, 107), (973, 974, 0, 100000), (974, 975, 0, 100000)]
abbrev Q_mo_whatMeant (S : sS) (n : Nat) (t : Int) (rr : Int) (type : Int) (q : Int) : pst := fun r S1 => HI S1 ∧ FR md_mo_whatMeant S S1 ∧ (r = none ∧ (Xi S 904 106 ≠ 0 → Xi S1 904 106 ≠ 0) ∧ (OKT (Xi S1 973 q.toNat) (Xi S1 974 q.toNat)) ∧ (KQ S1 S q))
set_option maxRecDepth 100000 in
theorem t_mo_whatMeant {S : sS} (hH : HI S) (n : Nat) (t : Int) (rr : Int) (type : Int) (q : Int) (ht : 0 ≤ t ∧ t ≤ 5001) (hrr : -1 ≤ rr ∧ rr ≤ 2600) (htype : 0 ≤ type ∧ type ≤ 7) (hq : 0 ≤ q ∧ q ≤ 2399) (hT : TK S n) (hv : RNV S n) (hM : LXM S) (hK : TXK S n) (ht : t ≤ n) (hr : Xi S 907 t.toNat ≠ 4 → Xi S 907 t.toNat ≠ 5 → 0 ≤ rr ∧ rr < Xi S 904 69) (d : Nat) : Mt lay0 (d + 5) m_mo_whatMeant [.ref 904, iv t, iv rr, iv type, iv q] S (Q_mo_whatMeant S n t rr type q) := by
  refine Mt_R rfl rfl ?_
  have hF : FR md_mo_whatMeant S S := FR.rf
  have w1 : 0 ≤ Xi S 904 106 ∧ Xi S 904 106 ≤ 9 := hH.c _ _
  have w2 : 0 ≤ Xi S 904 69 ∧ Xi S 904 69 ≤ 2600 := hH.c _ _
  have hn5 := hT.1
  have hc69 : 0 ≤ Xi S 904 69 ∧ Xi S 904 69 ≤ 2600 := hH.c _ _
  have t5 : Xi S 907 t.toNat = 5 → t < n := fun q => tk_lt hT (by omega) ht (by omega)
  have hc30 : 0 ≤ Xi S 904 30 ∧ Xi S 904 30 ≤ 64 := hH.c _ _
  refine l_aload_n rfl rfl ?_
  refine l_gfr rfl rfl rfl rfl rfl (hH.r 904 4 907 rfl) ?_
  refine l_iload_n rfl rfl ?_
  refine l_iaload (n := 5002) rfl rfl (by omega) (by omega) (by unfold rg; omega) ?_
  have w3 : 0 ≤ (Xi S 907 ((t).toNat)) ∧ (Xi S 907 ((t).toNat)) ≤ 154 := hH.c _ _
  refine l_istore rfl rfl rfl ?_
  refine l_aload_n rfl rfl ?_
  refine l_gfr rfl rfl rfl rfl rfl (hH.r 904 122 973 rfl) ?_
  refine l_iload rfl rfl ?_
  refine l_iconst rfl ?_
  refine l_iastore (n := 2400) rfl rfl (by omega) (by omega) (by unfold rg; omega) ?_
  obtain ⟨U1, eU1⟩ : ∃ T : sS, T = uI S 973 ((q).toNat) (Int32.ofInt 0) := ⟨_, rfl⟩
  rw [← eU1]
  have hHU1 : HI U1 := by rw [eU1]; exact HI_any hH (rfl)
  have hFU1 : FR md_mo_whatMeant S U1 := by rw [eU1]; exact FR.wI hF (mdf_i (r := (973, 974, 0, 100000)) (List.mem_of_getElem? (i := 3) rfl) (inR_i (by omega) (by omega) (by omega) (by omega)))
  have w4 : Xi U1 973 ((q).toNat) = 0 := by rw [eU1]; exact Xi_same (by unfold rg; omega)
  have k15 : KQ U1 S q := KQ.w KQ.rf eU1 (by omega)
  refine l_aload_n rfl rfl ?_
  refine l_gfr rfl rfl rfl rfl rfl (hHU1.r 904 123 974 rfl) ?_
  refine l_iload rfl rfl ?_
  refine l_iconst rfl ?_
  refine l_iastore (n := 2400) rfl rfl (by omega) (by omega) (by unfold rg; omega) ?_
  obtain ⟨U2, eU2⟩ : ∃ T : sS, T = uI U1 974 ((q).toNat) (Int32.ofInt 0) := ⟨_, rfl⟩
  rw [← eU2]
  have hHU2 : HI U2 := by rw [eU2]; exact HI_any hHU1 (rfl)
  have hFU2 : FR md_mo_whatMeant S U2 := by rw [eU2]; exact FR.wI hFU1 (mdf_i (r := (974, 975, 0, 100000)) (List.mem_of_getElem? (i := 4) rfl) (inR_i (by omega) (by omega) (by omega) (by omega)))
  have w5 : Xi U2 974 ((q).toNat) = 0 := by rw [eU2]; exact Xi_same (by unfold rg; omega)
  have k23 : KQ U2 S q := KQ.w k15 eU2 (by omega)
  have n23 : Xi U2 974 (q).toNat = 0 := by assumption
  refine l_iload rfl rfl ?_
  refine l_iconst rfl ?_
  refine l_icmp_ne rfl rfl (by unfold rg; omega) (by unfold rg; omega) (fun w6 => ?_) (fun w7 => ?_)
  · refine l_iload rfl rfl ?_
    refine l_iconst rfl ?_
    refine l_icmp_ne rfl rfl (by unfold rg; omega) (by unfold rg; omega) (fun w8 => ?_) (fun w9 => ?_)
    · refine l_aload_n rfl rfl ?_
      refine l_iload_n rfl rfl ?_
      refine l_bipush rfl rfl ?_
      have w14 : Xi U2 904 69 = Xi S 904 69 := (show Xi U2 904 69 = Xi U1 904 69 from by rw [eU2]; exact Xi_ne (by omega)).trans ((show Xi U1 904 69 = Xi S 904 69 from by rw [eU1]; exact Xi_ne (by omega)))
      refine l_callV rfl rfl rfl (t_mo_meansRun__2 hHU2 n rr 6 ⟨by omega, by omega⟩ ⟨by omega, by omega⟩ (by first | assumption | exact (TK_FR hFU2 rfl (by assumption : TK S _))) (by first | assumption | exact (RNV_FR hFU2 rfl (by assumption : RNV S _))) (by first | assumption | omega) (by first | assumption | exact (LXM_FR hFU2 rfl (by assumption : LXM S))) _) ?_
      rintro _ _ ⟨rfl, z18, rfl, w18, w16, w17⟩
      show Rl _ _ _ _ _ [iv z18] _ _
      have c119 : 0 ≤ Xi U2 904 30 ∧ Xi U2 904 30 ≤ 64 := hHU2.c _ _
      have x119 : z18 ≠ -1 → z18 < 64 := fun q => by have t := (by assumption : z18 ≠ -1 → z18 < cM U2 6) q; rw [cM6] at t; omega
      refine l_istore rfl rfl rfl ?_
      refine l_aload_n rfl rfl ?_
      refine l_iload rfl rfl ?_
      refine l_iconst rfl ?_
      refine l_icmp_eq rfl rfl (by unfold rg; omega) (by unfold rg; omega) (fun w19 => ?_) (fun w20 => ?_)
      · refine l_iconst rfl ?_
        refine l_iconst rfl ?_
        refine l_iload_n rfl rfl ?_
        have w21 : Xi U2 904 106 = Xi S 904 106 := (show Xi U2 904 106 = Xi U1 904 106 from by rw [eU2]; exact Xi_ne (by omega)).trans ((show Xi U1 904 106 = Xi S 904 106 from by rw [eU1]; exact Xi_ne (by omega)))
        refine l_callV rfl rfl rfl (t_mo_need hHU2 0 4 t ⟨by omega, by omega⟩ ⟨by omega, by omega⟩ ⟨by omega, by omega⟩ _) ?_
        rintro _ T3 ⟨hHT3, w30, rfl, w27, w28⟩
        have hFT3 : FR md_mo_whatMeant S T3 := FR.tr hFU2 w30 rfl
        show Rl _ _ _ _ _ [] _ _
        have k149 : KQ T3 S q := KQ_FR (by assumption : FR md_mo_need U2 T3) rfl k23
        refine l_aload_n rfl rfl ?_
        refine l_gfr rfl rfl rfl rfl rfl (hHT3.r 904 122 973 rfl) ?_
        refine l_iload rfl rfl ?_
        refine l_iload rfl rfl ?_
        refine l_iastore (n := 2400) rfl rfl (by omega) (by omega) (by unfold rg; omega) ?_
        obtain ⟨U4, eU4⟩ : ∃ T : sS, T = uI T3 973 ((q).toNat) (Int32.ofInt z18) := ⟨_, rfl⟩
        rw [← eU4]
        have hHU4 : HI U4 := by rw [eU4]; exact HI_any hHT3 (rfl)
        have hFU4 : FR md_mo_whatMeant S U4 := by rw [eU4]; exact FR.wI hFT3 (mdf_i (r := (973, 974, 0, 100000)) (List.mem_of_getElem? (i := 3) rfl) (inR_i (by omega) (by omega) (by omega) (by omega)))
        have w31 : Xi U4 973 ((q).toNat) = z18 := by rw [eU4]; exact Xi_same (by unfold rg; omega)
        have k160 : KQ U4 S q := KQ.w k149 eU4 (by omega)
        refine l_return rfl rfl ?_
        have w32 : Xi U4 974 (q).toNat = Xi U2 974 (q).toNat := (show Xi U4 974 (q).toNat = Xi T3 974 (q).toNat from by rw [eU4]; exact Xi_ne (by omega)).trans ((show Xi T3 974 (q).toNat = Xi U2 974 (q).toNat from (w30.cx 974 rfl _).1))
        have w33 : Xi U4 904 106 = Xi T3 904 106 := (show Xi U4 904 106 = Xi T3 904 106 from by rw [eU4]; exact Xi_ne (by omega))
        have w34 : 0 ≤ Xi T3 904 106 ∧ Xi T3 904 106 ≤ 9 := hHT3.c _ _
        exact ⟨hHU4, hFU4, rfl, (by omega), (by first | exact (fun _ => (by unfold OKT; omega)) o110 | exact Or.inl (by omega)), (by first | exact k58 | exact k111 | exact k160)⟩
      · refine l_aload_n rfl rfl ?_
        refine l_gfr rfl rfl rfl rfl rfl (hHU2.r 904 31 927 rfl) ?_
        refine l_iload rfl rfl ?_
        refine l_iaload (n := 64) rfl rfl (by omega) (by omega) (by unfold rg; omega) ?_
        have w39 : 0 ≤ (Xi U2 927 ((z18).toNat)) ∧ (Xi U2 927 ((z18).toNat)) ≤ 7 := hHU2.c _ _
        refine l_iload_n rfl rfl ?_
        refine l_icmp_ne rfl rfl (by unfold rg; omega) (by unfold rg; omega) (fun w40 => ?_) (fun w41 => ?_)
        · refine l_iconst rfl ?_
          refine l_iconst rfl ?_
          refine l_iload_n rfl rfl ?_
          have w42 : Xi U2 904 106 = Xi S 904 106 := (show Xi U2 904 106 = Xi U1 904 106 from by rw [eU2]; exact Xi_ne (by omega)).trans ((show Xi U1 904 106 = Xi S 904 106 from by rw [eU1]; exact Xi_ne (by omega)))
          refine l_callV rfl rfl rfl (t_mo_need hHU2 0 4 t ⟨by omega, by omega⟩ ⟨by omega, by omega⟩ ⟨by omega, by omega⟩ _) ?_
          rintro _ T5 ⟨hHT5, w51, rfl, w48, w49⟩
          have hFT5 : FR md_mo_whatMeant S T5 := FR.tr hFU2 w51 rfl
          show Rl _ _ _ _ _ [] _ _
          have k149 : KQ T5 S q := KQ_FR (by assumption : FR md_mo_need U2 T5) rfl k23
          refine l_aload_n rfl rfl ?_
          refine l_gfr rfl rfl rfl rfl rfl (hHT5.r 904 122 973 rfl) ?_
          refine l_iload rfl rfl ?_
          refine l_iload rfl rfl ?_
          refine l_iastore (n := 2400) rfl rfl (by omega) (by omega) (by unfold rg; omega) ?_
          obtain ⟨U6, eU6⟩ : ∃ T : sS, T = uI T5 973 ((q).toNat) (Int32.ofInt z18) := ⟨_, rfl⟩
          rw [← eU6]
          have hHU6 : HI U6 := by rw [eU6]; exact HI_any hHT5 (rfl)
          have hFU6 : FR md_mo_whatMeant S U6 := by rw [eU6]; exact FR.wI hFT5 (mdf_i (r := (973, 974, 0, 100000)) (List.mem_of_getElem? (i := 3) rfl) (inR_i (by omega) (by omega) (by omega) (by omega)))
          have w52 : Xi U6 973 ((q).toNat) = z18 := by rw [eU6]; exact Xi_same (by unfold rg; omega)
          have k160 : KQ U6 S q := KQ.w k149 eU6 (by omega)
          refine l_return rfl rfl ?_
          have w53 : Xi U6 974 (q).toNat = Xi U2 974 (q).toNat := (show Xi U6 974 (q).toNat = Xi T5 974 (q).toNat from by rw [eU6]; exact Xi_ne (by omega)).trans ((show Xi T5 974 (q).toNat = Xi U2 974 (q).toNat from (w51.cx 974 rfl _).1))
          have w54 : Xi U6 904 106 = Xi T5 904 106 := (show Xi U6 904 106 = Xi T5 904 106 from by rw [eU6]; exact Xi_ne (by omega))
          have w55 : 0 ≤ Xi T5 904 106 ∧ Xi T5 904 106 ≤ 9 := hHT5.c _ _
          exact ⟨hHU6, hFU6, rfl, (by omega), (by first | exact (fun _ => (by unfold OKT; omega)) o110 | exact Or.inl (by omega)), (by first | exact k58 | exact k111 | exact k160)⟩
        · refine l_iconst rfl ?_
          refine l_goto rfl rfl ?_
          refine l_iconst rfl ?_
          refine l_iload_n rfl rfl ?_
          have w60 : Xi U2 904 106 = Xi S 904 106 := (show Xi U2 904 106 = Xi U1 904 106 from by rw [eU2]; exact Xi_ne (by omega)).trans ((show Xi U1 904 106 = Xi S 904 106 from by rw [eU1]; exact Xi_ne (by omega)))
          refine l_callV rfl rfl rfl (t_mo_need hHU2 1 4 t ⟨by omega, by omega⟩ ⟨by omega, by omega⟩ ⟨by omega, by omega⟩ _) ?_
          rintro _ T7 ⟨hHT7, w69, rfl, w66, w67⟩
          have hFT7 : FR md_mo_whatMeant S T7 := FR.tr hFU2 w69 rfl
          show Rl _ _ _ _ _ [] _ _
          have k149 : KQ T7 S q := KQ_FR (by assumption : FR md_mo_need U2 T7) rfl k23
          refine l_aload_n rfl rfl ?_
          refine l_gfr rfl rfl rfl rfl rfl (hHT7.r 904 122 973 rfl) ?_
          refine l_iload rfl rfl ?_
          refine l_iload rfl rfl ?_
          refine l_iastore (n := 2400) rfl rfl (by omega) (by omega) (by unfold rg; omega) ?_
          obtain ⟨U8, eU8⟩ : ∃ T : sS, T = uI T7 973 ((q).toNat) (Int32.ofInt z18) := ⟨_, rfl⟩
          rw [← eU8]
          have hHU8 : HI U8 := by rw [eU8]; exact HI_any hHT7 (rfl)
          have hFU8 : FR md_mo_whatMeant S U8 := by rw [eU8]; exact FR.wI hFT7 (mdf_i (r := (973, 974, 0, 100000)) (List.mem_of_getElem? (i := 3) rfl) (inR_i (by omega) (by omega) (by omega) (by omega)))
          have w70 : Xi U8 973 ((q).toNat) = z18 := by rw [eU8]; exact Xi_same (by unfold rg; omega)
          have k160 : KQ U8 S q := KQ.w k149 eU8 (by omega)
          refine l_return rfl rfl ?_
          have w71 : Xi U8 974 (q).toNat = Xi U2 974 (q).toNat := (show Xi U8 974 (q).toNat = Xi T7 974 (q).toNat from by rw [eU8]; exact Xi_ne (by omega)).trans ((show Xi T7 974 (q).toNat = Xi U2 974 (q).toNat from (w69.cx 974 rfl _).1))
          have w72 : Xi U8 904 106 = Xi T7 904 106 := (show Xi U8 904 106 = Xi T7 904 106 from by rw [eU8]; exact Xi_ne (by omega))
          have w73 : 0 ≤ Xi T7 904 106 ∧ Xi T7 904 106 ≤ 9 := hHT7.c _ _
          exact ⟨hHU8, hFU8, rfl, (by omega), (by first | exact (fun _ => (by unfold OKT; omega)) o110 | exact Or.inl (by omega)), (by first | exact k58 | exact k111 | exact k160)⟩
    · refine l_aload_n rfl rfl ?_
      refine l_iload_n rfl rfl ?_
      refine l_iconst rfl ?_
      refine l_icmp_ne rfl rfl (by unfold rg; omega) (by unfold rg; omega) (fun w78 => ?_) (fun w79 => ?_)
      · refine l_iconst rfl ?_
        refine l_iconst rfl ?_
        refine l_iload_n rfl rfl ?_
        have w80 : Xi U2 904 106 = Xi S 904 106 := (show Xi U2 904 106 = Xi U1 904 106 from by rw [eU2]; exact Xi_ne (by omega)).trans ((show Xi U1 904 106 = Xi S 904 106 from by rw [eU1]; exact Xi_ne (by omega)))
        refine l_callV rfl rfl rfl (t_mo_need hHU2 0 4 t ⟨by omega, by omega⟩ ⟨by omega, by omega⟩ ⟨by omega, by omega⟩ _) ?_
        rintro _ T9 ⟨hHT9, w89, rfl, w86, w87⟩
        have hFT9 : FR md_mo_whatMeant S T9 := FR.tr hFU2 w89 rfl
        show Rl _ _ _ _ _ [] _ _
        have k81 : KQ T9 S q := KQ_FR (by assumption : FR md_mo_need U2 T9) rfl k23
        refine l_aload_n rfl rfl ?_
        refine l_gfr rfl rfl rfl rfl rfl (hHT9.r 904 122 973 rfl) ?_
        refine l_iload rfl rfl ?_
        refine l_aload_n rfl rfl ?_
        refine l_gfr rfl rfl rfl rfl rfl (hHT9.r 904 5 908 rfl) ?_
        refine l_iload_n rfl rfl ?_
        refine l_iaload (n := 5002) rfl rfl (by omega) (by omega) (by unfold rg; omega) ?_
        have w90 : 0 ≤ (Xi T9 908 ((t).toNat)) ∧ (Xi T9 908 ((t).toNat)) ≤ 5000 := hHT9.c _ _
        have e95 : (Xi T9 908 ((t).toNat)) = Xi S 908 (t).toNat := by first | rfl | exact (hFT9.cx 908 rfl _).1
        refine l_iconst rfl ?_
        refine l_iadd rfl ?_
        refine l_iastore (n := 2400) rfl rfl (by omega) (by omega) (by unfold rg; omega) ?_
        obtain ⟨U10, eU10⟩ : ∃ T : sS, T = uI T9 973 ((q).toNat) (Int32.ofInt ((Xi T9 908 ((t).toNat)) + 1)) := ⟨_, rfl⟩
        rw [← eU10]
        have hHU10 : HI U10 := by rw [eU10]; exact HI_any hHT9 (rfl)
        have hFU10 : FR md_mo_whatMeant S U10 := by rw [eU10]; exact FR.wI hFT9 (mdf_i (r := (973, 974, 0, 100000)) (List.mem_of_getElem? (i := 3) rfl) (inR_i (by omega) (by omega) (by omega) (by omega)))
        have w91 : Xi U10 973 ((q).toNat) = ((Xi T9 908 ((t).toNat)) + 1) := by rw [eU10]; exact Xi_same (by unfold rg; omega)
        have k98 : KQ U10 S q := KQ.w k81 eU10 (by omega)
        refine l_aload_n rfl rfl ?_
        refine l_gfr rfl rfl rfl rfl rfl (hHU10.r 904 123 974 rfl) ?_
        refine l_iload rfl rfl ?_
        refine l_aload_n rfl rfl ?_
        refine l_gfr rfl rfl rfl rfl rfl (hHU10.r 904 6 909 rfl) ?_
        refine l_iload_n rfl rfl ?_
        refine l_iaload (n := 5002) rfl rfl (by omega) (by omega) (by unfold rg; omega) ?_
        have w92 : 0 ≤ (Xi U10 909 ((t).toNat)) ∧ (Xi U10 909 ((t).toNat)) ≤ 5000 := hHU10.c _ _
        have e110 : (Xi U10 909 ((t).toNat)) = Xi S 909 (t).toNat := by first | rfl | exact (hFU10.cx 909 rfl _).1
        have o110 : Xi S 908 (t).toNat + 1 + Xi S 909 (t).toNat ≤ 5000 := hK (t).toNat (by omega) (by omega)
        have g110 : 0 ≤ Xi S 909 (t).toNat ∧ 0 ≤ Xi S 908 (t).toNat := ⟨(hH.c 909 _).1, (hH.c 908 _).1⟩
        refine l_iastore (n := 2400) rfl rfl (by omega) (by omega) (by unfold rg; omega) ?_
        obtain ⟨U11, eU11⟩ : ∃ T : sS, T = uI U10 974 ((q).toNat) (Int32.ofInt (Xi U10 909 ((t).toNat))) := ⟨_, rfl⟩
        rw [← eU11]
        have hHU11 : HI U11 := by rw [eU11]; exact HI_any hHU10 (rfl)
        have hFU11 : FR md_mo_whatMeant S U11 := by rw [eU11]; exact FR.wI hFU10 (mdf_i (r := (974, 975, 0, 100000)) (List.mem_of_getElem? (i := 4) rfl) (inR_i (by omega) (by omega) (by omega) (by omega)))
        have w93 : Xi U11 974 ((q).toNat) = (Xi U10 909 ((t).toNat)) := by rw [eU11]; exact Xi_same (by unfold rg; omega)
        have k111 : KQ U11 S q := KQ.w k98 eU11 (by omega)
        refine l_goto rfl rfl ?_
        refine l_return rfl rfl ?_
        have w94 : Xi U11 973 (q).toNat = Xi U10 973 (q).toNat := (show Xi U11 973 (q).toNat = Xi U10 973 (q).toNat from by rw [eU11]; exact Xi_ne (by omega))
        have w95 : Xi U11 904 106 = Xi T9 904 106 := (show Xi U11 904 106 = Xi U10 904 106 from by rw [eU11]; exact Xi_ne (by omega)).trans ((show Xi U10 904 106 = Xi T9 904 106 from by rw [eU10]; exact Xi_ne (by omega)))
        have w96 : 0 ≤ Xi T9 904 106 ∧ Xi T9 904 106 ≤ 9 := hHT9.c _ _
        exact ⟨hHU11, hFU11, rfl, (by omega), (by first | exact (fun _ => (by unfold OKT; omega)) o110 | exact Or.inl (by omega)), (by first | exact k58 | exact k111 | exact k160)⟩
      · refine l_iconst rfl ?_
        refine l_goto rfl rfl ?_
        refine l_iconst rfl ?_
        refine l_iload_n rfl rfl ?_
        have w101 : Xi U2 904 106 = Xi S 904 106 := (show Xi U2 904 106 = Xi U1 904 106 from by rw [eU2]; exact Xi_ne (by omega)).trans ((show Xi U1 904 106 = Xi S 904 106 from by rw [eU1]; exact Xi_ne (by omega)))
        refine l_callV rfl rfl rfl (t_mo_need hHU2 1 4 t ⟨by omega, by omega⟩ ⟨by omega, by omega⟩ ⟨by omega, by omega⟩ _) ?_
        rintro _ T12 ⟨hHT12, w110, rfl, w107, w108⟩
        have hFT12 : FR md_mo_whatMeant S T12 := FR.tr hFU2 w110 rfl
        show Rl _ _ _ _ _ [] _ _
        have k81 : KQ T12 S q := KQ_FR (by assumption : FR md_mo_need U2 T12) rfl k23
        refine l_aload_n rfl rfl ?_
        refine l_gfr rfl rfl rfl rfl rfl (hHT12.r 904 122 973 rfl) ?_
        refine l_iload rfl rfl ?_
        refine l_aload_n rfl rfl ?_
        refine l_gfr rfl rfl rfl rfl rfl (hHT12.r 904 5 908 rfl) ?_
        refine l_iload_n rfl rfl ?_
        refine l_iaload (n := 5002) rfl rfl (by omega) (by omega) (by unfold rg; omega) ?_
        have w111 : 0 ≤ (Xi T12 908 ((t).toNat)) ∧ (Xi T12 908 ((t).toNat)) ≤ 5000 := hHT12.c _ _
        have e95 : (Xi T12 908 ((t).toNat)) = Xi S 908 (t).toNat := by first | rfl | exact (hFT12.cx 908 rfl _).1
        refine l_iconst rfl ?_
        refine l_iadd rfl ?_
        refine l_iastore (n := 2400) rfl rfl (by omega) (by omega) (by unfold rg; omega) ?_
        obtain ⟨U13, eU13⟩ : ∃ T : sS, T = uI T12 973 ((q).toNat) (Int32.ofInt ((Xi T12 908 ((t).toNat)) + 1)) := ⟨_, rfl⟩
        rw [← eU13]
        have hHU13 : HI U13 := by rw [eU13]; exact HI_any hHT12 (rfl)
        have hFU13 : FR md_mo_whatMeant S U13 := by rw [eU13]; exact FR.wI hFT12 (mdf_i (r := (973, 974, 0, 100000)) (List.mem_of_getElem? (i := 3) rfl) (inR_i (by omega) (by omega) (by omega) (by omega)))
        have w112 : Xi U13 973 ((q).toNat) = ((Xi T12 908 ((t).toNat)) + 1) := by rw [eU13]; exact Xi_same (by unfold rg; omega)
        have k98 : KQ U13 S q := KQ.w k81 eU13 (by omega)
        refine l_aload_n rfl rfl ?_
        refine l_gfr rfl rfl rfl rfl rfl (hHU13.r 904 123 974 rfl) ?_
        refine l_iload rfl rfl ?_
        refine l_aload_n rfl rfl ?_
        refine l_gfr rfl rfl rfl rfl rfl (hHU13.r 904 6 909 rfl) ?_
        refine l_iload_n rfl rfl ?_
        refine l_iaload (n := 5002) rfl rfl (by omega) (by omega) (by unfold rg; omega) ?_
        have w113 : 0 ≤ (Xi U13 909 ((t).toNat)) ∧ (Xi U13 909 ((t).toNat)) ≤ 5000 := hHU13.c _ _
        have e110 : (Xi U13 909 ((t).toNat)) = Xi S 909 (t).toNat := by first | rfl | exact (hFU13.cx 909 rfl _).1
        have o110 : Xi S 908 (t).toNat + 1 + Xi S 909 (t).toNat ≤ 5000 := hK (t).toNat (by omega) (by omega)
        have g110 : 0 ≤ Xi S 909 (t).toNat ∧ 0 ≤ Xi S 908 (t).toNat := ⟨(hH.c 909 _).1, (hH.c 908 _).1⟩
        refine l_iastore (n := 2400) rfl rfl (by omega) (by omega) (by unfold rg; omega) ?_
        obtain ⟨U14, eU14⟩ : ∃ T : sS, T = uI U13 974 ((q).toNat) (Int32.ofInt (Xi U13 909 ((t).toNat))) := ⟨_, rfl⟩
        rw [← eU14]
        have hHU14 : HI U14 := by rw [eU14]; exact HI_any hHU13 (rfl)
        have hFU14 : FR md_mo_whatMeant S U14 := by rw [eU14]; exact FR.wI hFU13 (mdf_i (r := (974, 975, 0, 100000)) (List.mem_of_getElem? (i := 4) rfl) (inR_i (by omega) (by omega) (by omega) (by omega)))
        have w114 : Xi U14 974 ((q).toNat) = (Xi U13 909 ((t).toNat)) := by rw [eU14]; exact Xi_same (by unfold rg; omega)
        have k111 : KQ U14 S q := KQ.w k98 eU14 (by omega)
        refine l_goto rfl rfl ?_
        refine l_return rfl rfl ?_
        have w115 : Xi U14 973 (q).toNat = Xi U13 973 (q).toNat := (show Xi U14 973 (q).toNat = Xi U13 973 (q).toNat from by rw [eU14]; exact Xi_ne (by omega))
        have w116 : Xi U14 904 106 = Xi T12 904 106 := (show Xi U14 904 106 = Xi U13 904 106 from by rw [eU14]; exact Xi_ne (by omega)).trans ((show Xi U13 904 106 = Xi T12 904 106 from by rw [eU13]; exact Xi_ne (by omega)))
        have w117 : 0 ≤ Xi T12 904 106 ∧ Xi T12 904 106 ≤ 9 := hHT12.c _ _
        exact ⟨hHU14, hFU14, rfl, (by omega), (by first | exact (fun _ => (by unfold OKT; omega)) o110 | exact Or.inl (by omega)), (by first | exact k58 | exact k111 | exact k160)⟩
  · refine l_aload_n rfl rfl ?_
    refine l_iload_n rfl rfl ?_
    refine l_if_ne rfl rfl (by unfold rg; omega) (fun w122 => ?_) (fun w123 => ?_)
    · refine l_iconst rfl ?_
      refine l_iconst rfl ?_
      refine l_iload_n rfl rfl ?_
      have w124 : Xi U2 904 106 = Xi S 904 106 := (show Xi U2 904 106 = Xi U1 904 106 from by rw [eU2]; exact Xi_ne (by omega)).trans ((show Xi U1 904 106 = Xi S 904 106 from by rw [eU1]; exact Xi_ne (by omega)))
      refine l_callV rfl rfl rfl (t_mo_need hHU2 0 4 t ⟨by omega, by omega⟩ ⟨by omega, by omega⟩ ⟨by omega, by omega⟩ _) ?_
      rintro _ T15 ⟨hHT15, w133, rfl, w130, w131⟩
      have hFT15 : FR md_mo_whatMeant S T15 := FR.tr hFU2 w133 rfl
      show Rl _ _ _ _ _ [] _ _
      have k42 : KQ T15 S q := KQ_FR (by assumption : FR md_mo_need U2 T15) rfl k23
      refine l_aload_n rfl rfl ?_
      refine l_gfr rfl rfl rfl rfl rfl (hHT15.r 904 122 973 rfl) ?_
      refine l_iload rfl rfl ?_
      refine l_aload_n rfl rfl ?_
      refine l_gfr rfl rfl rfl rfl rfl (hHT15.r 904 7 910 rfl) ?_
      refine l_iload_n rfl rfl ?_
      refine l_laload (n := 5002) rfl rfl (by omega) (by omega) (by unfold rg; omega) ?_
      have w134 : -9223372036854775808 ≤ (Xj T15 910 ((t).toNat)) ∧ (Xj T15 910 ((t).toNat)) < 9223372036854775808 := Xj_rg
      refine l_l2iA rfl (fun c135 w135 => ?_)
      refine l_iastore (n := 2400) rfl rfl (by omega) (by omega) (by unfold rg; omega) ?_
      obtain ⟨U16, eU16⟩ : ∃ T : sS, T = uI T15 973 ((q).toNat) (Int32.ofInt c135) := ⟨_, rfl⟩
      rw [← eU16]
      have hHU16 : HI U16 := by rw [eU16]; exact HI_any hHT15 (rfl)
      have hFU16 : FR md_mo_whatMeant S U16 := by rw [eU16]; exact FR.wI hFT15 (mdf_i (r := (973, 974, 0, 100000)) (List.mem_of_getElem? (i := 3) rfl) (inR_i (by omega) (by omega) (by omega) (by omega)))
      have w136 : Xi U16 973 ((q).toNat) = c135 := by rw [eU16]; exact Xi_same (by unfold rg; omega)
      have k58 : KQ U16 S q := KQ.w k42 eU16 (by omega)
      refine l_goto rfl rfl ?_
      refine l_return rfl rfl ?_
      have w137 : Xi U16 974 (q).toNat = Xi U2 974 (q).toNat := (show Xi U16 974 (q).toNat = Xi T15 974 (q).toNat from by rw [eU16]; exact Xi_ne (by omega)).trans ((show Xi T15 974 (q).toNat = Xi U2 974 (q).toNat from (w133.cx 974 rfl _).1))
      have w138 : Xi U16 904 106 = Xi T15 904 106 := (show Xi U16 904 106 = Xi T15 904 106 from by rw [eU16]; exact Xi_ne (by omega))
      have w139 : 0 ≤ Xi T15 904 106 ∧ Xi T15 904 106 ≤ 9 := hHT15.c _ _
      exact ⟨hHU16, hFU16, rfl, (by omega), (by first | exact (fun _ => (by unfold OKT; omega)) o110 | exact Or.inl (by omega)), (by first | exact k58 | exact k111 | exact k160)⟩
    · refine l_iconst rfl ?_
      refine l_goto rfl rfl ?_
      refine l_iconst rfl ?_
      refine l_iload_n rfl rfl ?_
      have w144 : Xi U2 904 106 = Xi S 904 106 := (show Xi U2 904 106 = Xi U1 904 106 from by rw [eU2]; exact Xi_ne (by omega)).trans ((show Xi U1 904 106 = Xi S 904 106 from by rw [eU1]; exact Xi_ne (by omega)))
      refine l_callV rfl rfl rfl (t_mo_need hHU2 1 4 t ⟨by omega, by omega⟩ ⟨by omega, by omega⟩ ⟨by omega, by omega⟩ _) ?_
      rintro _ T17 ⟨hHT17, w153, rfl, w150, w151⟩
      have hFT17 : FR md_mo_whatMeant S T17 := FR.tr hFU2 w153 rfl
      show Rl _ _ _ _ _ [] _ _
      have k42 : KQ T17 S q := KQ_FR (by assumption : FR md_mo_need U2 T17) rfl k23
      refine l_aload_n rfl rfl ?_
      refine l_gfr rfl rfl rfl rfl rfl (hHT17.r 904 122 973 rfl) ?_
      refine l_iload rfl rfl ?_
      refine l_aload_n rfl rfl ?_
      refine l_gfr rfl rfl rfl rfl rfl (hHT17.r 904 7 910 rfl) ?_
      refine l_iload_n rfl rfl ?_
      refine l_laload (n := 5002) rfl rfl (by omega) (by omega) (by unfold rg; omega) ?_
      have w154 : -9223372036854775808 ≤ (Xj T17 910 ((t).toNat)) ∧ (Xj T17 910 ((t).toNat)) < 9223372036854775808 := Xj_rg
      refine l_l2iA rfl (fun c155 w155 => ?_)
      refine l_iastore (n := 2400) rfl rfl (by omega) (by omega) (by unfold rg; omega) ?_
      obtain ⟨U18, eU18⟩ : ∃ T : sS, T = uI T17 973 ((q).toNat) (Int32.ofInt c155) := ⟨_, rfl⟩
      rw [← eU18]
      have hHU18 : HI U18 := by rw [eU18]; exact HI_any hHT17 (rfl)
      have hFU18 : FR md_mo_whatMeant S U18 := by rw [eU18]; exact FR.wI hFT17 (mdf_i (r := (973, 974, 0, 100000)) (List.mem_of_getElem? (i := 3) rfl) (inR_i (by omega) (by omega) (by omega) (by omega)))
      have w156 : Xi U18 973 ((q).toNat) = c155 := by rw [eU18]; exact Xi_same (by unfold rg; omega)
      have k58 : KQ U18 S q := KQ.w k42 eU18 (by omega)
      refine l_goto rfl rfl ?_
      refine l_return rfl rfl ?_
      have w157 : Xi U18 974 (q).toNat = Xi U2 974 (q).toNat := (show Xi U18 974 (q).toNat = Xi T17 974 (q).toNat from by rw [eU18]; exact Xi_ne (by omega)).trans ((show Xi T17 974 (q).toNat = Xi U2 974 (q).toNat from (w153.cx 974 rfl _).1))
      have w158 : Xi U18 904 106 = Xi T17 904 106 := (show Xi U18 904 106 = Xi T17 904 106 from by rw [eU18]; exact Xi_ne (by omega))
      have w159 : 0 ≤ Xi T17 904 106 ∧ Xi T17 904 106 ≤ 9 := hHT17.c _ _
      exact ⟨hHU18, hFU18, rfl, (by omega), (by first | exact (fun _ => (by unfold OKT; omega)) o110 | exact Or.inl (by omega)), (by first | exact k58 | exact k111 | exact k160)⟩
/-- a saying that was found -/
def SYQ (S : sS) (q : Int) : Prop := thK S (0 ≤ Xi S 904 115) (0 ≤ Xi S 904 116) (Xi S 971 q.toNat) ∧ thK S (0 ≤ Xi S 904 115) (0 ≤ Xi S 904 116) (Xi S 975 q.toNat) ∧ 0 ≤ Xi S 972 q.toNat ∧ Xi S 972 q.toNat ≤ 5
theorem syq_i {P U1 U2 U3 : sS} {a b r q : Int} {j : Nat} (e1 : U1 = uI P 971 j (Int32.ofInt a)) (e2 : U2 = uI U1 975 j (Int32.ofInt b)) (e3 : U3 = uI U2 972 j (Int32.ofInt r)) (ha : (a ≠ -9 → a ≠ -1 → a ≠ -2 → 0 ≤ a ∧ a < Xi P 904 19) ∧ (a = -1 → 0 ≤ Xi P 904 115) ∧ (a = -2 → 0 ≤ Xi P 904 116)) (hb : (b ≠ -9 → b ≠ -1 → b ≠ -2 → 0 ≤ b ∧ b < Xi P 904 19) ∧ (b = -1 → 0 ≤ Xi P 904 115) ∧ (b = -2 → 0 ≤ Xi P 904 116)) (h1 : -9 < a ∧ a ≤ 23) (h2 : -9 < b ∧ b ≤ 23) (hr : 0 ≤ r ∧ r ≤ 5) (hj : j = q.toNat) (h9 : -2 ≤ a ∧ -2 ≤ b) : SYQ U3 q := by
  have x : ∀ k i, k ≠ 971 → k ≠ 975 → k ≠ 972 → Xi U3 k i = Xi P k i := fun k i c1 c2 c3 => by rw [e3, Xi_ne (by omega), e2, Xi_ne (by omega), e1, Xi_ne (by omega)]
  have y1 : Xi U3 971 q.toNat = a := by rw [e3, Xi_ne (by omega), e2, Xi_ne (by omega), e1, hj]; exact Xi_same ⟨by omega, by omega⟩
  have y2 : Xi U3 975 q.toNat = b := by rw [e3, Xi_ne (by omega), e2, hj]; exact Xi_same ⟨by omega, by omega⟩
  have y3 : Xi U3 972 q.toNat = r := by rw [e3, hj]; exact Xi_same ⟨by omega, by omega⟩
  unfold SYQ thK
  rw [y1, y2, y3, x 904 19 (by decide) (by decide) (by decide), x 904 115 (by decide) (by decide) (by decide), x 904 116 (by decide) (by decide) (by decide)]
  refine ⟨?_, ?_, hr.1, hr.2⟩
  · omega
  · omega
def md_mo_sayings : List rec := [(971, 972, 0, 100000), (972, 973, 0, 100000), (975, 976, 0, 100000)]
abbrev Q_mo_sayings (S : sS) (from_ : Int) (to : Int) (q : Int) : pst := fun r S1 => HI S1 ∧ FR md_mo_sayings S S1 ∧ (∃ z : Int, r = some (iv z) ∧ (0 ≤ z ∧ z ≤ 5002) ∧ (1 ≤ z → SYQ S1 q) ∧ (KQ S1 S q))
set_option maxRecDepth 100000 in
theorem t_mo_sayings {S : sS} (hH : HI S) (from_ : Int) (to : Int) (q : Int) (hfrom_ : 0 ≤ from_ ∧ from_ ≤ 5001) (hto : 0 ≤ to ∧ to ≤ 5001) (hq : 0 ≤ q ∧ q ≤ 2399) (hM : LXM S) (hB : ABV S) (hft : from_ ≤ to) (d : Nat) : Mt lay0 (d + 6) m_mo_sayings [.ref 904, iv from_, iv to, iv q] S (Q_mo_sayings S from_ to q) := by
  refine Mt_R rfl rfl ?_
  have hF : FR md_mo_sayings S S := FR.rf
  have hc47 : 0 ≤ Xi S 904 47 ∧ Xi S 904 47 ≤ 8 := hH.c _ _
  have C8 : ∀ (n8 : Nat) (T1 : sS) (_ : HI T1) (_ : FR md_mo_sayings S T1) (v4 : Int) (v5 : Int), (0 ≤ v4 ∧ v4 ≤ 5002) → (1 ≤ v5 ∧ v5 ≤ 5002) → (from_ < v5) → (v5 ≤ to + 1) → (v4 ≤ v5 - from_ - 1) → (KQ T1 S q) → (1 ≤ v4 → SYQ T1 q) → n8 = (5003 - v5).toNat → Rl lay0 (d + 5) m_mo_sayings 8 [(0, .ref 904), (1, iv from_), (2, iv to), (3, iv q), (4, iv v4), (5, iv v5)] [] T1 (Q_mo_sayings S from_ to q) := by
    intro n8
    induction n8 using Nat.strongRecOn with
    | ind n8 ih8 =>
      intro T1 hHT1 hFT1 v4 v5 w1 w2 w3 w4 w5 K8 E8 hm8
      have w6 : Xi T1 904 115 = Xi S 904 115 := hFT1.x _ _ rfl
      have w7 : Xi T1 904 116 = Xi S 904 116 := hFT1.x _ _ rfl
      have w8 : Xi T1 904 19 = Xi S 904 19 := hFT1.x _ _ rfl
      have C42 : ∀  (T2 : sS) (_ : HI T2) (_ : FR md_mo_sayings S T2) (v4 : Int) (v5 : Int) (v6 : Int), (0 ≤ v4 ∧ v4 ≤ 5002) → (1 ≤ v5 ∧ v5 ≤ 5001) → (-1 ≤ v6 ∧ v6 ≤ 7) → (from_ < v5) → (v5 + 1 < to) → (v4 ≤ v5 - from_ - 1) → (KQ T2 S q) → (1 ≤ v4 → SYQ T2 q) → ((5003 - v5).toNat ≤ n8) → Rl lay0 (d + 5) m_mo_sayings 42 [(0, .ref 904), (1, iv from_), (2, iv to), (3, iv q), (4, iv v4), (5, iv v5), (6, iv v6)] [] T2 (Q_mo_sayings S from_ to q) := by
        intro T2 hHT2 hFT2 v4 v5 v6 w9 w10 w11 w12 w13 w14 K42 E42 w15
        have w16 : Xi T2 904 115 = Xi S 904 115 := hFT2.x _ _ rfl
        have w17 : Xi T2 904 116 = Xi S 904 116 := hFT2.x _ _ rfl
        have w18 : Xi T2 904 19 = Xi S 904 19 := hFT2.x _ _ rfl
        have C141 : ∀  (T3 : sS) (_ : HI T3) (_ : FR md_mo_sayings S T3) (v4 : Int) (v5 : Int), (0 ≤ v4 ∧ v4 ≤ 5002) → (1 ≤ v5 ∧ v5 ≤ 5001) → (from_ < v5) → (v5 + 1 < to) → (v4 ≤ v5 - from_) → (KQ T3 S q) → (1 ≤ v4 → SYQ T3 q) → ((5003 - v5).toNat ≤ n8) → Rl lay0 (d + 5) m_mo_sayings 141 [(0, .ref 904), (1, iv from_), (2, iv to), (3, iv q), (4, iv v4), (5, iv v5)] [] T3 (Q_mo_sayings S from_ to q) := by
          intro T3 hHT3 hFT3 v4 v5 w19 w20 w21 w22 w23 K141 E141 w24
          have w25 : Xi T3 904 115 = Xi S 904 115 := hFT3.x _ _ rfl
          have w26 : Xi T3 904 116 = Xi S 904 116 := hFT3.x _ _ rfl
          have w27 : Xi T3 904 19 = Xi S 904 19 := hFT3.x _ _ rfl
          refine l_iinc rfl rfl rfl rfl ?_
          refine l_goto rfl rfl ?_
          exact Rl_weak (ih8 _ (by omega) T3 hHT3 hFT3 (v4) ((v5 + 1)) (by omega) (by omega) (by omega) (by omega) (by omega) (by first | exact KQ.rf | exact K141) (by first | exact fun q1 => absurd q1 (by omega) | exact E141) rfl) (And.intro rfl (And.intro rfl (And.intro rfl (And.intro rfl (And.intro rfl (And.intro rfl (True.intro)))))))
        refine l_iload rfl rfl ?_
        refine l_iconst rfl ?_
        refine l_icmp_eq rfl rfl (by unfold rg; omega) (by unfold rg; omega) (fun w28 => ?_) (fun w29 => ?_)
        · exact Rl_weak (C141 T2 hHT2 hFT2 (v4) (v5) (by omega) (by omega) (by omega) (by omega) (by omega) (by assumption) (by first | exact fun _ => E137 | exact E42 | exact fun _ => E42 (by omega)) (by omega)) (And.intro rfl (And.intro rfl (And.intro rfl (And.intro rfl (And.intro rfl (And.intro rfl (True.intro)))))))
        · refine l_aload_n rfl rfl ?_
          refine l_gfr rfl rfl rfl rfl rfl (hHT2.r 904 48 941 rfl) ?_
          refine l_iload rfl rfl ?_
          refine l_iaload (n := 8) rfl rfl (by omega) (by omega) (by unfold rg; omega) ?_
          have w30 : 0 ≤ (Xi T2 941 ((v6).toNat)) ∧ (Xi T2 941 ((v6).toNat)) ≤ 5 := hHT2.c _ _
          refine l_istore rfl rfl rfl ?_
          refine l_aload_n rfl rfl ?_
          refine l_iload_n rfl rfl ?_
          refine l_iload rfl rfl ?_
          have w31 : -1 ≤ Xi T2 904 115 ∧ Xi T2 904 115 ≤ 15 := hHT2.c _ _
          have w32 : -1 ≤ Xi T2 904 116 ∧ Xi T2 904 116 ≤ 15 := hHT2.c _ _
          have w33 : 0 ≤ Xi T2 904 19 ∧ Xi T2 904 19 ≤ 24 := hHT2.c _ _
          refine l_callV rfl rfl rfl (t_mo_thingOf hHT2 from_ v5 ⟨by omega, by omega⟩ ⟨by omega, by omega⟩ (by first | assumption | exact (LXM_FR hFT2 rfl (by assumption : LXM S))) _) ?_
          rintro _ _ ⟨rfl, z37, rfl, w37, w34, w35, w36⟩
          show Rl _ _ _ _ _ [iv z37] _ _
          have a61 : (z37 ≠ -9 → z37 ≠ -1 → z37 ≠ -2 → 0 ≤ z37 ∧ z37 < Xi T2 904 19) ∧ (z37 = -1 → 0 ≤ Xi T2 904 115) ∧ (z37 = -2 → 0 ≤ Xi T2 904 116) := ⟨by assumption, by assumption, by assumption⟩
          refine l_istore rfl rfl rfl ?_
          refine l_aload_n rfl rfl ?_
          refine l_iload rfl rfl ?_
          refine l_iconst rfl ?_
          refine l_iadd rfl ?_
          refine l_iload_n rfl rfl ?_
          refine l_callV rfl rfl rfl (t_mo_thingOf hHT2 (v5 + 1) to ⟨by omega, by omega⟩ ⟨by omega, by omega⟩ (by first | assumption | exact (LXM_FR hFT2 rfl (by assumption : LXM S))) _) ?_
          rintro _ _ ⟨rfl, z44, rfl, w44, w41, w42, w43⟩
          show Rl _ _ _ _ _ [iv z44] _ _
          have a72 : (z44 ≠ -9 → z44 ≠ -1 → z44 ≠ -2 → 0 ≤ z44 ∧ z44 < Xi T2 904 19) ∧ (z44 = -1 → 0 ≤ Xi T2 904 115) ∧ (z44 = -2 → 0 ≤ Xi T2 904 116) := ⟨by assumption, by assumption, by assumption⟩
          refine l_istore rfl rfl rfl ?_
          refine l_aload_n rfl rfl ?_
          refine l_iload rfl rfl ?_
          refine l_aload_n rfl rfl ?_
          refine l_gfr rfl rfl rfl rfl rfl (hHT2.r 904 42 936 rfl) ?_
          refine l_iload rfl rfl ?_
          refine l_iaload (n := 6) rfl rfl (by omega) (by omega) (by unfold rg; omega) ?_
          have w45 : 0 ≤ (Xi T2 936 (((Xi T2 941 ((v6).toNat))).toNat)) ∧ (Xi T2 936 (((Xi T2 941 ((v6).toNat))).toNat)) ≤ 15 := hHT2.c _ _
          refine l_callV rfl rfl rfl (t_mo_fits hHT2 z37 (Xi T2 936 (((Xi T2 941 ((v6).toNat))).toNat)) ⟨by omega, by omega⟩ ⟨by omega, by omega⟩ (by first | assumption | exact (ABV_FR hFT2 rfl (by assumption : ABV S))) (by first | assumption | omega) _) ?_
          rintro _ _ ⟨rfl, z47, rfl, w47, w46⟩
          show Rl _ _ _ _ _ [iv z47] _ _
          refine l_if_eq rfl rfl (by unfold rg; omega) (fun w48 => ?_) (fun w49 => ?_)
          · exact Rl_weak (C141 T2 hHT2 hFT2 (v4) (v5) (by omega) (by omega) (by omega) (by omega) (by omega) (by assumption) (by first | exact fun _ => E137 | exact E42 | exact fun _ => E42 (by omega)) (by omega)) (And.intro rfl (And.intro rfl (And.intro rfl (And.intro rfl (And.intro rfl (And.intro rfl (True.intro)))))))
          · refine l_aload_n rfl rfl ?_
            refine l_iload rfl rfl ?_
            refine l_aload_n rfl rfl ?_
            refine l_gfr rfl rfl rfl rfl rfl (hHT2.r 904 43 937 rfl) ?_
            refine l_iload rfl rfl ?_
            refine l_iaload (n := 6) rfl rfl (by omega) (by omega) (by unfold rg; omega) ?_
            have w50 : 0 ≤ (Xi T2 937 (((Xi T2 941 ((v6).toNat))).toNat)) ∧ (Xi T2 937 (((Xi T2 941 ((v6).toNat))).toNat)) ≤ 15 := hHT2.c _ _
            refine l_callV rfl rfl rfl (t_mo_fits hHT2 z44 (Xi T2 937 (((Xi T2 941 ((v6).toNat))).toNat)) ⟨by omega, by omega⟩ ⟨by omega, by omega⟩ (by first | assumption | exact (ABV_FR hFT2 rfl (by assumption : ABV S))) (by first | assumption | omega) _) ?_
            rintro _ _ ⟨rfl, z52, rfl, w52, w51⟩
            show Rl _ _ _ _ _ [iv z52] _ _
            refine l_if_eq rfl rfl (by unfold rg; omega) (fun w53 => ?_) (fun w54 => ?_)
            · exact Rl_weak (C141 T2 hHT2 hFT2 (v4) (v5) (by omega) (by omega) (by omega) (by omega) (by omega) (by assumption) (by first | exact fun _ => E137 | exact E42 | exact fun _ => E42 (by omega)) (by omega)) (And.intro rfl (And.intro rfl (And.intro rfl (And.intro rfl (And.intro rfl (And.intro rfl (True.intro)))))))
            · refine l_iload rfl rfl ?_
              refine l_if_ne rfl rfl (by unfold rg; omega) (fun w55 => ?_) (fun w56 => ?_)
              · refine l_iinc rfl rfl rfl rfl ?_
                exact Rl_weak (C141 T2 hHT2 hFT2 ((v4 + 1)) (v5) (by omega) (by omega) (by omega) (by omega) (by omega) (by assumption) (by first | exact fun _ => E137 | exact E42 | exact fun _ => E42 (by omega)) (by omega)) (And.intro rfl (And.intro rfl (And.intro rfl (And.intro rfl (And.intro rfl (And.intro rfl (True.intro)))))))
              · refine l_aload_n rfl rfl ?_
                refine l_gfr rfl rfl rfl rfl rfl (hHT2.r 904 120 971 rfl) ?_
                refine l_iload_n rfl rfl ?_
                refine l_iload rfl rfl ?_
                refine l_iastore (n := 2400) rfl rfl (by omega) (by omega) (by unfold rg; omega) ?_
                obtain ⟨U4, eU4⟩ : ∃ T : sS, T = uI T2 971 ((q).toNat) (Int32.ofInt z37) := ⟨_, rfl⟩
                rw [← eU4]
                have hHU4 : HI U4 := by rw [eU4]; exact HI_w hHT2 (show -9 ≤ z37 by omega) (show z37 ≤ 23 by omega)
                have hFU4 : FR md_mo_sayings S U4 := by rw [eU4]; exact FR.wI hFT2 (mdf_i (r := (971, 972, 0, 100000)) (List.mem_of_getElem? (i := 0) rfl) (inR_i (by omega) (by omega) (by omega) (by omega)))
                have w57 : Xi U4 971 ((q).toNat) = z37 := by rw [eU4]; exact Xi_same (by unfold rg; omega)
                have k121 : KQ U4 S q := KQ.w K42 eU4 (by omega)
                refine l_aload_n rfl rfl ?_
                refine l_gfr rfl rfl rfl rfl rfl (hHU4.r 904 124 975 rfl) ?_
                refine l_iload_n rfl rfl ?_
                refine l_iload rfl rfl ?_
                refine l_iastore (n := 2400) rfl rfl (by omega) (by omega) (by unfold rg; omega) ?_
                obtain ⟨U5, eU5⟩ : ∃ T : sS, T = uI U4 975 ((q).toNat) (Int32.ofInt z44) := ⟨_, rfl⟩
                rw [← eU5]
                have hHU5 : HI U5 := by rw [eU5]; exact HI_w hHU4 (show -9 ≤ z44 by omega) (show z44 ≤ 23 by omega)
                have hFU5 : FR md_mo_sayings S U5 := by rw [eU5]; exact FR.wI hFU4 (mdf_i (r := (975, 976, 0, 100000)) (List.mem_of_getElem? (i := 2) rfl) (inR_i (by omega) (by omega) (by omega) (by omega)))
                have w58 : Xi U5 975 ((q).toNat) = z44 := by rw [eU5]; exact Xi_same (by unfold rg; omega)
                have k129 : KQ U5 S q := KQ.w k121 eU5 (by omega)
                refine l_aload_n rfl rfl ?_
                refine l_gfr rfl rfl rfl rfl rfl (hHU5.r 904 121 972 rfl) ?_
                refine l_iload_n rfl rfl ?_
                refine l_iload rfl rfl ?_
                refine l_iastore (n := 2400) rfl rfl (by omega) (by omega) (by unfold rg; omega) ?_
                obtain ⟨U6, eU6⟩ : ∃ T : sS, T = uI U5 972 ((q).toNat) (Int32.ofInt (Xi T2 941 ((v6).toNat))) := ⟨_, rfl⟩
                rw [← eU6]
                have hHU6 : HI U6 := by rw [eU6]; exact HI_w hHU5 (show -1 ≤ (Xi T2 941 ((v6).toNat)) by omega) (show (Xi T2 941 ((v6).toNat)) ≤ 11 by omega)
                have hFU6 : FR md_mo_sayings S U6 := by rw [eU6]; exact FR.wI hFU5 (mdf_i (r := (972, 973, 0, 100000)) (List.mem_of_getElem? (i := 1) rfl) (inR_i (by omega) (by omega) (by omega) (by omega)))
                have w59 : Xi U6 972 ((q).toNat) = (Xi T2 941 ((v6).toNat)) := by rw [eU6]; exact Xi_same (by unfold rg; omega)
                have k137 : KQ U6 S q := KQ.w k129 eU6 (by omega)
                have E137 : SYQ U6 q := syq_i eU4 eU5 eU6 a61 a72 (by omega) (by omega) (by omega) (by omega) (by omega)
                refine l_iinc rfl rfl rfl rfl ?_
                exact Rl_weak (C141 U6 hHU6 hFU6 ((v4 + 1)) (v5) (by omega) (by omega) (by omega) (by omega) (by omega) (by assumption) (by first | exact fun _ => E137 | exact E42 | exact fun _ => E42 (by omega)) (by omega)) (And.intro rfl (And.intro rfl (And.intro rfl (And.intro rfl (And.intro rfl (And.intro rfl (True.intro)))))))
      refine l_iload rfl rfl ?_
      refine l_iconst rfl ?_
      refine l_iadd rfl ?_
      refine l_iload_n rfl rfl ?_
      refine l_icmp_ge rfl rfl (by unfold rg; omega) (by unfold rg; omega) (fun w60 => ?_) (fun w61 => ?_)
      · refine l_iload rfl rfl ?_
        refine l_ireturn rfl rfl ?_
        exact ⟨hHT1, hFT1, _, rfl, ⟨by omega, by omega⟩, (E8), (K8)⟩
      · refine l_aload_n rfl rfl ?_
        refine l_gfr rfl rfl rfl rfl rfl (hHT1.r 904 4 907 rfl) ?_
        refine l_iload rfl rfl ?_
        refine l_iaload (n := 5002) rfl rfl (by omega) (by omega) (by unfold rg; omega) ?_
        have w62 : 0 ≤ (Xi T1 907 ((v5).toNat)) ∧ (Xi T1 907 ((v5).toNat)) ≤ 154 := hHT1.c _ _
        refine l_iconst rfl ?_
        refine l_icmp_ne rfl rfl (by unfold rg; omega) (by unfold rg; omega) (fun w63 => ?_) (fun w64 => ?_)
        · refine l_iconst rfl ?_
          refine l_istore rfl rfl rfl ?_
          exact Rl_weak (C42 T1 hHT1 hFT1 (v4) (v5) ((-1)) (by omega) (by omega) (by omega) (by omega) (by omega) (by omega) (K8) (E8) (by omega)) (And.intro rfl (And.intro rfl (And.intro rfl (And.intro rfl (And.intro rfl (And.intro rfl (And.intro rfl (True.intro))))))))
        · refine l_aload_n rfl rfl ?_
          refine l_iload rfl rfl ?_
          refine l_iconst rfl ?_
          refine l_bipush rfl rfl ?_
          refine l_callV rfl rfl rfl (t_mo_means hHT1 v5 1 10 ⟨by omega, by omega⟩ ⟨by omega, by omega⟩ ⟨by omega, by omega⟩ (by first | assumption | omega) (by first | assumption | exact (LXM_FR hFT1 rfl (by assumption : LXM S))) _) ?_
          rintro _ _ ⟨rfl, z66, rfl, w66, w65⟩
          show Rl _ _ _ _ _ [iv z66] _ _
          have c33 : 0 ≤ Xi T1 904 47 ∧ Xi T1 904 47 ≤ 8 := hHT1.c _ _
          have x33 : z66 ≠ -1 → z66 < 8 := fun q => by have t := (by assumption : z66 ≠ -1 → z66 < cM T1 10) q; rw [cM10] at t; omega
          refine l_goto rfl rfl ?_
          refine l_istore rfl rfl rfl ?_
          exact Rl_weak (C42 T1 hHT1 hFT1 (v4) (v5) (z66) (by omega) (by omega) (by omega) (by omega) (by omega) (by omega) (K8) (E8) (by omega)) (And.intro rfl (And.intro rfl (And.intro rfl (And.intro rfl (And.intro rfl (And.intro rfl (And.intro rfl (True.intro))))))))
  refine l_iconst rfl ?_
  refine l_istore rfl rfl rfl ?_
  refine l_iload_n rfl rfl ?_
  refine l_iconst rfl ?_
  refine l_iadd rfl ?_
  refine l_istore rfl rfl rfl ?_
  exact Rl_weak (C8 _ S hH hF (0) ((from_ + 1)) (by omega) (by omega) (by omega) (by omega) (by omega) (by first | exact KQ.rf | exact K141) (by first | exact fun q1 => absurd q1 (by omega) | exact E141) rfl) (And.intro rfl (And.intro rfl (And.intro rfl (And.intro rfl (And.intro rfl (And.intro rfl (True.intro)))))))
def md_mo_slot : List rec := [(904, 905, 150, 151), (991, 992, 0, 100000)]
abbrev Q_mo_slot (S : sS) (from_ : Int) (end_ : Int) : pst := fun r S1 => HI S1 ∧ FR md_mo_slot S S1 ∧ (∃ z : Int, r = some (iv z) ∧ (-1 ≤ z ∧ z ≤ 5000) ∧ (z ≠ -1 → from_ < z ∧ z ≤ end_))
set_option maxRecDepth 100000 in
theorem t_mo_slot {S : sS} (hH : HI S) (from_ : Int) (end_ : Int) (hfrom_ : 0 ≤ from_ ∧ from_ ≤ 5000) (hend_ : 0 ≤ end_ ∧ end_ ≤ 5000) (hfe : from_ ≤ end_) (h0 : Xi S 904 150 = 0) (d : Nat) : Mt lay0 (d + 4) m_mo_slot [.ref 904, iv from_, iv end_] S (Q_mo_slot S from_ end_) := by
  refine Mt_R rfl rfl ?_
  have hF : FR md_mo_slot S S := FR.rf
  have w1 : 0 ≤ Xi S 904 150 ∧ Xi S 904 150 ≤ 5000 := hH.c _ _
  have C2 : ∀ (n2 : Nat) (T1 : sS) (_ : HI T1) (_ : FR md_mo_slot S T1) (v3 : Int), (0 ≤ v3 ∧ v3 ≤ 5000) → (from_ ≤ v3) → (v3 ≤ end_) → (Xi T1 904 150 ≤ v3 - from_) → n2 = (5001 - v3).toNat → Rl lay0 (d + 3) m_mo_slot 2 [(0, .ref 904), (2, iv end_), (3, iv v3)] [] T1 (Q_mo_slot S from_ end_) := by
    intro n2
    induction n2 using Nat.strongRecOn with
    | ind n2 ih2 =>
      intro T1 hHT1 hFT1 v3 w2 w3 w4 w5 hm2
      have w6 : 0 ≤ Xi T1 904 150 ∧ Xi T1 904 150 ≤ 5000 := hHT1.c _ _
      have C50 : ∀ (n50 : Nat) (T2 : sS) (_ : HI T2) (_ : FR md_mo_slot S T2) (v3 : Int) (v4 : Int), (0 ≤ v3 ∧ v3 ≤ 4999) → (0 ≤ v4 ∧ v4 ≤ 5000) → (from_ ≤ v3) → (v3 < end_) → (v3 ≤ v4) → (v4 ≤ end_) → (Xi T2 904 150 ≤ v3 - from_) → (v4 = v3 → ltr (Xi S 906 (v4).toNat) = 1) → ((5001 - v3).toNat ≤ n2) → n50 = (5001 - v4).toNat → Rl lay0 (d + 3) m_mo_slot 50 [(0, .ref 904), (2, iv end_), (3, iv v3), (4, iv v4)] [] T2 (Q_mo_slot S from_ end_) := by
        intro n50
        induction n50 using Nat.strongRecOn with
        | ind n50 ih50 =>
          intro T2 hHT2 hFT2 v3 v4 w7 w8 w9 w10 w11 w12 w13 hl50 w14 hm50
          have w15 : 0 ≤ Xi T2 904 150 ∧ Xi T2 904 150 ≤ 5000 := hHT2.c _ _
          have C75 : ∀  (T3 : sS) (_ : HI T3) (_ : FR md_mo_slot S T3) (v3 : Int) (v4 : Int), (0 ≤ v3 ∧ v3 ≤ 4999) → (0 ≤ v4 ∧ v4 ≤ 5000) → (from_ ≤ v3) → (v3 < v4) → (v4 ≤ end_) → (Xi T3 904 150 ≤ v3 - from_) → ((5001 - v3).toNat ≤ n2) → Rl lay0 (d + 3) m_mo_slot 75 [(0, .ref 904), (2, iv end_), (3, iv v3), (4, iv v4)] [] T3 (Q_mo_slot S from_ end_) := by
            intro T3 hHT3 hFT3 v3 v4 w16 w17 w18 w19 w20 w21 w22
            have w23 : 0 ≤ Xi T3 904 150 ∧ Xi T3 904 150 ≤ 5000 := hHT3.c _ _
            refine l_iload rfl rfl ?_
            refine l_iload_n rfl rfl ?_
            refine l_isub rfl ?_
            refine l_bipush rfl rfl ?_
            refine l_icmp_gt rfl rfl (by unfold rg; omega) (by unfold rg; omega) (fun w24 => ?_) (fun w25 => ?_)
            · refine l_iconst rfl ?_
              refine l_ireturn rfl rfl ?_
              exact ⟨hHT3, hFT3, _, rfl, ⟨by omega, by omega⟩, (by first | assumption | omega)⟩
            · refine l_aload_n rfl rfl ?_
              refine l_aload_n rfl rfl ?_
              refine l_gfr rfl rfl rfl rfl rfl (hHT3.r 904 2 906 rfl) ?_
              refine l_iload_n rfl rfl ?_
              refine l_iload rfl rfl ?_
              refine l_iload_n rfl rfl ?_
              refine l_isub rfl ?_
              refine l_callS rfl rfl (by decide) rfl (t_mo_wordOf hHT3 906 v3 (v4 - v3) (Or.inr rfl) ⟨by omega, by omega⟩ ⟨by omega, by omega⟩ (by first | assumption | omega) _) ?_
              rintro _ _ ⟨rfl, z28, rfl⟩
              show Rl _ _ _ _ _ [jw z28, .ref 904] _ _
              refine l_callV rfl rfl rfl (t_mo_keyOf hHT3 z28 _) ?_
              rintro _ _ ⟨rfl, z30, rfl, w30⟩
              show Rl _ _ _ _ _ [iv z30] _ _
              refine l_iconst rfl ?_
              refine l_icmp_eq rfl rfl (by unfold rg; omega) (by unfold rg; omega) (fun w31 => ?_) (fun w32 => ?_)
              · refine l_aload_n rfl rfl ?_
                refine l_gfi rfl rfl rfl rfl rfl ?_
                refine l_iconst rfl ?_
                refine l_icmp_ge rfl rfl (by unfold rg; omega) (by unfold rg; omega) (fun w33 => ?_) (fun w34 => ?_)
                · refine l_aload_n rfl rfl ?_
                  refine l_dup rfl rfl ?_
                  refine l_gfi rfl rfl rfl rfl rfl ?_
                  refine l_iconst rfl ?_
                  refine l_iadd rfl ?_
                  refine l_pfi rfl rfl rfl rfl ?_
                  obtain ⟨U4, eU4⟩ : ∃ T : sS, T = uI T3 904 150 (Int32.ofInt ((Xi T3 904 150) + 1)) := ⟨_, rfl⟩
                  rw [← eU4]
                  have hHU4 : HI U4 := by rw [eU4]; exact HI_w hHT3 (show 0 ≤ ((Xi T3 904 150) + 1) by omega) (show ((Xi T3 904 150) + 1) ≤ 5000 by omega)
                  have hFU4 : FR md_mo_slot S U4 := by rw [eU4]; exact FR.wI hFT3 (mdf_i (r := (904, 905, 150, 151)) (List.mem_of_getElem? (i := 0) rfl) (inR_i (by omega) (by omega) (by omega) (by omega)))
                  have w35 : Xi U4 904 150 = ((Xi T3 904 150) + 1) := by rw [eU4]; exact Xi_same (by unfold rg; omega)
                  refine l_iload rfl rfl ?_
                  refine l_istore_n rfl rfl rfl ?_
                  refine l_goto rfl rfl ?_
                  have w36 : 0 ≤ Xi U4 904 150 ∧ Xi U4 904 150 ≤ 5000 := hHU4.c _ _
                  exact Rl_weak (ih2 _ (by omega) U4 hHU4 hFU4 (v4) (by omega) (by omega) (by omega) (by omega) rfl) (And.intro rfl (And.intro rfl (And.intro rfl (True.intro))))
                · refine l_aload_n rfl rfl ?_
                  refine l_gfr rfl rfl rfl rfl rfl (hHT3.r 904 149 991 rfl) ?_
                  refine l_aload_n rfl rfl ?_
                  refine l_gfi rfl rfl rfl rfl rfl ?_
                  refine l_aload_n rfl rfl ?_
                  refine l_gfr rfl rfl rfl rfl rfl (hHT3.r 904 2 906 rfl) ?_
                  refine l_iload_n rfl rfl ?_
                  refine l_iload rfl rfl ?_
                  refine l_iload_n rfl rfl ?_
                  refine l_isub rfl ?_
                  refine l_callS rfl rfl (by decide) rfl (t_mo_wordOf hHT3 906 v3 (v4 - v3) (Or.inr rfl) ⟨by omega, by omega⟩ ⟨by omega, by omega⟩ (by first | assumption | omega) _) ?_
                  rintro _ _ ⟨rfl, z38, rfl⟩
                  show Rl _ _ _ _ _ [jw z38, iv (Xi T3 904 150), .ref 991] _ _
                  refine l_lastore (n := 3) rfl rfl (by omega) (by omega) (by unfold rg; omega) ?_
                  obtain ⟨U5, eU5⟩ : ∃ T : sS, T = uJ T3 991 (((Xi T3 904 150)).toNat) (Int64.ofInt z38) := ⟨_, rfl⟩
                  rw [← eU5]
                  have hHU5 : HI U5 := by rw [eU5]; exact HI_J hHT3
                  have hFU5 : FR md_mo_slot S U5 := by rw [eU5]; exact FR.wJ hFT3 (mdf_i (r := (991, 992, 0, 100000)) (List.mem_of_getElem? (i := 1) rfl) (inR_i (by omega) (by omega) (by omega) (by omega)))
                  refine l_aload_n rfl rfl ?_
                  refine l_dup rfl rfl ?_
                  refine l_gfi rfl rfl rfl rfl rfl ?_
                  have w39 : (Xi U5 904 150) = (Xi T3 904 150) := (show Xi U5 904 150 = Xi T3 904 150 from by rw [eU5]; rfl)
                  rw [w39]
                  refine l_iconst rfl ?_
                  refine l_iadd rfl ?_
                  refine l_pfi rfl rfl rfl rfl ?_
                  obtain ⟨U6, eU6⟩ : ∃ T : sS, T = uI U5 904 150 (Int32.ofInt ((Xi T3 904 150) + 1)) := ⟨_, rfl⟩
                  rw [← eU6]
                  have hHU6 : HI U6 := by rw [eU6]; exact HI_w hHU5 (show 0 ≤ ((Xi T3 904 150) + 1) by omega) (show ((Xi T3 904 150) + 1) ≤ 5000 by omega)
                  have hFU6 : FR md_mo_slot S U6 := by rw [eU6]; exact FR.wI hFU5 (mdf_i (r := (904, 905, 150, 151)) (List.mem_of_getElem? (i := 0) rfl) (inR_i (by omega) (by omega) (by omega) (by omega)))
                  have w40 : Xi U6 904 150 = ((Xi T3 904 150) + 1) := by rw [eU6]; exact Xi_same (by unfold rg; omega)
                  refine l_iload rfl rfl ?_
                  refine l_istore_n rfl rfl rfl ?_
                  refine l_goto rfl rfl ?_
                  have w41 : 0 ≤ Xi U6 904 150 ∧ Xi U6 904 150 ≤ 5000 := hHU6.c _ _
                  exact Rl_weak (ih2 _ (by omega) U6 hHU6 hFU6 (v4) (by omega) (by omega) (by omega) (by omega) rfl) (And.intro rfl (And.intro rfl (And.intro rfl (True.intro))))
              · refine l_iconst rfl ?_
                refine l_ireturn rfl rfl ?_
                exact ⟨hHT3, hFT3, _, rfl, ⟨by omega, by omega⟩, (by first | assumption | omega)⟩
          refine l_iload rfl rfl ?_
          refine l_iload_n rfl rfl ?_
          refine l_icmp_ge rfl rfl (by unfold rg; omega) (by unfold rg; omega) (fun w43 => ?_) (fun w44 => ?_)
          · have w45 : 0 ≤ Xi T2 904 150 ∧ Xi T2 904 150 ≤ 5000 := hHT2.c _ _
            exact Rl_weak (C75 T2 hHT2 hFT2 (v3) (v4) (by omega) (by omega) (by omega) (by omega) (by omega) (by omega) (by omega)) (And.intro rfl (And.intro rfl (And.intro rfl (And.intro rfl (True.intro)))))
          · refine l_aload_n rfl rfl ?_
            refine l_gfr rfl rfl rfl rfl rfl (hHT2.r 904 2 906 rfl) ?_
            refine l_iload rfl rfl ?_
            refine l_baload (n := 5000) rfl rfl rfl (by decide) (by omega) (by omega) (by unfold rg; omega) ?_
            have w46 : -128 ≤ (Xi T2 906 ((v4).toNat)) ∧ (Xi T2 906 ((v4).toNat)) ≤ 127 := hHT2.c _ _
            have e62 : (Xi T2 906 ((v4).toNat)) = Xi S 906 (v4).toNat := by first | rfl | exact (hFT2.cx 906 rfl _).1
            refine l_callS rfl rfl (by decide) rfl (t_mo_isLetter hHT2 (Xi T2 906 ((v4).toNat)) ⟨by omega, by omega⟩ _) ?_
            rintro _ _ ⟨rfl, z49, rfl, w49, w48⟩
            show Rl _ _ _ _ _ [iv z49] _ _
            have l63 : v4 = v3 → z49 = 1 := fun q => by rw [(by assumption : z49 = ltr _), e62]; exact hl50 q
            refine l_if_eq rfl rfl (by unfold rg; omega) (fun w50 => ?_) (fun w51 => ?_)
            · have w52 : 0 ≤ Xi T2 904 150 ∧ Xi T2 904 150 ≤ 5000 := hHT2.c _ _
              exact Rl_weak (C75 T2 hHT2 hFT2 (v3) (v4) (by omega) (by omega) (by omega) (by omega) (by omega) (by omega) (by omega)) (And.intro rfl (And.intro rfl (And.intro rfl (And.intro rfl (True.intro)))))
            · refine l_iinc rfl rfl rfl rfl ?_
              refine l_goto rfl rfl ?_
              exact Rl_weak (ih50 _ (by omega) T2 hHT2 hFT2 (v3) ((v4 + 1)) (by omega) (by omega) (by omega) (by omega) (by omega) (by omega) (by omega) (by first | exact fun _ => by omega | exact fun q => by omega) (by omega) rfl) (And.intro rfl (And.intro rfl (And.intro rfl (And.intro rfl (True.intro)))))
      have C153 : ∀  (T7 : sS) (_ : HI T7) (_ : FR md_mo_slot S T7) (v3 : Int), (0 ≤ v3 ∧ v3 ≤ 5000) → (from_ ≤ v3) → (v3 ≤ end_) → Rl lay0 (d + 3) m_mo_slot 153 [(0, .ref 904), (2, iv end_), (3, iv v3)] [] T7 (Q_mo_slot S from_ end_) := by
        intro T7 hHT7 hFT7 v3 w54 w55 w56
        refine l_iload_n rfl rfl ?_
        refine l_iload_n rfl rfl ?_
        refine l_icmp_ge rfl rfl (by unfold rg; omega) (by unfold rg; omega) (fun w57 => ?_) (fun w58 => ?_)
        · refine l_iconst rfl ?_
          refine l_ireturn rfl rfl ?_
          exact ⟨hHT7, hFT7, _, rfl, ⟨by omega, by omega⟩, (by first | assumption | omega)⟩
        · refine l_aload_n rfl rfl ?_
          refine l_gfi rfl rfl rfl rfl rfl ?_
          have w60 : 0 ≤ (Xi T7 904 150) ∧ (Xi T7 904 150) ≤ 5000 := hHT7.c _ _
          refine l_if_le rfl rfl (by unfold rg; omega) (fun w61 => ?_) (fun w62 => ?_)
          · refine l_iconst rfl ?_
            refine l_ireturn rfl rfl ?_
            exact ⟨hHT7, hFT7, _, rfl, ⟨by omega, by omega⟩, (by first | assumption | omega)⟩
          · refine l_iload_n rfl rfl ?_
            refine l_iconst rfl ?_
            refine l_iadd rfl ?_
            refine l_goto rfl rfl ?_
            refine l_ireturn rfl rfl ?_
            exact ⟨hHT7, hFT7, _, rfl, ⟨by omega, by omega⟩, (by first | assumption | omega)⟩
      refine l_iload_n rfl rfl ?_
      refine l_iload_n rfl rfl ?_
      refine l_icmp_ge rfl rfl (by unfold rg; omega) (by unfold rg; omega) (fun w65 => ?_) (fun w66 => ?_)
      · have w67 : 0 ≤ Xi T1 904 150 ∧ Xi T1 904 150 ≤ 5000 := hHT1.c _ _
        exact Rl_weak (C153 T1 hHT1 hFT1 (v3) (by omega) (by omega) (by omega)) (And.intro rfl (And.intro rfl (And.intro rfl (True.intro))))
      · refine l_aload_n rfl rfl ?_
        refine l_gfr rfl rfl rfl rfl rfl (hHT1.r 904 2 906 rfl) ?_
        refine l_iload_n rfl rfl ?_
        refine l_baload (n := 5000) rfl rfl rfl (by decide) (by omega) (by omega) (by unfold rg; omega) ?_
        have w68 : -128 ≤ (Xi T1 906 ((v3).toNat)) ∧ (Xi T1 906 ((v3).toNat)) ≤ 127 := hHT1.c _ _
        refine l_bipush rfl rfl ?_
        refine l_icmp_eq rfl rfl (by unfold rg; omega) (by unfold rg; omega) (fun w69 => ?_) (fun w70 => ?_)
        · have w71 : 0 ≤ Xi T1 904 150 ∧ Xi T1 904 150 ≤ 5000 := hHT1.c _ _
          exact Rl_weak (C153 T1 hHT1 hFT1 (v3) (by omega) (by omega) (by omega)) (And.intro rfl (And.intro rfl (And.intro rfl (True.intro))))
        · refine l_aload_n rfl rfl ?_
          refine l_gfr rfl rfl rfl rfl rfl (hHT1.r 904 2 906 rfl) ?_
          refine l_iload_n rfl rfl ?_
          refine l_baload (n := 5000) rfl rfl rfl (by decide) (by omega) (by omega) (by unfold rg; omega) ?_
          refine l_bipush rfl rfl ?_
          refine l_icmp_ne rfl rfl (by unfold rg; omega) (by unfold rg; omega) (fun w72 => ?_) (fun w73 => ?_)
          · refine l_aload_n rfl rfl ?_
            refine l_gfr rfl rfl rfl rfl rfl (hHT1.r 904 2 906 rfl) ?_
            refine l_iload_n rfl rfl ?_
            refine l_baload (n := 5000) rfl rfl rfl (by decide) (by omega) (by omega) (by unfold rg; omega) ?_
            have e40 : (Xi T1 906 ((v3).toNat)) = Xi S 906 (v3).toNat := by first | rfl | exact (hFT1.cx 906 rfl _).1
            refine l_callS rfl rfl (by decide) rfl (t_mo_isLetter hHT1 (Xi T1 906 ((v3).toNat)) ⟨by omega, by omega⟩ _) ?_
            rintro _ _ ⟨rfl, z76, rfl, w76, w75⟩
            show Rl _ _ _ _ _ [iv z76] _ _
            have l41 : z76 = ltr (Xi S 906 (v3).toNat) := by rw [← e40]; assumption
            refine l_if_eq rfl rfl (by unfold rg; omega) (fun w77 => ?_) (fun w78 => ?_)
            · refine l_iconst rfl ?_
              refine l_ireturn rfl rfl ?_
              exact ⟨hHT1, hFT1, _, rfl, ⟨by omega, by omega⟩, (by first | assumption | omega)⟩
            · refine l_iload_n rfl rfl ?_
              refine l_istore rfl rfl rfl ?_
              exact Rl_weak (C50 _ T1 hHT1 hFT1 (v3) (v3) (by omega) (by omega) (by omega) (by omega) (by omega) (by omega) (by omega) (by first | exact fun _ => by omega | exact fun q => by omega) (by omega) rfl) (And.intro rfl (And.intro rfl (And.intro rfl (And.intro rfl (True.intro)))))
          · refine l_iinc rfl rfl rfl rfl ?_
            refine l_goto rfl rfl ?_
            exact Rl_weak (ih2 _ (by omega) T1 hHT1 hFT1 ((v3 + 1)) (by omega) (by omega) (by omega) (by omega) rfl) (And.intro rfl (And.intro rfl (And.intro rfl (True.intro))))
  refine l_iload_n rfl rfl ?_
  refine l_istore_n rfl rfl rfl ?_
  exact Rl_weak (C2 _ S hH hF (from_) (by omega) (by omega) (by omega) (by omega) rfl) (And.intro rfl (And.intro rfl (And.intro rfl (True.intro))))
def md_mo_isCommand : List rec := [(904, 905, 150, 151), (904, 905, 151, 152), (991, 992, 0, 100000), (992, 993, 0, 100000)]
abbrev Q_mo_isCommand (S : sS) (from_ : Int) (n : Int) : pst := fun r S1 => HI S1 ∧ FR md_mo_isCommand S S1 ∧ (∃ z : Int, r = some (iv z) ∧ (0 ≤ z ∧ z ≤ 1))
set_option maxRecDepth 100000 in
theorem t_mo_isCommand {S : sS} (hH : HI S) (from_ : Int) (n : Int) (hfrom_ : 0 ≤ from_ ∧ from_ ≤ 5000) (hn : 0 ≤ n ∧ n ≤ 5000) (hn5 : from_ + n ≤ 5000) (d : Nat) : Mt lay0 (d + 5) m_mo_isCommand [.ref 904, iv from_, iv n] S (Q_mo_isCommand S from_ n) := by
  refine Mt_R rfl rfl ?_
  have hF : FR md_mo_isCommand S S := FR.rf
  have w1 : 0 ≤ Xi S 904 151 ∧ Xi S 904 151 ≤ 8 := hH.c _ _
  have C23 : ∀ (n23 : Nat) (T1 : sS) (_ : HI T1) (_ : FR md_mo_isCommand S T1) (v3 : Int) (v4 : Int) (v5 : Int) (v6 : Int), (-1 ≤ v3 ∧ v3 ≤ 5000) → (0 ≤ v4 ∧ v4 ≤ 5000) → (0 ≤ v5 ∧ v5 ≤ 1) → (0 ≤ v6 ∧ v6 ≤ 1) → (v4 = from_ + n) → (v5 = 1 → from_ ≤ v3) → (v3 ≤ v4) → n23 = (6000 * v5 - v3).toNat → Rl lay0 (d + 4) m_mo_isCommand 23 [(0, .ref 904), (3, iv v3), (4, iv v4), (5, iv v5), (6, iv v6)] [] T1 (Q_mo_isCommand S from_ n) := by
    intro n23
    induction n23 using Nat.strongRecOn with
    | ind n23 ih23 =>
      intro T1 hHT1 hFT1 v3 v4 v5 v6 w2 w3 w4 w5 w6 w7 w8 hm23
      have C89 : ∀ (n89 : Nat) (T2 : sS) (_ : HI T2) (_ : FR md_mo_isCommand S T2) (v3 : Int) (v4 : Int) (v7 : Int), (0 ≤ v3 ∧ v3 ≤ 4999) → (0 ≤ v4 ∧ v4 ≤ 5000) → (0 ≤ v7 ∧ v7 ≤ 5000) → (v4 = from_ + n) → (from_ ≤ v3) → (v3 < v4) → (v3 ≤ v7) → (v7 ≤ v4) → (v5 = 1) → (Xi T2 904 151 ≤ 7) → (v7 = v3 → ltr (Xi S 906 (v7).toNat) = 1) → ((6000 * v5 - v3).toNat ≤ n23) → n89 = (5001 - v7).toNat → Rl lay0 (d + 4) m_mo_isCommand 89 [(0, .ref 904), (3, iv v3), (4, iv v4), (7, iv v7)] [] T2 (Q_mo_isCommand S from_ n) := by
        intro n89
        induction n89 using Nat.strongRecOn with
        | ind n89 ih89 =>
          intro T2 hHT2 hFT2 v3 v4 v7 w9 w10 w11 w12 w13 w14 w15 w16 w17 w18 hl89 w19 hm89
          have w20 : 0 ≤ Xi T2 904 151 ∧ Xi T2 904 151 ≤ 8 := hHT2.c _ _
          have C115 : ∀  (T3 : sS) (_ : HI T3) (_ : FR md_mo_isCommand S T3) (v3 : Int) (v4 : Int) (v7 : Int), (0 ≤ v3 ∧ v3 ≤ 4999) → (0 ≤ v4 ∧ v4 ≤ 5000) → (0 ≤ v7 ∧ v7 ≤ 5000) → (v4 = from_ + n) → (from_ ≤ v3) → (v3 < v7) → (v7 ≤ v4) → (v5 = 1) → (Xi T3 904 151 ≤ 7) → ((6000 * v5 - v3).toNat ≤ n23) → Rl lay0 (d + 4) m_mo_isCommand 115 [(0, .ref 904), (3, iv v3), (4, iv v4), (7, iv v7)] [] T3 (Q_mo_isCommand S from_ n) := by
            intro T3 hHT3 hFT3 v3 v4 v7 w21 w22 w23 w24 w25 w26 w27 w28 w29 w30
            have w31 : 0 ≤ Xi T3 904 151 ∧ Xi T3 904 151 ≤ 8 := hHT3.c _ _
            refine l_iload rfl rfl ?_
            refine l_iload_n rfl rfl ?_
            refine l_isub rfl ?_
            refine l_bipush rfl rfl ?_
            refine l_icmp_gt rfl rfl (by unfold rg; omega) (by unfold rg; omega) (fun w32 => ?_) (fun w33 => ?_)
            · refine l_iconst rfl ?_
              refine l_istore rfl rfl rfl ?_
              refine l_aload_n rfl rfl ?_
              refine l_gfr rfl rfl rfl rfl rfl (hHT3.r 904 152 992 rfl) ?_
              refine l_aload_n rfl rfl ?_
              refine l_gfi rfl rfl rfl rfl rfl ?_
              refine l_iload rfl rfl ?_
              refine l_if_eq rfl rfl (by unfold rg; omega) (fun w34 => ?_) (fun w35 => absurd w35 (by omega))
              · refine l_lconst (z := 0) rfl rfl ?_
                refine l_lastore (n := 8) rfl rfl (by omega) (by omega) (by unfold rg; omega) ?_
                obtain ⟨U4, eU4⟩ : ∃ T : sS, T = uJ T3 992 (((Xi T3 904 151)).toNat) (Int64.ofInt 0) := ⟨_, rfl⟩
                rw [← eU4]
                have hHU4 : HI U4 := by rw [eU4]; exact HI_J hHT3
                have hFU4 : FR md_mo_isCommand S U4 := by rw [eU4]; exact FR.wJ hFT3 (mdf_i (r := (992, 993, 0, 100000)) (List.mem_of_getElem? (i := 3) rfl) (inR_i (by omega) (by omega) (by omega) (by omega)))
                refine l_aload_n rfl rfl ?_
                refine l_dup rfl rfl ?_
                refine l_gfi rfl rfl rfl rfl rfl ?_
                have w36 : (Xi U4 904 151) = (Xi T3 904 151) := (show Xi U4 904 151 = Xi T3 904 151 from by rw [eU4]; rfl)
                rw [w36]
                refine l_iconst rfl ?_
                refine l_iadd rfl ?_
                refine l_pfi rfl rfl rfl rfl ?_
                obtain ⟨U5, eU5⟩ : ∃ T : sS, T = uI U4 904 151 (Int32.ofInt ((Xi T3 904 151) + 1)) := ⟨_, rfl⟩
                rw [← eU5]
                have hHU5 : HI U5 := by rw [eU5]; exact HI_w hHU4 (show 0 ≤ ((Xi T3 904 151) + 1) by omega) (show ((Xi T3 904 151) + 1) ≤ 8 by omega)
                have hFU5 : FR md_mo_isCommand S U5 := by rw [eU5]; exact FR.wI hFU4 (mdf_i (r := (904, 905, 151, 152)) (List.mem_of_getElem? (i := 1) rfl) (inR_i (by omega) (by omega) (by omega) (by omega)))
                have w37 : Xi U5 904 151 = ((Xi T3 904 151) + 1) := by rw [eU5]; exact Xi_same (by unfold rg; omega)
                refine l_iload rfl rfl ?_
                refine l_istore_n rfl rfl rfl ?_
                refine l_iconst rfl ?_
                refine l_istore rfl rfl rfl ?_
                refine l_goto rfl rfl ?_
                have w38 : Xi U5 904 150 = Xi T3 904 150 := (show Xi U5 904 150 = Xi U4 904 150 from by rw [eU5]; exact Xi_ne (by omega)).trans ((show Xi U4 904 150 = Xi T3 904 150 from by rw [eU4]; rfl))
                have w39 : 0 ≤ Xi T3 904 150 ∧ Xi T3 904 150 ≤ 5000 := hHT3.c _ _
                have w40 : 0 ≤ Xi U5 904 151 ∧ Xi U5 904 151 ≤ 8 := hHU5.c _ _
                exact Rl_weak (ih23 _ (by omega) U5 hHU5 hFU5 (v7) (v4) (0) (0) (by omega) (by omega) (by omega) (by omega) (by omega) (by omega) (by omega) rfl) (And.intro rfl (And.intro rfl (And.intro rfl (And.intro rfl (And.intro rfl (True.intro))))))
            · refine l_iconst rfl ?_
              refine l_goto rfl rfl ?_
              refine l_istore rfl rfl rfl ?_
              refine l_aload_n rfl rfl ?_
              refine l_gfr rfl rfl rfl rfl rfl (hHT3.r 904 152 992 rfl) ?_
              refine l_aload_n rfl rfl ?_
              refine l_gfi rfl rfl rfl rfl rfl ?_
              refine l_iload rfl rfl ?_
              refine l_if_eq rfl rfl (by unfold rg; omega) (fun w41 => absurd w41 (by omega)) (fun w42 => ?_)
              · refine l_aload_n rfl rfl ?_
                refine l_gfr rfl rfl rfl rfl rfl (hHT3.r 904 2 906 rfl) ?_
                refine l_iload_n rfl rfl ?_
                refine l_iload rfl rfl ?_
                refine l_iload_n rfl rfl ?_
                refine l_isub rfl ?_
                refine l_callS rfl rfl (by decide) rfl (t_mo_wordOf hHT3 906 v3 (v7 - v3) (Or.inr rfl) ⟨by omega, by omega⟩ ⟨by omega, by omega⟩ (by first | assumption | omega) _) ?_
                rintro _ _ ⟨rfl, z45, rfl⟩
                show Rl _ _ _ _ _ [jw z45, iv (Xi T3 904 151), .ref 992] _ _
                refine l_goto rfl rfl ?_
                refine l_lastore (n := 8) rfl rfl (by omega) (by omega) (by unfold rg; omega) ?_
                obtain ⟨U6, eU6⟩ : ∃ T : sS, T = uJ T3 992 (((Xi T3 904 151)).toNat) (Int64.ofInt z45) := ⟨_, rfl⟩
                rw [← eU6]
                have hHU6 : HI U6 := by rw [eU6]; exact HI_J hHT3
                have hFU6 : FR md_mo_isCommand S U6 := by rw [eU6]; exact FR.wJ hFT3 (mdf_i (r := (992, 993, 0, 100000)) (List.mem_of_getElem? (i := 3) rfl) (inR_i (by omega) (by omega) (by omega) (by omega)))
                refine l_aload_n rfl rfl ?_
                refine l_dup rfl rfl ?_
                refine l_gfi rfl rfl rfl rfl rfl ?_
                have w46 : (Xi U6 904 151) = (Xi T3 904 151) := (show Xi U6 904 151 = Xi T3 904 151 from by rw [eU6]; rfl)
                rw [w46]
                refine l_iconst rfl ?_
                refine l_iadd rfl ?_
                refine l_pfi rfl rfl rfl rfl ?_
                obtain ⟨U7, eU7⟩ : ∃ T : sS, T = uI U6 904 151 (Int32.ofInt ((Xi T3 904 151) + 1)) := ⟨_, rfl⟩
                rw [← eU7]
                have hHU7 : HI U7 := by rw [eU7]; exact HI_w hHU6 (show 0 ≤ ((Xi T3 904 151) + 1) by omega) (show ((Xi T3 904 151) + 1) ≤ 8 by omega)
                have hFU7 : FR md_mo_isCommand S U7 := by rw [eU7]; exact FR.wI hFU6 (mdf_i (r := (904, 905, 151, 152)) (List.mem_of_getElem? (i := 1) rfl) (inR_i (by omega) (by omega) (by omega) (by omega)))
                have w47 : Xi U7 904 151 = ((Xi T3 904 151) + 1) := by rw [eU7]; exact Xi_same (by unfold rg; omega)
                refine l_iload rfl rfl ?_
                refine l_istore_n rfl rfl rfl ?_
                refine l_iconst rfl ?_
                refine l_istore rfl rfl rfl ?_
                refine l_goto rfl rfl ?_
                have w48 : Xi U7 904 150 = Xi T3 904 150 := (show Xi U7 904 150 = Xi U6 904 150 from by rw [eU7]; exact Xi_ne (by omega)).trans ((show Xi U6 904 150 = Xi T3 904 150 from by rw [eU6]; rfl))
                have w49 : 0 ≤ Xi T3 904 150 ∧ Xi T3 904 150 ≤ 5000 := hHT3.c _ _
                have w50 : 0 ≤ Xi U7 904 151 ∧ Xi U7 904 151 ≤ 8 := hHU7.c _ _
                exact Rl_weak (ih23 _ (by omega) U7 hHU7 hFU7 (v7) (v4) (1) (0) (by omega) (by omega) (by omega) (by omega) (by omega) (by omega) (by omega) rfl) (And.intro rfl (And.intro rfl (And.intro rfl (And.intro rfl (And.intro rfl (True.intro))))))
          refine l_iload rfl rfl ?_
          refine l_iload rfl rfl ?_
          refine l_icmp_ge rfl rfl (by unfold rg; omega) (by unfold rg; omega) (fun w51 => ?_) (fun w52 => ?_)
          · have w53 : 0 ≤ Xi T2 904 150 ∧ Xi T2 904 150 ≤ 5000 := hHT2.c _ _
            exact Rl_weak (C115 T2 hHT2 hFT2 (v3) (v4) (v7) (by omega) (by omega) (by omega) (by omega) (by omega) (by omega) (by omega) (by omega) (by omega) (by omega)) (And.intro rfl (And.intro rfl (And.intro rfl (And.intro rfl (True.intro)))))
          · refine l_aload_n rfl rfl ?_
            refine l_gfr rfl rfl rfl rfl rfl (hHT2.r 904 2 906 rfl) ?_
            refine l_iload rfl rfl ?_
            refine l_baload (n := 5000) rfl rfl rfl (by decide) (by omega) (by omega) (by unfold rg; omega) ?_
            have w55 : -128 ≤ (Xi T2 906 ((v7).toNat)) ∧ (Xi T2 906 ((v7).toNat)) ≤ 127 := hHT2.c _ _
            have e102 : (Xi T2 906 ((v7).toNat)) = Xi S 906 (v7).toNat := by first | rfl | exact (hFT2.cx 906 rfl _).1
            refine l_callS rfl rfl (by decide) rfl (t_mo_isLetter hHT2 (Xi T2 906 ((v7).toNat)) ⟨by omega, by omega⟩ _) ?_
            rintro _ _ ⟨rfl, z59, rfl, w59, w58⟩
            show Rl _ _ _ _ _ [iv z59] _ _
            have l103 : v7 = v3 → z59 = 1 := fun q => by rw [(by assumption : z59 = ltr _), e102]; exact hl89 q
            refine l_if_eq rfl rfl (by unfold rg; omega) (fun w60 => ?_) (fun w61 => ?_)
            · have w62 : 0 ≤ Xi T2 904 150 ∧ Xi T2 904 150 ≤ 5000 := hHT2.c _ _
              exact Rl_weak (C115 T2 hHT2 hFT2 (v3) (v4) (v7) (by omega) (by omega) (by omega) (by omega) (by omega) (by omega) (by omega) (by omega) (by omega) (by omega)) (And.intro rfl (And.intro rfl (And.intro rfl (And.intro rfl (True.intro)))))
            · refine l_iinc rfl rfl rfl rfl ?_
              refine l_goto rfl rfl ?_
              have w64 : 0 ≤ Xi T2 904 150 ∧ Xi T2 904 150 ≤ 5000 := hHT2.c _ _
              exact Rl_weak (ih89 _ (by omega) T2 hHT2 hFT2 (v3) (v4) ((v7 + 1)) (by omega) (by omega) (by omega) (by omega) (by omega) (by omega) (by omega) (by omega) (by omega) (by omega) (by first | exact fun _ => by omega | exact fun q => by omega) (by omega) rfl) (And.intro rfl (And.intro rfl (And.intro rfl (And.intro rfl (True.intro)))))
      have C272 : ∀  (T8 : sS) (_ : HI T8) (_ : FR md_mo_isCommand S T8) (v5 : Int), (0 ≤ v5 ∧ v5 ≤ 1) → Rl lay0 (d + 4) m_mo_isCommand 272 [(0, .ref 904), (5, iv v5)] [] T8 (Q_mo_isCommand S from_ n) := by
        intro T8 hHT8 hFT8 v5 w66
        refine l_iload rfl rfl ?_
        refine l_if_eq rfl rfl (by unfold rg; omega) (fun w67 => ?_) (fun w68 => ?_)
        · refine l_iconst rfl ?_
          refine l_ireturn rfl rfl ?_
          exact ⟨hHT8, hFT8, _, rfl, ⟨by omega, by omega⟩⟩
        · refine l_aload_n rfl rfl ?_
          refine l_gfi rfl rfl rfl rfl rfl ?_
          have w71 : 0 ≤ (Xi T8 904 151) ∧ (Xi T8 904 151) ≤ 8 := hHT8.c _ _
          refine l_if_le rfl rfl (by unfold rg; omega) (fun w72 => ?_) (fun w73 => ?_)
          · refine l_iconst rfl ?_
            refine l_ireturn rfl rfl ?_
            exact ⟨hHT8, hFT8, _, rfl, ⟨by omega, by omega⟩⟩
          · refine l_iconst rfl ?_
            refine l_goto rfl rfl ?_
            refine l_ireturn rfl rfl ?_
            exact ⟨hHT8, hFT8, _, rfl, ⟨by omega, by omega⟩⟩
      refine l_iload rfl rfl ?_
      refine l_if_eq rfl rfl (by unfold rg; omega) (fun w78 => ?_) (fun w79 => ?_)
      · have w80 : 0 ≤ Xi T1 904 150 ∧ Xi T1 904 150 ≤ 5000 := hHT1.c _ _
        have w81 : 0 ≤ Xi T1 904 151 ∧ Xi T1 904 151 ≤ 8 := hHT1.c _ _
        exact Rl_weak (C272 T1 hHT1 hFT1 (v5) (by omega)) (And.intro rfl (And.intro rfl (True.intro)))
      · refine l_iload_n rfl rfl ?_
        refine l_iload rfl rfl ?_
        refine l_icmp_ge rfl rfl (by unfold rg; omega) (by unfold rg; omega) (fun w82 => ?_) (fun w83 => ?_)
        · have w84 : 0 ≤ Xi T1 904 150 ∧ Xi T1 904 150 ≤ 5000 := hHT1.c _ _
          have w85 : 0 ≤ Xi T1 904 151 ∧ Xi T1 904 151 ≤ 8 := hHT1.c _ _
          exact Rl_weak (C272 T1 hHT1 hFT1 (v5) (by omega)) (And.intro rfl (And.intro rfl (True.intro)))
        · refine l_aload_n rfl rfl ?_
          refine l_gfr rfl rfl rfl rfl rfl (hHT1.r 904 2 906 rfl) ?_
          refine l_iload_n rfl rfl ?_
          refine l_baload (n := 5000) rfl rfl rfl (by decide) (by omega) (by omega) (by unfold rg; omega) ?_
          have w86 : -128 ≤ (Xi T1 906 ((v3).toNat)) ∧ (Xi T1 906 ((v3).toNat)) ≤ 127 := hHT1.c _ _
          refine l_bipush rfl rfl ?_
          refine l_icmp_ne rfl rfl (by unfold rg; omega) (by unfold rg; omega) (fun w87 => ?_) (fun w88 => ?_)
          · refine l_iload rfl rfl ?_
            refine l_if_eq rfl rfl (by unfold rg; omega) (fun w89 => ?_) (fun w90 => ?_)
            · refine l_iconst rfl ?_
              refine l_istore rfl rfl rfl ?_
              refine l_goto rfl rfl ?_
              have w91 : 0 ≤ Xi T1 904 150 ∧ Xi T1 904 150 ≤ 5000 := hHT1.c _ _
              have w92 : 0 ≤ Xi T1 904 151 ∧ Xi T1 904 151 ≤ 8 := hHT1.c _ _
              exact Rl_weak (ih23 _ (by omega) T1 hHT1 hFT1 (v3) (v4) (0) (v6) (by omega) (by omega) (by omega) (by omega) (by omega) (by omega) (by omega) rfl) (And.intro rfl (And.intro rfl (And.intro rfl (And.intro rfl (And.intro rfl (True.intro))))))
            · refine l_aload_n rfl rfl ?_
              refine l_gfi rfl rfl rfl rfl rfl ?_
              have w93 : 0 ≤ (Xi T1 904 151) ∧ (Xi T1 904 151) ≤ 8 := hHT1.c _ _
              refine l_bipush rfl rfl ?_
              refine l_icmp_ne rfl rfl (by unfold rg; omega) (by unfold rg; omega) (fun w94 => ?_) (fun w95 => ?_)
              · refine l_aload_n rfl rfl ?_
                refine l_gfr rfl rfl rfl rfl rfl (hHT1.r 904 2 906 rfl) ?_
                refine l_iload_n rfl rfl ?_
                refine l_baload (n := 5000) rfl rfl rfl (by decide) (by omega) (by omega) (by unfold rg; omega) ?_
                have e79 : (Xi T1 906 ((v3).toNat)) = Xi S 906 (v3).toNat := by first | rfl | exact (hFT1.cx 906 rfl _).1
                refine l_callS rfl rfl (by decide) rfl (t_mo_isLetter hHT1 (Xi T1 906 ((v3).toNat)) ⟨by omega, by omega⟩ _) ?_
                rintro _ _ ⟨rfl, z99, rfl, w99, w98⟩
                show Rl _ _ _ _ _ [iv z99] _ _
                have l80 : z99 = ltr (Xi S 906 (v3).toNat) := by rw [← e79]; assumption
                refine l_if_eq rfl rfl (by unfold rg; omega) (fun w100 => ?_) (fun w101 => ?_)
                · refine l_aload_n rfl rfl ?_
                  refine l_gfr rfl rfl rfl rfl rfl (hHT1.r 904 2 906 rfl) ?_
                  refine l_iload_n rfl rfl ?_
                  refine l_baload (n := 5000) rfl rfl rfl (by decide) (by omega) (by omega) (by unfold rg; omega) ?_
                  refine l_bipush rfl rfl ?_
                  refine l_icmp_ne rfl rfl (by unfold rg; omega) (by unfold rg; omega) (fun w102 => ?_) (fun w103 => ?_)
                  · refine l_iconst rfl ?_
                    refine l_istore rfl rfl rfl ?_
                    refine l_iload rfl rfl ?_
                    refine l_if_eq rfl rfl (by unfold rg; omega) (fun w104 => ?_) (fun w105 => absurd w105 (by omega))
                    · refine l_iload_n rfl rfl ?_
                      refine l_istore_n rfl rfl rfl ?_
                      refine l_iload rfl rfl ?_
                      refine l_if_eq rfl rfl (by unfold rg; omega) (fun w106 => ?_) (fun w107 => absurd w107 (by omega))
                      · refine l_iconst rfl ?_
                        refine l_istore rfl rfl rfl ?_
                        refine l_aload_n rfl rfl ?_
                        refine l_gfr rfl rfl rfl rfl rfl (hHT1.r 904 152 992 rfl) ?_
                        refine l_bipush rfl rfl ?_
                        refine l_aload_n rfl rfl ?_
                        refine l_gfi rfl rfl rfl rfl rfl ?_
                        refine l_min rfl rfl rfl (by unfold rg; omega) (by unfold rg; omega) ?_
                        refine l_lconst (z := 0) rfl rfl ?_
                        refine l_lastore (n := 8) rfl rfl (by omega) (by omega) (by unfold rg; omega) ?_
                        obtain ⟨U9, eU9⟩ : ∃ T : sS, T = uJ T1 992 (((if (Xi T1 904 151) < 7 then (Xi T1 904 151) else 7)).toNat) (Int64.ofInt 0) := ⟨_, rfl⟩
                        rw [← eU9]
                        have hHU9 : HI U9 := by rw [eU9]; exact HI_J hHT1
                        have hFU9 : FR md_mo_isCommand S U9 := by rw [eU9]; exact FR.wJ hFT1 (mdf_i (r := (992, 993, 0, 100000)) (List.mem_of_getElem? (i := 3) rfl) (inR_i (by omega) (by omega) (by omega) (by omega)))
                        refine l_aload_n rfl rfl ?_
                        refine l_dup rfl rfl ?_
                        refine l_gfi rfl rfl rfl rfl rfl ?_
                        have w108 : (Xi U9 904 151) = (Xi T1 904 151) := (show Xi U9 904 151 = Xi T1 904 151 from by rw [eU9]; rfl)
                        rw [w108]
                        refine l_iconst rfl ?_
                        refine l_iadd rfl ?_
                        refine l_pfi rfl rfl rfl rfl ?_
                        obtain ⟨U10, eU10⟩ : ∃ T : sS, T = uI U9 904 151 (Int32.ofInt ((Xi T1 904 151) + 1)) := ⟨_, rfl⟩
                        rw [← eU10]
                        have hHU10 : HI U10 := by rw [eU10]; exact HI_w hHU9 (show 0 ≤ ((Xi T1 904 151) + 1) by omega) (show ((Xi T1 904 151) + 1) ≤ 8 by omega)
                        have hFU10 : FR md_mo_isCommand S U10 := by rw [eU10]; exact FR.wI hFU9 (mdf_i (r := (904, 905, 151, 152)) (List.mem_of_getElem? (i := 1) rfl) (inR_i (by omega) (by omega) (by omega) (by omega)))
                        have w109 : Xi U10 904 151 = ((Xi T1 904 151) + 1) := by rw [eU10]; exact Xi_same (by unfold rg; omega)
                        refine l_iconst rfl ?_
                        refine l_istore rfl rfl rfl ?_
                        refine l_goto rfl rfl ?_
                        have w110 : Xi U10 904 150 = Xi T1 904 150 := (show Xi U10 904 150 = Xi U9 904 150 from by rw [eU10]; exact Xi_ne (by omega)).trans ((show Xi U9 904 150 = Xi T1 904 150 from by rw [eU9]; rfl))
                        have w111 : 0 ≤ Xi T1 904 150 ∧ Xi T1 904 150 ≤ 5000 := hHT1.c _ _
                        have w112 : 0 ≤ Xi U10 904 151 ∧ Xi U10 904 151 ≤ 8 := hHU10.c _ _
                        exact Rl_weak (ih23 _ (by omega) U10 hHU10 hFU10 (v3) (v4) (0) (0) (by omega) (by omega) (by omega) (by omega) (by omega) (by omega) (by omega) rfl) (And.intro rfl (And.intro rfl (And.intro rfl (And.intro rfl (And.intro rfl (True.intro))))))
                  · refine l_aload_n rfl rfl ?_
                    refine l_gfi rfl rfl rfl rfl rfl ?_
                    have w113 : 0 ≤ (Xi T1 904 150) ∧ (Xi T1 904 150) ≤ 5000 := hHT1.c _ _
                    refine l_if_ne rfl rfl (by unfold rg; omega) (fun w114 => ?_) (fun w115 => ?_)
                    · refine l_iconst rfl ?_
                      refine l_istore rfl rfl rfl ?_
                      refine l_iload rfl rfl ?_
                      refine l_if_eq rfl rfl (by unfold rg; omega) (fun w116 => ?_) (fun w117 => absurd w117 (by omega))
                      · refine l_iload_n rfl rfl ?_
                        refine l_istore_n rfl rfl rfl ?_
                        refine l_iload rfl rfl ?_
                        refine l_if_eq rfl rfl (by unfold rg; omega) (fun w118 => ?_) (fun w119 => absurd w119 (by omega))
                        · refine l_iconst rfl ?_
                          refine l_istore rfl rfl rfl ?_
                          refine l_aload_n rfl rfl ?_
                          refine l_gfr rfl rfl rfl rfl rfl (hHT1.r 904 152 992 rfl) ?_
                          refine l_bipush rfl rfl ?_
                          refine l_aload_n rfl rfl ?_
                          refine l_gfi rfl rfl rfl rfl rfl ?_
                          refine l_min rfl rfl rfl (by unfold rg; omega) (by unfold rg; omega) ?_
                          refine l_lconst (z := 0) rfl rfl ?_
                          refine l_lastore (n := 8) rfl rfl (by omega) (by omega) (by unfold rg; omega) ?_
                          obtain ⟨U11, eU11⟩ : ∃ T : sS, T = uJ T1 992 (((if (Xi T1 904 151) < 7 then (Xi T1 904 151) else 7)).toNat) (Int64.ofInt 0) := ⟨_, rfl⟩
                          rw [← eU11]
                          have hHU11 : HI U11 := by rw [eU11]; exact HI_J hHT1
                          have hFU11 : FR md_mo_isCommand S U11 := by rw [eU11]; exact FR.wJ hFT1 (mdf_i (r := (992, 993, 0, 100000)) (List.mem_of_getElem? (i := 3) rfl) (inR_i (by omega) (by omega) (by omega) (by omega)))
                          refine l_aload_n rfl rfl ?_
                          refine l_dup rfl rfl ?_
                          refine l_gfi rfl rfl rfl rfl rfl ?_
                          have w120 : (Xi U11 904 151) = (Xi T1 904 151) := (show Xi U11 904 151 = Xi T1 904 151 from by rw [eU11]; rfl)
                          rw [w120]
                          refine l_iconst rfl ?_
                          refine l_iadd rfl ?_
                          refine l_pfi rfl rfl rfl rfl ?_
                          obtain ⟨U12, eU12⟩ : ∃ T : sS, T = uI U11 904 151 (Int32.ofInt ((Xi T1 904 151) + 1)) := ⟨_, rfl⟩
                          rw [← eU12]
                          have hHU12 : HI U12 := by rw [eU12]; exact HI_w hHU11 (show 0 ≤ ((Xi T1 904 151) + 1) by omega) (show ((Xi T1 904 151) + 1) ≤ 8 by omega)
                          have hFU12 : FR md_mo_isCommand S U12 := by rw [eU12]; exact FR.wI hFU11 (mdf_i (r := (904, 905, 151, 152)) (List.mem_of_getElem? (i := 1) rfl) (inR_i (by omega) (by omega) (by omega) (by omega)))
                          have w121 : Xi U12 904 151 = ((Xi T1 904 151) + 1) := by rw [eU12]; exact Xi_same (by unfold rg; omega)
                          refine l_iconst rfl ?_
                          refine l_istore rfl rfl rfl ?_
                          refine l_goto rfl rfl ?_
                          have w122 : Xi U12 904 150 = Xi T1 904 150 := (show Xi U12 904 150 = Xi U11 904 150 from by rw [eU12]; exact Xi_ne (by omega)).trans ((show Xi U11 904 150 = Xi T1 904 150 from by rw [eU11]; rfl))
                          have w123 : 0 ≤ Xi T1 904 150 ∧ Xi T1 904 150 ≤ 5000 := hHT1.c _ _
                          have w124 : 0 ≤ Xi U12 904 151 ∧ Xi U12 904 151 ≤ 8 := hHU12.c _ _
                          exact Rl_weak (ih23 _ (by omega) U12 hHU12 hFU12 (v3) (v4) (0) (0) (by omega) (by omega) (by omega) (by omega) (by omega) (by omega) (by omega) rfl) (And.intro rfl (And.intro rfl (And.intro rfl (And.intro rfl (And.intro rfl (True.intro))))))
                    · refine l_iconst rfl ?_
                      refine l_goto rfl rfl ?_
                      refine l_istore rfl rfl rfl ?_
                      refine l_iload rfl rfl ?_
                      refine l_if_eq rfl rfl (by unfold rg; omega) (fun w125 => absurd w125 (by omega)) (fun w126 => ?_)
                      · refine l_aload_n rfl rfl ?_
                        refine l_iload_n rfl rfl ?_
                        refine l_iconst rfl ?_
                        refine l_iadd rfl ?_
                        refine l_iload rfl rfl ?_
                        have w127 : 0 ≤ Xi T1 904 150 ∧ Xi T1 904 150 ≤ 5000 := hHT1.c _ _
                        refine l_callV rfl rfl rfl (t_mo_slot hHT1 (v3 + 1) v4 ⟨by omega, by omega⟩ ⟨by omega, by omega⟩ (by first | assumption | omega) (by first | assumption | omega) _) ?_
                        rintro _ T13 ⟨hHT13, w131, z130, rfl, w130, w129⟩
                        have hFT13 : FR md_mo_isCommand S T13 := FR.tr hFT1 w131 rfl
                        show Rl _ _ _ _ _ [iv z130] _ _
                        refine l_goto rfl rfl ?_
                        refine l_istore_n rfl rfl rfl ?_
                        refine l_iload rfl rfl ?_
                        refine l_if_eq rfl rfl (by unfold rg; omega) (fun w132 => absurd w132 (by omega)) (fun w133 => ?_)
                        · refine l_iload_n rfl rfl ?_
                          refine l_iconst rfl ?_
                          refine l_icmp_eq rfl rfl (by unfold rg; omega) (by unfold rg; omega) (fun w134 => ?_) (fun w135 => ?_)
                          · refine l_iconst rfl ?_
                            refine l_istore rfl rfl rfl ?_
                            refine l_aload_n rfl rfl ?_
                            refine l_gfr rfl rfl rfl rfl rfl (hHT13.r 904 152 992 rfl) ?_
                            refine l_bipush rfl rfl ?_
                            refine l_aload_n rfl rfl ?_
                            refine l_gfi rfl rfl rfl rfl rfl ?_
                            have w136 : (Xi T13 904 151) = (Xi T1 904 151) := (show Xi T13 904 151 = Xi T1 904 151 from w131.x _ _ rfl)
                            rw [w136]
                            refine l_min rfl rfl rfl (by unfold rg; omega) (by unfold rg; omega) ?_
                            refine l_lconst (z := 0) rfl rfl ?_
                            refine l_lastore (n := 8) rfl rfl (by omega) (by omega) (by unfold rg; omega) ?_
                            obtain ⟨U14, eU14⟩ : ∃ T : sS, T = uJ T13 992 (((if (Xi T1 904 151) < 7 then (Xi T1 904 151) else 7)).toNat) (Int64.ofInt 0) := ⟨_, rfl⟩
                            rw [← eU14]
                            have hHU14 : HI U14 := by rw [eU14]; exact HI_J hHT13
                            have hFU14 : FR md_mo_isCommand S U14 := by rw [eU14]; exact FR.wJ hFT13 (mdf_i (r := (992, 993, 0, 100000)) (List.mem_of_getElem? (i := 3) rfl) (inR_i (by omega) (by omega) (by omega) (by omega)))
                            refine l_aload_n rfl rfl ?_
                            refine l_dup rfl rfl ?_
                            refine l_gfi rfl rfl rfl rfl rfl ?_
                            have w137 : (Xi U14 904 151) = (Xi T1 904 151) := (show Xi U14 904 151 = Xi T13 904 151 from by rw [eU14]; rfl).trans ((show Xi T13 904 151 = Xi T1 904 151 from w131.x _ _ rfl))
                            rw [w137]
                            refine l_iconst rfl ?_
                            refine l_iadd rfl ?_
                            refine l_pfi rfl rfl rfl rfl ?_
                            obtain ⟨U15, eU15⟩ : ∃ T : sS, T = uI U14 904 151 (Int32.ofInt ((Xi T1 904 151) + 1)) := ⟨_, rfl⟩
                            rw [← eU15]
                            have hHU15 : HI U15 := by rw [eU15]; exact HI_w hHU14 (show 0 ≤ ((Xi T1 904 151) + 1) by omega) (show ((Xi T1 904 151) + 1) ≤ 8 by omega)
                            have hFU15 : FR md_mo_isCommand S U15 := by rw [eU15]; exact FR.wI hFU14 (mdf_i (r := (904, 905, 151, 152)) (List.mem_of_getElem? (i := 1) rfl) (inR_i (by omega) (by omega) (by omega) (by omega)))
                            have w138 : Xi U15 904 151 = ((Xi T1 904 151) + 1) := by rw [eU15]; exact Xi_same (by unfold rg; omega)
                            refine l_iconst rfl ?_
                            refine l_istore rfl rfl rfl ?_
                            refine l_goto rfl rfl ?_
                            have w139 : Xi U15 904 150 = Xi T13 904 150 := (show Xi U15 904 150 = Xi U14 904 150 from by rw [eU15]; exact Xi_ne (by omega)).trans ((show Xi U14 904 150 = Xi T13 904 150 from by rw [eU14]; rfl))
                            have w140 : 0 ≤ Xi T13 904 150 ∧ Xi T13 904 150 ≤ 5000 := hHT13.c _ _
                            have w141 : 0 ≤ Xi U15 904 151 ∧ Xi U15 904 151 ≤ 8 := hHU15.c _ _
                            exact Rl_weak (ih23 _ (by omega) U15 hHU15 hFU15 (z130) (v4) (0) (0) (by omega) (by omega) (by omega) (by omega) (by omega) (by omega) (by omega) rfl) (And.intro rfl (And.intro rfl (And.intro rfl (And.intro rfl (And.intro rfl (True.intro))))))
                          · refine l_iconst rfl ?_
                            refine l_goto rfl rfl ?_
                            refine l_istore rfl rfl rfl ?_
                            refine l_aload_n rfl rfl ?_
                            refine l_gfr rfl rfl rfl rfl rfl (hHT13.r 904 152 992 rfl) ?_
                            refine l_bipush rfl rfl ?_
                            refine l_aload_n rfl rfl ?_
                            refine l_gfi rfl rfl rfl rfl rfl ?_
                            have w142 : (Xi T13 904 151) = (Xi T1 904 151) := (show Xi T13 904 151 = Xi T1 904 151 from w131.x _ _ rfl)
                            rw [w142]
                            refine l_min rfl rfl rfl (by unfold rg; omega) (by unfold rg; omega) ?_
                            refine l_lconst (z := 0) rfl rfl ?_
                            refine l_lastore (n := 8) rfl rfl (by omega) (by omega) (by unfold rg; omega) ?_
                            obtain ⟨U16, eU16⟩ : ∃ T : sS, T = uJ T13 992 (((if (Xi T1 904 151) < 7 then (Xi T1 904 151) else 7)).toNat) (Int64.ofInt 0) := ⟨_, rfl⟩
                            rw [← eU16]
                            have hHU16 : HI U16 := by rw [eU16]; exact HI_J hHT13
                            have hFU16 : FR md_mo_isCommand S U16 := by rw [eU16]; exact FR.wJ hFT13 (mdf_i (r := (992, 993, 0, 100000)) (List.mem_of_getElem? (i := 3) rfl) (inR_i (by omega) (by omega) (by omega) (by omega)))
                            refine l_aload_n rfl rfl ?_
                            refine l_dup rfl rfl ?_
                            refine l_gfi rfl rfl rfl rfl rfl ?_
                            have w143 : (Xi U16 904 151) = (Xi T1 904 151) := (show Xi U16 904 151 = Xi T13 904 151 from by rw [eU16]; rfl).trans ((show Xi T13 904 151 = Xi T1 904 151 from w131.x _ _ rfl))
                            rw [w143]
                            refine l_iconst rfl ?_
                            refine l_iadd rfl ?_
                            refine l_pfi rfl rfl rfl rfl ?_
                            obtain ⟨U17, eU17⟩ : ∃ T : sS, T = uI U16 904 151 (Int32.ofInt ((Xi T1 904 151) + 1)) := ⟨_, rfl⟩
                            rw [← eU17]
                            have hHU17 : HI U17 := by rw [eU17]; exact HI_w hHU16 (show 0 ≤ ((Xi T1 904 151) + 1) by omega) (show ((Xi T1 904 151) + 1) ≤ 8 by omega)
                            have hFU17 : FR md_mo_isCommand S U17 := by rw [eU17]; exact FR.wI hFU16 (mdf_i (r := (904, 905, 151, 152)) (List.mem_of_getElem? (i := 1) rfl) (inR_i (by omega) (by omega) (by omega) (by omega)))
                            have w144 : Xi U17 904 151 = ((Xi T1 904 151) + 1) := by rw [eU17]; exact Xi_same (by unfold rg; omega)
                            refine l_iconst rfl ?_
                            refine l_istore rfl rfl rfl ?_
                            refine l_goto rfl rfl ?_
                            have w145 : Xi U17 904 150 = Xi T13 904 150 := (show Xi U17 904 150 = Xi U16 904 150 from by rw [eU17]; exact Xi_ne (by omega)).trans ((show Xi U16 904 150 = Xi T13 904 150 from by rw [eU16]; rfl))
                            have w146 : 0 ≤ Xi T13 904 150 ∧ Xi T13 904 150 ≤ 5000 := hHT13.c _ _
                            have w147 : 0 ≤ Xi U17 904 151 ∧ Xi U17 904 151 ≤ 8 := hHU17.c _ _
                            exact Rl_weak (ih23 _ (by omega) U17 hHU17 hFU17 (z130) (v4) (1) (0) (by omega) (by omega) (by omega) (by omega) (by omega) (by omega) (by omega) rfl) (And.intro rfl (And.intro rfl (And.intro rfl (And.intro rfl (And.intro rfl (True.intro))))))
                · refine l_iload_n rfl rfl ?_
                  refine l_istore rfl rfl rfl ?_
                  have w148 : 0 ≤ Xi T1 904 150 ∧ Xi T1 904 150 ≤ 5000 := hHT1.c _ _
                  have w149 : 0 ≤ Xi T1 904 151 ∧ Xi T1 904 151 ≤ 8 := hHT1.c _ _
                  exact Rl_weak (C89 _ T1 hHT1 hFT1 (v3) (v4) (v3) (by omega) (by omega) (by omega) (by omega) (by omega) (by omega) (by omega) (by omega) (by omega) (by omega) (by first | exact fun _ => by omega | exact fun q => by omega) (by omega) rfl) (And.intro rfl (And.intro rfl (And.intro rfl (And.intro rfl (True.intro)))))
              · refine l_iconst rfl ?_
                refine l_istore rfl rfl rfl ?_
                refine l_goto rfl rfl ?_
                have w150 : 0 ≤ Xi T1 904 150 ∧ Xi T1 904 150 ≤ 5000 := hHT1.c _ _
                have w151 : 0 ≤ Xi T1 904 151 ∧ Xi T1 904 151 ≤ 8 := hHT1.c _ _
                exact Rl_weak (ih23 _ (by omega) T1 hHT1 hFT1 (v3) (v4) (0) (v6) (by omega) (by omega) (by omega) (by omega) (by omega) (by omega) (by omega) rfl) (And.intro rfl (And.intro rfl (And.intro rfl (And.intro rfl (And.intro rfl (True.intro))))))
          · refine l_iinc rfl rfl rfl rfl ?_
            refine l_iconst rfl ?_
            refine l_istore rfl rfl rfl ?_
            refine l_goto rfl rfl ?_
            have w152 : 0 ≤ Xi T1 904 150 ∧ Xi T1 904 150 ≤ 5000 := hHT1.c _ _
            have w153 : 0 ≤ Xi T1 904 151 ∧ Xi T1 904 151 ≤ 8 := hHT1.c _ _
            exact Rl_weak (ih23 _ (by omega) T1 hHT1 hFT1 ((v3 + 1)) (v4) (v5) (1) (by omega) (by omega) (by omega) (by omega) (by omega) (by omega) (by omega) rfl) (And.intro rfl (And.intro rfl (And.intro rfl (And.intro rfl (And.intro rfl (True.intro))))))
  refine l_iload_n rfl rfl ?_
  refine l_istore_n rfl rfl rfl ?_
  refine l_iload_n rfl rfl ?_
  refine l_iload_n rfl rfl ?_
  refine l_iadd rfl ?_
  refine l_istore rfl rfl rfl ?_
  refine l_aload_n rfl rfl ?_
  refine l_iconst rfl ?_
  refine l_pfi rfl rfl rfl rfl ?_
  obtain ⟨U18, eU18⟩ : ∃ T : sS, T = uI S 904 151 (Int32.ofInt 0) := ⟨_, rfl⟩
  rw [← eU18]
  have hHU18 : HI U18 := by rw [eU18]; exact HI_w hH (show 0 ≤ 0 by omega) (show 0 ≤ 8 by omega)
  have hFU18 : FR md_mo_isCommand S U18 := by rw [eU18]; exact FR.wI hF (mdf_i (r := (904, 905, 151, 152)) (List.mem_of_getElem? (i := 1) rfl) (inR_i (by omega) (by omega) (by omega) (by omega)))
  have w154 : Xi U18 904 151 = 0 := by rw [eU18]; exact Xi_same (by unfold rg; omega)
  refine l_aload_n rfl rfl ?_
  refine l_iconst rfl ?_
  refine l_pfi rfl rfl rfl rfl ?_
  obtain ⟨U19, eU19⟩ : ∃ T : sS, T = uI U18 904 150 (Int32.ofInt 0) := ⟨_, rfl⟩
  rw [← eU19]
  have hHU19 : HI U19 := by rw [eU19]; exact HI_w hHU18 (show 0 ≤ 0 by omega) (show 0 ≤ 5000 by omega)
  have hFU19 : FR md_mo_isCommand S U19 := by rw [eU19]; exact FR.wI hFU18 (mdf_i (r := (904, 905, 150, 151)) (List.mem_of_getElem? (i := 0) rfl) (inR_i (by omega) (by omega) (by omega) (by omega)))
  have w155 : Xi U19 904 150 = 0 := by rw [eU19]; exact Xi_same (by unfold rg; omega)
  refine l_iconst rfl ?_
  refine l_istore rfl rfl rfl ?_
  refine l_iconst rfl ?_
  refine l_istore rfl rfl rfl ?_
  have w156 : 0 ≤ Xi U19 904 150 ∧ Xi U19 904 150 ≤ 5000 := hHU19.c _ _
  have w157 : Xi U19 904 151 = Xi U18 904 151 := (show Xi U19 904 151 = Xi U18 904 151 from by rw [eU19]; exact Xi_ne (by omega))
  have w158 : 0 ≤ Xi U18 904 151 ∧ Xi U18 904 151 ≤ 8 := hHU18.c _ _
  exact Rl_weak (C23 _ U19 hHU19 hFU19 (from_) ((from_ + n)) (1) (1) (by omega) (by omega) (by omega) (by omega) (by omega) (by omega) (by omega) rfl) (And.intro rfl (And.intro rfl (And.intro rfl (And.intro rfl (And.intro rfl (True.intro))))))
def md_mo_askVerb : List rec := [(904, 905, 104, 105), (904, 905, 105, 106), (904, 905, 106, 107)]
abbrev Q_mo_askVerb (S : sS) (n : Nat) : pst := fun r S1 => HI S1 ∧ FR md_mo_askVerb S S1 ∧ (r = none ∧ (Xi S1 904 106 = 0 → Xi S 904 47 < 8 ∧ rnR S 1 8 ≠ -1 ∧ Xi S 951 0 = 1))
set_option maxRecDepth 100000 in
set_option maxHeartbeats 4000000 in
theorem t_mo_askVerb {S : sS} (hH : HI S) (n : Nat) (hT : TK S n) (hv : RNV S n) (hM : LXM S) (hN : NWV S) (h2 : 2 ≤ Xi S 904 69) (d : Nat) : Mt lay0 (d + 5) m_mo_askVerb [.ref 904] S (Q_mo_askVerb S n) := by
  refine Mt_R rfl rfl ?_
  have hF : FR md_mo_askVerb S S := FR.rf
  have w1 : 0 ≤ Xi S 904 47 ∧ Xi S 904 47 ≤ 8 := hH.c _ _
  have w2 : 0 ≤ Xi S 904 69 ∧ Xi S 904 69 ≤ 2600 := hH.c _ _
  have w3 : 0 ≤ Xi S 951 0 ∧ Xi S 951 0 ≤ 5010 := hH.c _ _
  have hn5 := hT.1
  have hc69 : 0 ≤ Xi S 904 69 ∧ Xi S 904 69 ≤ 2600 := hH.c _ _
  have q0 := hv 0 (by omega)
  have q1 := hv 1 (by omega)
  have g0 : 0 ≤ Xi S 950 0 ∧ Xi S 950 0 ≤ 5010 := hH.c 950 0
  have g1 : 0 ≤ Xi S 950 1 ∧ Xi S 950 1 ≤ 5010 := hH.c 950 1
  refine l_aload_n rfl rfl ?_
  refine l_gfr rfl rfl rfl rfl rfl (hH.r 904 67 950 rfl) ?_
  refine l_iconst rfl ?_
  refine l_iaload (n := 2600) rfl rfl (by omega) (by omega) (by unfold rg; omega) ?_
  have w4 : 0 ≤ (Xi S 950 ((0 : Int).toNat)) ∧ (Xi S 950 ((0 : Int).toNat)) ≤ 5010 := hH.c _ _
  have w5 : (Xi S 950 ((0 : Int).toNat)) = Xi S 950 0 := rfl
  refine l_istore_n rfl rfl rfl ?_
  refine l_aload_n rfl rfl ?_
  refine l_gfr rfl rfl rfl rfl rfl (hH.r 904 68 951 rfl) ?_
  refine l_iconst rfl ?_
  refine l_iaload (n := 2600) rfl rfl (by omega) (by omega) (by unfold rg; omega) ?_
  have w6 : 0 ≤ (Xi S 951 ((0 : Int).toNat)) ∧ (Xi S 951 ((0 : Int).toNat)) ≤ 5010 := hH.c _ _
  have w7 : (Xi S 951 ((0 : Int).toNat)) = Xi S 951 0 := rfl
  refine l_iconst rfl ?_
  refine l_icmp_ne rfl rfl (by unfold rg; omega) (by unfold rg; omega) (fun w8 => ?_) (fun w9 => ?_)
  · refine l_iconst rfl ?_
    refine l_istore_n rfl rfl rfl ?_
    refine l_aload_n rfl rfl ?_
    refine l_iload_n rfl rfl ?_
    refine l_iconst rfl ?_
    refine l_iload_n rfl rfl ?_
    have w10 : 0 ≤ Xi S 904 106 ∧ Xi S 904 106 ≤ 9 := hH.c _ _
    refine l_callV rfl rfl rfl (t_mo_need hH 0 3 (Xi S 950 ((0 : Int).toNat)) ⟨by omega, by omega⟩ ⟨by omega, by omega⟩ ⟨by omega, by omega⟩ _) ?_
    rintro _ T1 ⟨hHT1, w16, rfl, w13, w14⟩
    have hFT1 : FR md_mo_askVerb S T1 := FR.tr hF w16 rfl
    show Rl _ _ _ _ _ [] _ _
    refine l_aload_n rfl rfl ?_
    refine l_iload_n rfl rfl ?_
    refine l_if_eq rfl rfl (by unfold rg; omega) (fun w17 => ?_) (fun w18 => absurd w18 (by omega))
    · refine l_iconst rfl ?_
      refine l_goto rfl rfl ?_
      refine l_bipush rfl rfl ?_
      refine l_iload_n rfl rfl ?_
      have w19 : 0 ≤ Xi T1 904 106 ∧ Xi T1 904 106 ≤ 9 := hHT1.c _ _
      refine l_callV rfl rfl rfl (t_mo_need hHT1 1 9 (Xi S 950 ((0 : Int).toNat)) ⟨by omega, by omega⟩ ⟨by omega, by omega⟩ ⟨by omega, by omega⟩ _) ?_
      rintro _ T2 ⟨hHT2, w27, rfl, w24, w25⟩
      have hFT2 : FR md_mo_askVerb S T2 := FR.tr hFT1 w27 rfl
      show Rl _ _ _ _ _ [] _ _
      refine l_aload_n rfl rfl ?_
      refine l_aload_n rfl rfl ?_
      refine l_iconst rfl ?_
      refine l_bipush rfl rfl ?_
      have w31 : Xi T2 904 69 = Xi S 904 69 := (show Xi T2 904 69 = Xi T1 904 69 from w27.x _ _ rfl).trans ((show Xi T1 904 69 = Xi S 904 69 from w16.x _ _ rfl))
      refine l_callV rfl rfl rfl (t_mo_meansRun__2 hHT2 n 1 8 ⟨by omega, by omega⟩ ⟨by omega, by omega⟩ (by first | assumption | exact (TK_FR hFT2 rfl (by assumption : TK S _))) (by first | assumption | exact (RNV_FR hFT2 rfl (by assumption : RNV S _))) (by first | assumption | omega) (by first | assumption | exact (LXM_FR hFT2 rfl (by assumption : LXM S))) _) ?_
      rintro _ _ ⟨rfl, z35, rfl, w35, w33, w34⟩
      show Rl _ _ _ _ _ [iv z35, .ref 904] _ _
      have r105 : z35 = rnR S 1 8 := (by assumption : z35 = rnR T2 _ _).trans (rnR_FR hFT2 rfl rfl)
      refine l_iconst rfl ?_
      refine l_icmp_eq rfl rfl (by unfold rg; omega) (by unfold rg; omega) (fun w36 => ?_) (fun w37 => ?_)
      · refine l_iconst rfl ?_
        refine l_iconst rfl ?_
        refine l_aload_n rfl rfl ?_
        refine l_gfr rfl rfl rfl rfl rfl (hHT2.r 904 67 950 rfl) ?_
        refine l_iconst rfl ?_
        refine l_iaload (n := 2600) rfl rfl (by omega) (by omega) (by unfold rg; omega) ?_
        have w38 : 0 ≤ (Xi T2 950 ((1 : Int).toNat)) ∧ (Xi T2 950 ((1 : Int).toNat)) ≤ 5010 := hHT2.c _ _
        have w39 : (Xi T2 950 ((1 : Int).toNat)) = Xi T2 950 1 := rfl
        have e123 : (Xi T2 950 ((1 : Int).toNat)) = Xi S 950 1 := by first | rfl | exact (hFT2.cx 950 rfl _).1
        have w40 : 0 ≤ Xi T2 904 106 ∧ Xi T2 904 106 ≤ 9 := hHT2.c _ _
        refine l_callV rfl rfl rfl (t_mo_need hHT2 0 4 (Xi T2 950 ((1 : Int).toNat)) ⟨by omega, by omega⟩ ⟨by omega, by omega⟩ ⟨by omega, by omega⟩ _) ?_
        rintro _ T3 ⟨hHT3, w48, rfl, w45, w46⟩
        have hFT3 : FR md_mo_askVerb S T3 := FR.tr hFT2 w48 rfl
        show Rl _ _ _ _ _ [] _ _
        refine l_return rfl rfl ?_
        have w49 : 0 ≤ Xi T3 904 106 ∧ Xi T3 904 106 ≤ 9 := hHT3.c _ _
        exact ⟨hHT3, hFT3, rfl, (by first | assumption | omega)⟩
      · refine l_iconst rfl ?_
        refine l_goto rfl rfl ?_
        refine l_iconst rfl ?_
        refine l_aload_n rfl rfl ?_
        refine l_gfr rfl rfl rfl rfl rfl (hHT2.r 904 67 950 rfl) ?_
        refine l_iconst rfl ?_
        refine l_iaload (n := 2600) rfl rfl (by omega) (by omega) (by unfold rg; omega) ?_
        have w54 : 0 ≤ (Xi T2 950 ((1 : Int).toNat)) ∧ (Xi T2 950 ((1 : Int).toNat)) ≤ 5010 := hHT2.c _ _
        have w55 : (Xi T2 950 ((1 : Int).toNat)) = Xi T2 950 1 := rfl
        have e123 : (Xi T2 950 ((1 : Int).toNat)) = Xi S 950 1 := by first | rfl | exact (hFT2.cx 950 rfl _).1
        have w56 : 0 ≤ Xi T2 904 106 ∧ Xi T2 904 106 ≤ 9 := hHT2.c _ _
        refine l_callV rfl rfl rfl (t_mo_need hHT2 1 4 (Xi T2 950 ((1 : Int).toNat)) ⟨by omega, by omega⟩ ⟨by omega, by omega⟩ ⟨by omega, by omega⟩ _) ?_
        rintro _ T4 ⟨hHT4, w64, rfl, w61, w62⟩
        have hFT4 : FR md_mo_askVerb S T4 := FR.tr hFT2 w64 rfl
        show Rl _ _ _ _ _ [] _ _
        refine l_return rfl rfl ?_
        have w65 : 0 ≤ Xi T4 904 106 ∧ Xi T4 904 106 ≤ 9 := hHT4.c _ _
        exact ⟨hHT4, hFT4, rfl, (by first | assumption | omega)⟩
  · refine l_aload_n rfl rfl ?_
    refine l_iconst rfl ?_
    refine l_callV rfl rfl rfl (t_mo_isNew hH n 0 ⟨by omega, by omega⟩ (by first | assumption | exact (TK_FR hF rfl (by assumption : TK S _))) (by first | assumption | exact (RNV_FR hF rfl (by assumption : RNV S _))) (by first | assumption | omega) (by first | assumption | exact (NWV_FR hF rfl (by assumption : NWV S))) _) ?_
    rintro _ _ ⟨rfl, z74, rfl, w74, w73⟩
    show Rl _ _ _ _ _ [iv z74] _ _
    refine l_if_eq rfl rfl (by unfold rg; omega) (fun w75 => ?_) (fun w76 => ?_)
    · refine l_iconst rfl ?_
      refine l_istore_n rfl rfl rfl ?_
      refine l_aload_n rfl rfl ?_
      refine l_iload_n rfl rfl ?_
      refine l_iconst rfl ?_
      refine l_iload_n rfl rfl ?_
      have w77 : 0 ≤ Xi S 904 106 ∧ Xi S 904 106 ≤ 9 := hH.c _ _
      refine l_callV rfl rfl rfl (t_mo_need hH 0 3 (Xi S 950 ((0 : Int).toNat)) ⟨by omega, by omega⟩ ⟨by omega, by omega⟩ ⟨by omega, by omega⟩ _) ?_
      rintro _ T5 ⟨hHT5, w83, rfl, w80, w81⟩
      have hFT5 : FR md_mo_askVerb S T5 := FR.tr hF w83 rfl
      show Rl _ _ _ _ _ [] _ _
      refine l_aload_n rfl rfl ?_
      refine l_iload_n rfl rfl ?_
      refine l_if_eq rfl rfl (by unfold rg; omega) (fun w84 => ?_) (fun w85 => absurd w85 (by omega))
      · refine l_iconst rfl ?_
        refine l_goto rfl rfl ?_
        refine l_bipush rfl rfl ?_
        refine l_iload_n rfl rfl ?_
        have w86 : 0 ≤ Xi T5 904 106 ∧ Xi T5 904 106 ≤ 9 := hHT5.c _ _
        refine l_callV rfl rfl rfl (t_mo_need hHT5 1 9 (Xi S 950 ((0 : Int).toNat)) ⟨by omega, by omega⟩ ⟨by omega, by omega⟩ ⟨by omega, by omega⟩ _) ?_
        rintro _ T6 ⟨hHT6, w94, rfl, w91, w92⟩
        have hFT6 : FR md_mo_askVerb S T6 := FR.tr hFT5 w94 rfl
        show Rl _ _ _ _ _ [] _ _
        refine l_aload_n rfl rfl ?_
        refine l_aload_n rfl rfl ?_
        refine l_iconst rfl ?_
        refine l_bipush rfl rfl ?_
        have w98 : Xi T6 904 69 = Xi S 904 69 := (show Xi T6 904 69 = Xi T5 904 69 from w94.x _ _ rfl).trans ((show Xi T5 904 69 = Xi S 904 69 from w83.x _ _ rfl))
        refine l_callV rfl rfl rfl (t_mo_meansRun__2 hHT6 n 1 8 ⟨by omega, by omega⟩ ⟨by omega, by omega⟩ (by first | assumption | exact (TK_FR hFT6 rfl (by assumption : TK S _))) (by first | assumption | exact (RNV_FR hFT6 rfl (by assumption : RNV S _))) (by first | assumption | omega) (by first | assumption | exact (LXM_FR hFT6 rfl (by assumption : LXM S))) _) ?_
        rintro _ _ ⟨rfl, z102, rfl, w102, w100, w101⟩
        show Rl _ _ _ _ _ [iv z102, .ref 904] _ _
        have r105 : z102 = rnR S 1 8 := (by assumption : z102 = rnR T6 _ _).trans (rnR_FR hFT6 rfl rfl)
        refine l_iconst rfl ?_
        refine l_icmp_eq rfl rfl (by unfold rg; omega) (by unfold rg; omega) (fun w103 => ?_) (fun w104 => ?_)
        · refine l_iconst rfl ?_
          refine l_iconst rfl ?_
          refine l_aload_n rfl rfl ?_
          refine l_gfr rfl rfl rfl rfl rfl (hHT6.r 904 67 950 rfl) ?_
          refine l_iconst rfl ?_
          refine l_iaload (n := 2600) rfl rfl (by omega) (by omega) (by unfold rg; omega) ?_
          have w105 : 0 ≤ (Xi T6 950 ((1 : Int).toNat)) ∧ (Xi T6 950 ((1 : Int).toNat)) ≤ 5010 := hHT6.c _ _
          have w106 : (Xi T6 950 ((1 : Int).toNat)) = Xi T6 950 1 := rfl
          have e123 : (Xi T6 950 ((1 : Int).toNat)) = Xi S 950 1 := by first | rfl | exact (hFT6.cx 950 rfl _).1
          have w107 : 0 ≤ Xi T6 904 106 ∧ Xi T6 904 106 ≤ 9 := hHT6.c _ _
          refine l_callV rfl rfl rfl (t_mo_need hHT6 0 4 (Xi T6 950 ((1 : Int).toNat)) ⟨by omega, by omega⟩ ⟨by omega, by omega⟩ ⟨by omega, by omega⟩ _) ?_
          rintro _ T7 ⟨hHT7, w115, rfl, w112, w113⟩
          have hFT7 : FR md_mo_askVerb S T7 := FR.tr hFT6 w115 rfl
          show Rl _ _ _ _ _ [] _ _
          refine l_return rfl rfl ?_
          have w116 : 0 ≤ Xi T7 904 106 ∧ Xi T7 904 106 ≤ 9 := hHT7.c _ _
          exact ⟨hHT7, hFT7, rfl, (by first | assumption | omega)⟩
        · refine l_iconst rfl ?_
          refine l_goto rfl rfl ?_
          refine l_iconst rfl ?_
          refine l_aload_n rfl rfl ?_
          refine l_gfr rfl rfl rfl rfl rfl (hHT6.r 904 67 950 rfl) ?_
          refine l_iconst rfl ?_
          refine l_iaload (n := 2600) rfl rfl (by omega) (by omega) (by unfold rg; omega) ?_
          have w121 : 0 ≤ (Xi T6 950 ((1 : Int).toNat)) ∧ (Xi T6 950 ((1 : Int).toNat)) ≤ 5010 := hHT6.c _ _
          have w122 : (Xi T6 950 ((1 : Int).toNat)) = Xi T6 950 1 := rfl
          have e123 : (Xi T6 950 ((1 : Int).toNat)) = Xi S 950 1 := by first | rfl | exact (hFT6.cx 950 rfl _).1
          have w123 : 0 ≤ Xi T6 904 106 ∧ Xi T6 904 106 ≤ 9 := hHT6.c _ _
          refine l_callV rfl rfl rfl (t_mo_need hHT6 1 4 (Xi T6 950 ((1 : Int).toNat)) ⟨by omega, by omega⟩ ⟨by omega, by omega⟩ ⟨by omega, by omega⟩ _) ?_
          rintro _ T8 ⟨hHT8, w131, rfl, w128, w129⟩
          have hFT8 : FR md_mo_askVerb S T8 := FR.tr hFT6 w131 rfl
          show Rl _ _ _ _ _ [] _ _
          refine l_return rfl rfl ?_
          have w132 : 0 ≤ Xi T8 904 106 ∧ Xi T8 904 106 ≤ 9 := hHT8.c _ _
          exact ⟨hHT8, hFT8, rfl, (by first | assumption | omega)⟩
    · refine l_aload_n rfl rfl ?_
      refine l_gfr rfl rfl rfl rfl rfl (hH.r 904 7 910 rfl) ?_
      refine l_iload_n rfl rfl ?_
      refine l_laload (n := 5002) rfl rfl (by omega) (by omega) (by unfold rg; omega) ?_
      have w137 : -9223372036854775808 ≤ (Xj S 910 (((Xi S 950 ((0 : Int).toNat))).toNat)) ∧ (Xj S 910 (((Xi S 950 ((0 : Int).toNat))).toNat)) < 9223372036854775808 := Xj_rg
      refine l_bipush rfl rfl ?_
      refine l_lshrF rfl ?_
      have w138 : rgL (lshrF (Xj S 910 (((Xi S 950 ((0 : Int).toNat))).toNat)) 55) := lshrF_rg
      refine l_lconst (z := 0) rfl rfl ?_
      refine l_lcmpA rfl (fun c139 w139 => ?_)
      refine l_if_ne rfl rfl (by unfold rg; omega) (fun w140 => ?_) (fun w141 => ?_)
      · refine l_iconst rfl ?_
        refine l_goto rfl rfl ?_
        refine l_istore_n rfl rfl rfl ?_
        refine l_aload_n rfl rfl ?_
        refine l_iload_n rfl rfl ?_
        refine l_iconst rfl ?_
        refine l_iload_n rfl rfl ?_
        have w142 : 0 ≤ Xi S 904 106 ∧ Xi S 904 106 ≤ 9 := hH.c _ _
        refine l_callV rfl rfl rfl (t_mo_need hH 1 3 (Xi S 950 ((0 : Int).toNat)) ⟨by omega, by omega⟩ ⟨by omega, by omega⟩ ⟨by omega, by omega⟩ _) ?_
        rintro _ T9 ⟨hHT9, w148, rfl, w145, w146⟩
        have hFT9 : FR md_mo_askVerb S T9 := FR.tr hF w148 rfl
        show Rl _ _ _ _ _ [] _ _
        refine l_aload_n rfl rfl ?_
        refine l_iload_n rfl rfl ?_
        refine l_if_eq rfl rfl (by unfold rg; omega) (fun w149 => absurd w149 (by omega)) (fun w150 => ?_)
        · refine l_aload_n rfl rfl ?_
          refine l_gfi rfl rfl rfl rfl rfl ?_
          have w151 : (Xi T9 904 47) = (Xi S 904 47) := (show Xi T9 904 47 = Xi S 904 47 from w148.x _ _ rfl)
          rw [w151]
          refine l_bipush rfl rfl ?_
          refine l_icmp_ge rfl rfl (by unfold rg; omega) (by unfold rg; omega) (fun w152 => ?_) (fun w153 => ?_)
          · refine l_iconst rfl ?_
            refine l_bipush rfl rfl ?_
            refine l_iload_n rfl rfl ?_
            have w154 : 0 ≤ Xi T9 904 106 ∧ Xi T9 904 106 ≤ 9 := hHT9.c _ _
            refine l_callV rfl rfl rfl (t_mo_need hHT9 0 9 (Xi S 950 ((0 : Int).toNat)) ⟨by omega, by omega⟩ ⟨by omega, by omega⟩ ⟨by omega, by omega⟩ _) ?_
            rintro _ T10 ⟨hHT10, w162, rfl, w159, w160⟩
            have hFT10 : FR md_mo_askVerb S T10 := FR.tr hFT9 w162 rfl
            show Rl _ _ _ _ _ [] _ _
            refine l_aload_n rfl rfl ?_
            refine l_aload_n rfl rfl ?_
            refine l_iconst rfl ?_
            refine l_bipush rfl rfl ?_
            have w166 : Xi T10 904 69 = Xi S 904 69 := (show Xi T10 904 69 = Xi T9 904 69 from w162.x _ _ rfl).trans ((show Xi T9 904 69 = Xi S 904 69 from w148.x _ _ rfl))
            refine l_callV rfl rfl rfl (t_mo_meansRun__2 hHT10 n 1 8 ⟨by omega, by omega⟩ ⟨by omega, by omega⟩ (by first | assumption | exact (TK_FR hFT10 rfl (by assumption : TK S _))) (by first | assumption | exact (RNV_FR hFT10 rfl (by assumption : RNV S _))) (by first | assumption | omega) (by first | assumption | exact (LXM_FR hFT10 rfl (by assumption : LXM S))) _) ?_
            rintro _ _ ⟨rfl, z170, rfl, w170, w168, w169⟩
            show Rl _ _ _ _ _ [iv z170, .ref 904] _ _
            have r105 : z170 = rnR S 1 8 := (by assumption : z170 = rnR T10 _ _).trans (rnR_FR hFT10 rfl rfl)
            refine l_iconst rfl ?_
            refine l_icmp_eq rfl rfl (by unfold rg; omega) (by unfold rg; omega) (fun w171 => ?_) (fun w172 => ?_)
            · refine l_iconst rfl ?_
              refine l_iconst rfl ?_
              refine l_aload_n rfl rfl ?_
              refine l_gfr rfl rfl rfl rfl rfl (hHT10.r 904 67 950 rfl) ?_
              refine l_iconst rfl ?_
              refine l_iaload (n := 2600) rfl rfl (by omega) (by omega) (by unfold rg; omega) ?_
              have w173 : 0 ≤ (Xi T10 950 ((1 : Int).toNat)) ∧ (Xi T10 950 ((1 : Int).toNat)) ≤ 5010 := hHT10.c _ _
              have w174 : (Xi T10 950 ((1 : Int).toNat)) = Xi T10 950 1 := rfl
              have e123 : (Xi T10 950 ((1 : Int).toNat)) = Xi S 950 1 := by first | rfl | exact (hFT10.cx 950 rfl _).1
              have w175 : 0 ≤ Xi T10 904 106 ∧ Xi T10 904 106 ≤ 9 := hHT10.c _ _
              refine l_callV rfl rfl rfl (t_mo_need hHT10 0 4 (Xi T10 950 ((1 : Int).toNat)) ⟨by omega, by omega⟩ ⟨by omega, by omega⟩ ⟨by omega, by omega⟩ _) ?_
              rintro _ T11 ⟨hHT11, w183, rfl, w180, w181⟩
              have hFT11 : FR md_mo_askVerb S T11 := FR.tr hFT10 w183 rfl
              show Rl _ _ _ _ _ [] _ _
              refine l_return rfl rfl ?_
              have w184 : 0 ≤ Xi T11 904 106 ∧ Xi T11 904 106 ≤ 9 := hHT11.c _ _
              exact ⟨hHT11, hFT11, rfl, (by first | assumption | omega)⟩
            · refine l_iconst rfl ?_
              refine l_goto rfl rfl ?_
              refine l_iconst rfl ?_
              refine l_aload_n rfl rfl ?_
              refine l_gfr rfl rfl rfl rfl rfl (hHT10.r 904 67 950 rfl) ?_
              refine l_iconst rfl ?_
              refine l_iaload (n := 2600) rfl rfl (by omega) (by omega) (by unfold rg; omega) ?_
              have w189 : 0 ≤ (Xi T10 950 ((1 : Int).toNat)) ∧ (Xi T10 950 ((1 : Int).toNat)) ≤ 5010 := hHT10.c _ _
              have w190 : (Xi T10 950 ((1 : Int).toNat)) = Xi T10 950 1 := rfl
              have e123 : (Xi T10 950 ((1 : Int).toNat)) = Xi S 950 1 := by first | rfl | exact (hFT10.cx 950 rfl _).1
              have w191 : 0 ≤ Xi T10 904 106 ∧ Xi T10 904 106 ≤ 9 := hHT10.c _ _
              refine l_callV rfl rfl rfl (t_mo_need hHT10 1 4 (Xi T10 950 ((1 : Int).toNat)) ⟨by omega, by omega⟩ ⟨by omega, by omega⟩ ⟨by omega, by omega⟩ _) ?_
              rintro _ T12 ⟨hHT12, w199, rfl, w196, w197⟩
              have hFT12 : FR md_mo_askVerb S T12 := FR.tr hFT10 w199 rfl
              show Rl _ _ _ _ _ [] _ _
              refine l_return rfl rfl ?_
              have w200 : 0 ≤ Xi T12 904 106 ∧ Xi T12 904 106 ≤ 9 := hHT12.c _ _
              exact ⟨hHT12, hFT12, rfl, (by first | assumption | omega)⟩
          · refine l_iconst rfl ?_
            refine l_goto rfl rfl ?_
            refine l_bipush rfl rfl ?_
            refine l_iload_n rfl rfl ?_
            have w205 : 0 ≤ Xi T9 904 106 ∧ Xi T9 904 106 ≤ 9 := hHT9.c _ _
            refine l_callV rfl rfl rfl (t_mo_need hHT9 1 9 (Xi S 950 ((0 : Int).toNat)) ⟨by omega, by omega⟩ ⟨by omega, by omega⟩ ⟨by omega, by omega⟩ _) ?_
            rintro _ T13 ⟨hHT13, w213, rfl, w210, w211⟩
            have hFT13 : FR md_mo_askVerb S T13 := FR.tr hFT9 w213 rfl
            show Rl _ _ _ _ _ [] _ _
            refine l_aload_n rfl rfl ?_
            refine l_aload_n rfl rfl ?_
            refine l_iconst rfl ?_
            refine l_bipush rfl rfl ?_
            have w217 : Xi T13 904 69 = Xi S 904 69 := (show Xi T13 904 69 = Xi T9 904 69 from w213.x _ _ rfl).trans ((show Xi T9 904 69 = Xi S 904 69 from w148.x _ _ rfl))
            refine l_callV rfl rfl rfl (t_mo_meansRun__2 hHT13 n 1 8 ⟨by omega, by omega⟩ ⟨by omega, by omega⟩ (by first | assumption | exact (TK_FR hFT13 rfl (by assumption : TK S _))) (by first | assumption | exact (RNV_FR hFT13 rfl (by assumption : RNV S _))) (by first | assumption | omega) (by first | assumption | exact (LXM_FR hFT13 rfl (by assumption : LXM S))) _) ?_
            rintro _ _ ⟨rfl, z221, rfl, w221, w219, w220⟩
            show Rl _ _ _ _ _ [iv z221, .ref 904] _ _
            have r105 : z221 = rnR S 1 8 := (by assumption : z221 = rnR T13 _ _).trans (rnR_FR hFT13 rfl rfl)
            refine l_iconst rfl ?_
            refine l_icmp_eq rfl rfl (by unfold rg; omega) (by unfold rg; omega) (fun w222 => ?_) (fun w223 => ?_)
            · refine l_iconst rfl ?_
              refine l_iconst rfl ?_
              refine l_aload_n rfl rfl ?_
              refine l_gfr rfl rfl rfl rfl rfl (hHT13.r 904 67 950 rfl) ?_
              refine l_iconst rfl ?_
              refine l_iaload (n := 2600) rfl rfl (by omega) (by omega) (by unfold rg; omega) ?_
              have w224 : 0 ≤ (Xi T13 950 ((1 : Int).toNat)) ∧ (Xi T13 950 ((1 : Int).toNat)) ≤ 5010 := hHT13.c _ _
              have w225 : (Xi T13 950 ((1 : Int).toNat)) = Xi T13 950 1 := rfl
              have e123 : (Xi T13 950 ((1 : Int).toNat)) = Xi S 950 1 := by first | rfl | exact (hFT13.cx 950 rfl _).1
              have w226 : 0 ≤ Xi T13 904 106 ∧ Xi T13 904 106 ≤ 9 := hHT13.c _ _
              refine l_callV rfl rfl rfl (t_mo_need hHT13 0 4 (Xi T13 950 ((1 : Int).toNat)) ⟨by omega, by omega⟩ ⟨by omega, by omega⟩ ⟨by omega, by omega⟩ _) ?_
              rintro _ T14 ⟨hHT14, w234, rfl, w231, w232⟩
              have hFT14 : FR md_mo_askVerb S T14 := FR.tr hFT13 w234 rfl
              show Rl _ _ _ _ _ [] _ _
              refine l_return rfl rfl ?_
              have w235 : 0 ≤ Xi T14 904 106 ∧ Xi T14 904 106 ≤ 9 := hHT14.c _ _
              exact ⟨hHT14, hFT14, rfl, (by first | assumption | omega)⟩
            · refine l_iconst rfl ?_
              refine l_goto rfl rfl ?_
              refine l_iconst rfl ?_
              refine l_aload_n rfl rfl ?_
              refine l_gfr rfl rfl rfl rfl rfl (hHT13.r 904 67 950 rfl) ?_
              refine l_iconst rfl ?_
              refine l_iaload (n := 2600) rfl rfl (by omega) (by omega) (by unfold rg; omega) ?_
              have w240 : 0 ≤ (Xi T13 950 ((1 : Int).toNat)) ∧ (Xi T13 950 ((1 : Int).toNat)) ≤ 5010 := hHT13.c _ _
              have w241 : (Xi T13 950 ((1 : Int).toNat)) = Xi T13 950 1 := rfl
              have e123 : (Xi T13 950 ((1 : Int).toNat)) = Xi S 950 1 := by first | rfl | exact (hFT13.cx 950 rfl _).1
              have w242 : 0 ≤ Xi T13 904 106 ∧ Xi T13 904 106 ≤ 9 := hHT13.c _ _
              refine l_callV rfl rfl rfl (t_mo_need hHT13 1 4 (Xi T13 950 ((1 : Int).toNat)) ⟨by omega, by omega⟩ ⟨by omega, by omega⟩ ⟨by omega, by omega⟩ _) ?_
              rintro _ T15 ⟨hHT15, w250, rfl, w247, w248⟩
              have hFT15 : FR md_mo_askVerb S T15 := FR.tr hFT13 w250 rfl
              show Rl _ _ _ _ _ [] _ _
              refine l_return rfl rfl ?_
              have w251 : 0 ≤ Xi T15 904 106 ∧ Xi T15 904 106 ≤ 9 := hHT15.c _ _
              exact ⟨hHT15, hFT15, rfl, (by first | assumption | omega)⟩
      · refine l_aload_n rfl rfl ?_
        refine l_aload_n rfl rfl ?_
        refine l_gfr rfl rfl rfl rfl rfl (hH.r 904 7 910 rfl) ?_
        refine l_iload_n rfl rfl ?_
        refine l_laload (n := 5002) rfl rfl (by omega) (by omega) (by unfold rg; omega) ?_
        refine l_iconst rfl ?_
        refine l_lshlF rfl ?_
        have w257 : rgL (lshlF (Xj S 910 (((Xi S 950 ((0 : Int).toNat))).toNat)) 5) := lshlF_rg
        refine l_ldc2 (z := 19) rfl rfl ?_
        refine l_lorF rfl ?_
        have w258 : rgL (lorF (lshlF (Xj S 910 (((Xi S 950 ((0 : Int).toNat))).toNat)) 5) 19) := lorF_rg
        refine l_lconst (z := 0) rfl rfl ?_
        refine l_lconst (z := 0) rfl rfl ?_
        refine l_iconst rfl ?_
        have w261 : 0 ≤ Xi S 904 15 ∧ Xi S 904 15 ≤ 300 := hH.c _ _
        refine l_callV rfl rfl rfl (t_mo_find hH (lorF (lshlF (Xj S 910 (((Xi S 950 ((0 : Int).toNat))).toNat)) 5) 19) 0 0 1 ⟨by omega, by omega⟩ _) ?_
        rintro _ _ ⟨rfl, z264, rfl, w264, w263⟩
        show Rl _ _ _ _ _ [iv z264] _ _
        refine l_iconst rfl ?_
        refine l_icmp_ne rfl rfl (by unfold rg; omega) (by unfold rg; omega) (fun w265 => ?_) (fun w266 => ?_)
        · refine l_iconst rfl ?_
          refine l_istore_n rfl rfl rfl ?_
          refine l_aload_n rfl rfl ?_
          refine l_iload_n rfl rfl ?_
          refine l_iconst rfl ?_
          refine l_iload_n rfl rfl ?_
          have w267 : 0 ≤ Xi S 904 106 ∧ Xi S 904 106 ≤ 9 := hH.c _ _
          refine l_callV rfl rfl rfl (t_mo_need hH 0 3 (Xi S 950 ((0 : Int).toNat)) ⟨by omega, by omega⟩ ⟨by omega, by omega⟩ ⟨by omega, by omega⟩ _) ?_
          rintro _ T16 ⟨hHT16, w273, rfl, w270, w271⟩
          have hFT16 : FR md_mo_askVerb S T16 := FR.tr hF w273 rfl
          show Rl _ _ _ _ _ [] _ _
          refine l_aload_n rfl rfl ?_
          refine l_iload_n rfl rfl ?_
          refine l_if_eq rfl rfl (by unfold rg; omega) (fun w274 => ?_) (fun w275 => absurd w275 (by omega))
          · refine l_iconst rfl ?_
            refine l_goto rfl rfl ?_
            refine l_bipush rfl rfl ?_
            refine l_iload_n rfl rfl ?_
            have w276 : 0 ≤ Xi T16 904 106 ∧ Xi T16 904 106 ≤ 9 := hHT16.c _ _
            refine l_callV rfl rfl rfl (t_mo_need hHT16 1 9 (Xi S 950 ((0 : Int).toNat)) ⟨by omega, by omega⟩ ⟨by omega, by omega⟩ ⟨by omega, by omega⟩ _) ?_
            rintro _ T17 ⟨hHT17, w284, rfl, w281, w282⟩
            have hFT17 : FR md_mo_askVerb S T17 := FR.tr hFT16 w284 rfl
            show Rl _ _ _ _ _ [] _ _
            refine l_aload_n rfl rfl ?_
            refine l_aload_n rfl rfl ?_
            refine l_iconst rfl ?_
            refine l_bipush rfl rfl ?_
            have w288 : Xi T17 904 69 = Xi S 904 69 := (show Xi T17 904 69 = Xi T16 904 69 from w284.x _ _ rfl).trans ((show Xi T16 904 69 = Xi S 904 69 from w273.x _ _ rfl))
            refine l_callV rfl rfl rfl (t_mo_meansRun__2 hHT17 n 1 8 ⟨by omega, by omega⟩ ⟨by omega, by omega⟩ (by first | assumption | exact (TK_FR hFT17 rfl (by assumption : TK S _))) (by first | assumption | exact (RNV_FR hFT17 rfl (by assumption : RNV S _))) (by first | assumption | omega) (by first | assumption | exact (LXM_FR hFT17 rfl (by assumption : LXM S))) _) ?_
            rintro _ _ ⟨rfl, z292, rfl, w292, w290, w291⟩
            show Rl _ _ _ _ _ [iv z292, .ref 904] _ _
            have r105 : z292 = rnR S 1 8 := (by assumption : z292 = rnR T17 _ _).trans (rnR_FR hFT17 rfl rfl)
            refine l_iconst rfl ?_
            refine l_icmp_eq rfl rfl (by unfold rg; omega) (by unfold rg; omega) (fun w293 => ?_) (fun w294 => ?_)
            · refine l_iconst rfl ?_
              refine l_iconst rfl ?_
              refine l_aload_n rfl rfl ?_
              refine l_gfr rfl rfl rfl rfl rfl (hHT17.r 904 67 950 rfl) ?_
              refine l_iconst rfl ?_
              refine l_iaload (n := 2600) rfl rfl (by omega) (by omega) (by unfold rg; omega) ?_
              have w295 : 0 ≤ (Xi T17 950 ((1 : Int).toNat)) ∧ (Xi T17 950 ((1 : Int).toNat)) ≤ 5010 := hHT17.c _ _
              have w296 : (Xi T17 950 ((1 : Int).toNat)) = Xi T17 950 1 := rfl
              have e123 : (Xi T17 950 ((1 : Int).toNat)) = Xi S 950 1 := by first | rfl | exact (hFT17.cx 950 rfl _).1
              have w297 : 0 ≤ Xi T17 904 106 ∧ Xi T17 904 106 ≤ 9 := hHT17.c _ _
              refine l_callV rfl rfl rfl (t_mo_need hHT17 0 4 (Xi T17 950 ((1 : Int).toNat)) ⟨by omega, by omega⟩ ⟨by omega, by omega⟩ ⟨by omega, by omega⟩ _) ?_
              rintro _ T18 ⟨hHT18, w305, rfl, w302, w303⟩
              have hFT18 : FR md_mo_askVerb S T18 := FR.tr hFT17 w305 rfl
              show Rl _ _ _ _ _ [] _ _
              refine l_return rfl rfl ?_
              have w306 : 0 ≤ Xi T18 904 106 ∧ Xi T18 904 106 ≤ 9 := hHT18.c _ _
              exact ⟨hHT18, hFT18, rfl, (by first | assumption | omega)⟩
            · refine l_iconst rfl ?_
              refine l_goto rfl rfl ?_
              refine l_iconst rfl ?_
              refine l_aload_n rfl rfl ?_
              refine l_gfr rfl rfl rfl rfl rfl (hHT17.r 904 67 950 rfl) ?_
              refine l_iconst rfl ?_
              refine l_iaload (n := 2600) rfl rfl (by omega) (by omega) (by unfold rg; omega) ?_
              have w311 : 0 ≤ (Xi T17 950 ((1 : Int).toNat)) ∧ (Xi T17 950 ((1 : Int).toNat)) ≤ 5010 := hHT17.c _ _
              have w312 : (Xi T17 950 ((1 : Int).toNat)) = Xi T17 950 1 := rfl
              have e123 : (Xi T17 950 ((1 : Int).toNat)) = Xi S 950 1 := by first | rfl | exact (hFT17.cx 950 rfl _).1
              have w313 : 0 ≤ Xi T17 904 106 ∧ Xi T17 904 106 ≤ 9 := hHT17.c _ _
              refine l_callV rfl rfl rfl (t_mo_need hHT17 1 4 (Xi T17 950 ((1 : Int).toNat)) ⟨by omega, by omega⟩ ⟨by omega, by omega⟩ ⟨by omega, by omega⟩ _) ?_
              rintro _ T19 ⟨hHT19, w321, rfl, w318, w319⟩
              have hFT19 : FR md_mo_askVerb S T19 := FR.tr hFT17 w321 rfl
              show Rl _ _ _ _ _ [] _ _
              refine l_return rfl rfl ?_
              have w322 : 0 ≤ Xi T19 904 106 ∧ Xi T19 904 106 ≤ 9 := hHT19.c _ _
              exact ⟨hHT19, hFT19, rfl, (by first | assumption | omega)⟩
        · refine l_iconst rfl ?_
          refine l_goto rfl rfl ?_
          refine l_istore_n rfl rfl rfl ?_
          refine l_aload_n rfl rfl ?_
          refine l_iload_n rfl rfl ?_
          refine l_iconst rfl ?_
          refine l_iload_n rfl rfl ?_
          have w327 : 0 ≤ Xi S 904 106 ∧ Xi S 904 106 ≤ 9 := hH.c _ _
          refine l_callV rfl rfl rfl (t_mo_need hH 1 3 (Xi S 950 ((0 : Int).toNat)) ⟨by omega, by omega⟩ ⟨by omega, by omega⟩ ⟨by omega, by omega⟩ _) ?_
          rintro _ T20 ⟨hHT20, w333, rfl, w330, w331⟩
          have hFT20 : FR md_mo_askVerb S T20 := FR.tr hF w333 rfl
          show Rl _ _ _ _ _ [] _ _
          refine l_aload_n rfl rfl ?_
          refine l_iload_n rfl rfl ?_
          refine l_if_eq rfl rfl (by unfold rg; omega) (fun w334 => absurd w334 (by omega)) (fun w335 => ?_)
          · refine l_aload_n rfl rfl ?_
            refine l_gfi rfl rfl rfl rfl rfl ?_
            have w336 : (Xi T20 904 47) = (Xi S 904 47) := (show Xi T20 904 47 = Xi S 904 47 from w333.x _ _ rfl)
            rw [w336]
            refine l_bipush rfl rfl ?_
            refine l_icmp_ge rfl rfl (by unfold rg; omega) (by unfold rg; omega) (fun w337 => ?_) (fun w338 => ?_)
            · refine l_iconst rfl ?_
              refine l_bipush rfl rfl ?_
              refine l_iload_n rfl rfl ?_
              have w339 : 0 ≤ Xi T20 904 106 ∧ Xi T20 904 106 ≤ 9 := hHT20.c _ _
              refine l_callV rfl rfl rfl (t_mo_need hHT20 0 9 (Xi S 950 ((0 : Int).toNat)) ⟨by omega, by omega⟩ ⟨by omega, by omega⟩ ⟨by omega, by omega⟩ _) ?_
              rintro _ T21 ⟨hHT21, w347, rfl, w344, w345⟩
              have hFT21 : FR md_mo_askVerb S T21 := FR.tr hFT20 w347 rfl
              show Rl _ _ _ _ _ [] _ _
              refine l_aload_n rfl rfl ?_
              refine l_aload_n rfl rfl ?_
              refine l_iconst rfl ?_
              refine l_bipush rfl rfl ?_
              have w351 : Xi T21 904 69 = Xi S 904 69 := (show Xi T21 904 69 = Xi T20 904 69 from w347.x _ _ rfl).trans ((show Xi T20 904 69 = Xi S 904 69 from w333.x _ _ rfl))
              refine l_callV rfl rfl rfl (t_mo_meansRun__2 hHT21 n 1 8 ⟨by omega, by omega⟩ ⟨by omega, by omega⟩ (by first | assumption | exact (TK_FR hFT21 rfl (by assumption : TK S _))) (by first | assumption | exact (RNV_FR hFT21 rfl (by assumption : RNV S _))) (by first | assumption | omega) (by first | assumption | exact (LXM_FR hFT21 rfl (by assumption : LXM S))) _) ?_
              rintro _ _ ⟨rfl, z355, rfl, w355, w353, w354⟩
              show Rl _ _ _ _ _ [iv z355, .ref 904] _ _
              have r105 : z355 = rnR S 1 8 := (by assumption : z355 = rnR T21 _ _).trans (rnR_FR hFT21 rfl rfl)
              refine l_iconst rfl ?_
              refine l_icmp_eq rfl rfl (by unfold rg; omega) (by unfold rg; omega) (fun w356 => ?_) (fun w357 => ?_)
              · refine l_iconst rfl ?_
                refine l_iconst rfl ?_
                refine l_aload_n rfl rfl ?_
                refine l_gfr rfl rfl rfl rfl rfl (hHT21.r 904 67 950 rfl) ?_
                refine l_iconst rfl ?_
                refine l_iaload (n := 2600) rfl rfl (by omega) (by omega) (by unfold rg; omega) ?_
                have w358 : 0 ≤ (Xi T21 950 ((1 : Int).toNat)) ∧ (Xi T21 950 ((1 : Int).toNat)) ≤ 5010 := hHT21.c _ _
                have w359 : (Xi T21 950 ((1 : Int).toNat)) = Xi T21 950 1 := rfl
                have e123 : (Xi T21 950 ((1 : Int).toNat)) = Xi S 950 1 := by first | rfl | exact (hFT21.cx 950 rfl _).1
                have w360 : 0 ≤ Xi T21 904 106 ∧ Xi T21 904 106 ≤ 9 := hHT21.c _ _
                refine l_callV rfl rfl rfl (t_mo_need hHT21 0 4 (Xi T21 950 ((1 : Int).toNat)) ⟨by omega, by omega⟩ ⟨by omega, by omega⟩ ⟨by omega, by omega⟩ _) ?_
                rintro _ T22 ⟨hHT22, w368, rfl, w365, w366⟩
                have hFT22 : FR md_mo_askVerb S T22 := FR.tr hFT21 w368 rfl
                show Rl _ _ _ _ _ [] _ _
                refine l_return rfl rfl ?_
                have w369 : 0 ≤ Xi T22 904 106 ∧ Xi T22 904 106 ≤ 9 := hHT22.c _ _
                exact ⟨hHT22, hFT22, rfl, (by first | assumption | omega)⟩
              · refine l_iconst rfl ?_
                refine l_goto rfl rfl ?_
                refine l_iconst rfl ?_
                refine l_aload_n rfl rfl ?_
                refine l_gfr rfl rfl rfl rfl rfl (hHT21.r 904 67 950 rfl) ?_
                refine l_iconst rfl ?_
                refine l_iaload (n := 2600) rfl rfl (by omega) (by omega) (by unfold rg; omega) ?_
                have w374 : 0 ≤ (Xi T21 950 ((1 : Int).toNat)) ∧ (Xi T21 950 ((1 : Int).toNat)) ≤ 5010 := hHT21.c _ _
                have w375 : (Xi T21 950 ((1 : Int).toNat)) = Xi T21 950 1 := rfl
                have e123 : (Xi T21 950 ((1 : Int).toNat)) = Xi S 950 1 := by first | rfl | exact (hFT21.cx 950 rfl _).1
                have w376 : 0 ≤ Xi T21 904 106 ∧ Xi T21 904 106 ≤ 9 := hHT21.c _ _
                refine l_callV rfl rfl rfl (t_mo_need hHT21 1 4 (Xi T21 950 ((1 : Int).toNat)) ⟨by omega, by omega⟩ ⟨by omega, by omega⟩ ⟨by omega, by omega⟩ _) ?_
                rintro _ T23 ⟨hHT23, w384, rfl, w381, w382⟩
                have hFT23 : FR md_mo_askVerb S T23 := FR.tr hFT21 w384 rfl
                show Rl _ _ _ _ _ [] _ _
                refine l_return rfl rfl ?_
                have w385 : 0 ≤ Xi T23 904 106 ∧ Xi T23 904 106 ≤ 9 := hHT23.c _ _
                exact ⟨hHT23, hFT23, rfl, (by first | assumption | omega)⟩
            · refine l_iconst rfl ?_
              refine l_goto rfl rfl ?_
              refine l_bipush rfl rfl ?_
              refine l_iload_n rfl rfl ?_
              have w390 : 0 ≤ Xi T20 904 106 ∧ Xi T20 904 106 ≤ 9 := hHT20.c _ _
              refine l_callV rfl rfl rfl (t_mo_need hHT20 1 9 (Xi S 950 ((0 : Int).toNat)) ⟨by omega, by omega⟩ ⟨by omega, by omega⟩ ⟨by omega, by omega⟩ _) ?_
              rintro _ T24 ⟨hHT24, w398, rfl, w395, w396⟩
              have hFT24 : FR md_mo_askVerb S T24 := FR.tr hFT20 w398 rfl
              show Rl _ _ _ _ _ [] _ _
              refine l_aload_n rfl rfl ?_
              refine l_aload_n rfl rfl ?_
              refine l_iconst rfl ?_
              refine l_bipush rfl rfl ?_
              have w402 : Xi T24 904 69 = Xi S 904 69 := (show Xi T24 904 69 = Xi T20 904 69 from w398.x _ _ rfl).trans ((show Xi T20 904 69 = Xi S 904 69 from w333.x _ _ rfl))
              refine l_callV rfl rfl rfl (t_mo_meansRun__2 hHT24 n 1 8 ⟨by omega, by omega⟩ ⟨by omega, by omega⟩ (by first | assumption | exact (TK_FR hFT24 rfl (by assumption : TK S _))) (by first | assumption | exact (RNV_FR hFT24 rfl (by assumption : RNV S _))) (by first | assumption | omega) (by first | assumption | exact (LXM_FR hFT24 rfl (by assumption : LXM S))) _) ?_
              rintro _ _ ⟨rfl, z406, rfl, w406, w404, w405⟩
              show Rl _ _ _ _ _ [iv z406, .ref 904] _ _
              have r105 : z406 = rnR S 1 8 := (by assumption : z406 = rnR T24 _ _).trans (rnR_FR hFT24 rfl rfl)
              refine l_iconst rfl ?_
              refine l_icmp_eq rfl rfl (by unfold rg; omega) (by unfold rg; omega) (fun w407 => ?_) (fun w408 => ?_)
              · refine l_iconst rfl ?_
                refine l_iconst rfl ?_
                refine l_aload_n rfl rfl ?_
                refine l_gfr rfl rfl rfl rfl rfl (hHT24.r 904 67 950 rfl) ?_
                refine l_iconst rfl ?_
                refine l_iaload (n := 2600) rfl rfl (by omega) (by omega) (by unfold rg; omega) ?_
                have w409 : 0 ≤ (Xi T24 950 ((1 : Int).toNat)) ∧ (Xi T24 950 ((1 : Int).toNat)) ≤ 5010 := hHT24.c _ _
                have w410 : (Xi T24 950 ((1 : Int).toNat)) = Xi T24 950 1 := rfl
                have e123 : (Xi T24 950 ((1 : Int).toNat)) = Xi S 950 1 := by first | rfl | exact (hFT24.cx 950 rfl _).1
                have w411 : 0 ≤ Xi T24 904 106 ∧ Xi T24 904 106 ≤ 9 := hHT24.c _ _
                refine l_callV rfl rfl rfl (t_mo_need hHT24 0 4 (Xi T24 950 ((1 : Int).toNat)) ⟨by omega, by omega⟩ ⟨by omega, by omega⟩ ⟨by omega, by omega⟩ _) ?_
                rintro _ T25 ⟨hHT25, w419, rfl, w416, w417⟩
                have hFT25 : FR md_mo_askVerb S T25 := FR.tr hFT24 w419 rfl
                show Rl _ _ _ _ _ [] _ _
                refine l_return rfl rfl ?_
                have w420 : 0 ≤ Xi T25 904 106 ∧ Xi T25 904 106 ≤ 9 := hHT25.c _ _
                exact ⟨hHT25, hFT25, rfl, (by first | assumption | omega)⟩
              · refine l_iconst rfl ?_
                refine l_goto rfl rfl ?_
                refine l_iconst rfl ?_
                refine l_aload_n rfl rfl ?_
                refine l_gfr rfl rfl rfl rfl rfl (hHT24.r 904 67 950 rfl) ?_
                refine l_iconst rfl ?_
                refine l_iaload (n := 2600) rfl rfl (by omega) (by omega) (by unfold rg; omega) ?_
                have w425 : 0 ≤ (Xi T24 950 ((1 : Int).toNat)) ∧ (Xi T24 950 ((1 : Int).toNat)) ≤ 5010 := hHT24.c _ _
                have w426 : (Xi T24 950 ((1 : Int).toNat)) = Xi T24 950 1 := rfl
                have e123 : (Xi T24 950 ((1 : Int).toNat)) = Xi S 950 1 := by first | rfl | exact (hFT24.cx 950 rfl _).1
                have w427 : 0 ≤ Xi T24 904 106 ∧ Xi T24 904 106 ≤ 9 := hHT24.c _ _
                refine l_callV rfl rfl rfl (t_mo_need hHT24 1 4 (Xi T24 950 ((1 : Int).toNat)) ⟨by omega, by omega⟩ ⟨by omega, by omega⟩ ⟨by omega, by omega⟩ _) ?_
                rintro _ T26 ⟨hHT26, w435, rfl, w432, w433⟩
                have hFT26 : FR md_mo_askVerb S T26 := FR.tr hFT24 w435 rfl
                show Rl _ _ _ _ _ [] _ _
                refine l_return rfl rfl ?_
                have w436 : 0 ≤ Xi T26 904 106 ∧ Xi T26 904 106 ≤ 9 := hHT26.c _ _
                exact ⟨hHT26, hFT26, rfl, (by first | assumption | omega)⟩
def md_mo_askPlace : List rec := [(904, 905, 104, 105), (904, 905, 105, 106), (904, 905, 106, 107)]
abbrev Q_mo_askPlace (S : sS) (n : Nat) : pst := fun r S1 => HI S1 ∧ FR md_mo_askPlace S S1 ∧ (r = none ∧ (Xi S 904 106 ≠ 0 → Xi S1 904 106 ≠ 0) ∧ (Xi S1 904 106 = 0 → Xi S 904 73 ≠ 0 → rnR S (Xi S 904 74) 4 ≠ -1))
set_option maxRecDepth 100000 in
theorem t_mo_askPlace {S : sS} (hH : HI S) (n : Nat) (hT : TK S n) (hv : RNV S n) (hM : LXM S) (hB : ABV S) (hp : Xi S 904 73 ≠ 0 → Xi S 904 74 < Xi S 904 69) (d : Nat) : Mt lay0 (d + 5) m_mo_askPlace [.ref 904] S (Q_mo_askPlace S n) := by
  refine Mt_R rfl rfl ?_
  have hF : FR md_mo_askPlace S S := FR.rf
  have w1 : 0 ≤ Xi S 904 106 ∧ Xi S 904 106 ≤ 9 := hH.c _ _
  have w2 : 0 ≤ Xi S 904 69 ∧ Xi S 904 69 ≤ 2600 := hH.c _ _
  have w3 : 0 ≤ Xi S 904 73 ∧ Xi S 904 73 ≤ 5 := hH.c _ _
  have w4 : 0 ≤ Xi S 904 74 ∧ Xi S 904 74 ≤ 2600 := hH.c _ _
  have hn5 := hT.1
  have hc69 : 0 ≤ Xi S 904 69 ∧ Xi S 904 69 ≤ 2600 := hH.c _ _
  have hc74 : 0 ≤ Xi S 904 74 ∧ Xi S 904 74 ≤ 2600 := hH.c _ _
  have q74 : Xi S 904 73 ≠ 0 → Xi S 950 (Xi S 904 74).toNat ≤ n := fun q => by have := hv (Xi S 904 74).toNat (by omega); omega
  have hc19 : 0 ≤ Xi S 904 19 ∧ Xi S 904 19 ≤ 24 := hH.c _ _
  refine l_aload_n rfl rfl ?_
  refine l_gfi rfl rfl rfl rfl rfl ?_
  refine l_if_ne rfl rfl (by unfold rg; omega) (fun w5 => ?_) (fun w6 => ?_)
  · refine l_aload_n rfl rfl ?_
    refine l_aload_n rfl rfl ?_
    refine l_gfi rfl rfl rfl rfl rfl ?_
    refine l_iconst rfl ?_
    refine l_callV rfl rfl rfl (t_mo_meansRun__2 hH n (Xi S 904 74) 4 ⟨by omega, by omega⟩ ⟨by omega, by omega⟩ (by first | assumption | exact (TK_FR hF rfl (by assumption : TK S _))) (by first | assumption | exact (RNV_FR hF rfl (by assumption : RNV S _))) (by first | assumption | omega) (by first | assumption | exact (LXM_FR hF rfl (by assumption : LXM S))) _) ?_
    rintro _ _ ⟨rfl, z12, rfl, w12, w10, w11⟩
    show Rl _ _ _ _ _ [iv z12] _ _
    have x14 : z12 ≠ -1 → z12 < Xi S 904 19 := fun q => by have t := (by assumption : z12 ≠ -1 → z12 < cM S 4) q; rw [cM4] at t; exact t
    have r14 : z12 = rnR S (Xi S 904 74) 4 := (by assumption : z12 = rnR S _ _).trans (rnR_FR hF rfl rfl)
    refine l_istore_n rfl rfl rfl ?_
    refine l_aload_n rfl rfl ?_
    refine l_iload_n rfl rfl ?_
    refine l_iconst rfl ?_
    refine l_icmp_eq rfl rfl (by unfold rg; omega) (by unfold rg; omega) (fun w13 => ?_) (fun w14 => ?_)
    · refine l_iconst rfl ?_
      refine l_iconst rfl ?_
      refine l_aload_n rfl rfl ?_
      refine l_gfr rfl rfl rfl rfl rfl (hH.r 904 67 950 rfl) ?_
      refine l_aload_n rfl rfl ?_
      refine l_gfi rfl rfl rfl rfl rfl ?_
      refine l_iaload (n := 2600) rfl rfl (by omega) (by omega) (by unfold rg; omega) ?_
      have w15 : 0 ≤ (Xi S 950 (((Xi S 904 74)).toNat)) ∧ (Xi S 950 (((Xi S 904 74)).toNat)) ≤ 5010 := hH.c _ _
      refine l_callV rfl rfl rfl (t_mo_need hH 0 4 (Xi S 950 (((Xi S 904 74)).toNat)) ⟨by omega, by omega⟩ ⟨by omega, by omega⟩ ⟨by omega, by omega⟩ _) ?_
      rintro _ T1 ⟨hHT1, w22, rfl, w19, w20⟩
      have hFT1 : FR md_mo_askPlace S T1 := FR.tr hF w22 rfl
      show Rl _ _ _ _ _ [] _ _
      refine l_return rfl rfl ?_
      have w23 : 0 ≤ Xi T1 904 106 ∧ Xi T1 904 106 ≤ 9 := hHT1.c _ _
      exact ⟨hHT1, hFT1, rfl, (by first | assumption | omega), (by first | assumption | omega)⟩
    · refine l_aload_n rfl rfl ?_
      refine l_aload_n rfl rfl ?_
      refine l_gfi rfl rfl rfl rfl rfl ?_
      refine l_aload_n rfl rfl ?_
      refine l_gfr rfl rfl rfl rfl rfl (hH.r 904 20 918 rfl) ?_
      refine l_iload_n rfl rfl ?_
      refine l_iaload (n := 24) rfl rfl (by omega) (by omega) (by unfold rg; omega) ?_
      have w28 : 0 ≤ (Xi S 918 ((z12).toNat)) ∧ (Xi S 918 ((z12).toNat)) ≤ 15 := hH.c _ _
      refine l_callV rfl rfl rfl (t_mo_mayHold hH (Xi S 904 73) (Xi S 918 ((z12).toNat)) ⟨by omega, by omega⟩ ⟨by omega, by omega⟩ (by first | assumption | exact (ABV_FR hF rfl (by assumption : ABV S))) _) ?_
      rintro _ _ ⟨rfl, z32, rfl, w32⟩
      show Rl _ _ _ _ _ [iv z32, .ref 904] _ _
      refine l_if_eq rfl rfl (by unfold rg; omega) (fun w33 => ?_) (fun w34 => ?_)
      · refine l_iconst rfl ?_
        refine l_iconst rfl ?_
        refine l_aload_n rfl rfl ?_
        refine l_gfr rfl rfl rfl rfl rfl (hH.r 904 67 950 rfl) ?_
        refine l_aload_n rfl rfl ?_
        refine l_gfi rfl rfl rfl rfl rfl ?_
        refine l_iaload (n := 2600) rfl rfl (by omega) (by omega) (by unfold rg; omega) ?_
        have w35 : 0 ≤ (Xi S 950 (((Xi S 904 74)).toNat)) ∧ (Xi S 950 (((Xi S 904 74)).toNat)) ≤ 5010 := hH.c _ _
        refine l_callV rfl rfl rfl (t_mo_need hH 0 4 (Xi S 950 (((Xi S 904 74)).toNat)) ⟨by omega, by omega⟩ ⟨by omega, by omega⟩ ⟨by omega, by omega⟩ _) ?_
        rintro _ T2 ⟨hHT2, w42, rfl, w39, w40⟩
        have hFT2 : FR md_mo_askPlace S T2 := FR.tr hF w42 rfl
        show Rl _ _ _ _ _ [] _ _
        refine l_return rfl rfl ?_
        have w43 : 0 ≤ Xi T2 904 106 ∧ Xi T2 904 106 ≤ 9 := hHT2.c _ _
        exact ⟨hHT2, hFT2, rfl, (by first | assumption | omega), (by first | assumption | omega)⟩
      · refine l_iconst rfl ?_
        refine l_goto rfl rfl ?_
        refine l_iconst rfl ?_
        refine l_aload_n rfl rfl ?_
        refine l_gfr rfl rfl rfl rfl rfl (hH.r 904 67 950 rfl) ?_
        refine l_aload_n rfl rfl ?_
        refine l_gfi rfl rfl rfl rfl rfl ?_
        refine l_iaload (n := 2600) rfl rfl (by omega) (by omega) (by unfold rg; omega) ?_
        have w48 : 0 ≤ (Xi S 950 (((Xi S 904 74)).toNat)) ∧ (Xi S 950 (((Xi S 904 74)).toNat)) ≤ 5010 := hH.c _ _
        refine l_callV rfl rfl rfl (t_mo_need hH 1 4 (Xi S 950 (((Xi S 904 74)).toNat)) ⟨by omega, by omega⟩ ⟨by omega, by omega⟩ ⟨by omega, by omega⟩ _) ?_
        rintro _ T3 ⟨hHT3, w55, rfl, w52, w53⟩
        have hFT3 : FR md_mo_askPlace S T3 := FR.tr hF w55 rfl
        show Rl _ _ _ _ _ [] _ _
        refine l_return rfl rfl ?_
        have w56 : 0 ≤ Xi T3 904 106 ∧ Xi T3 904 106 ≤ 9 := hHT3.c _ _
        exact ⟨hHT3, hFT3, rfl, (by first | assumption | omega), (by first | assumption | omega)⟩
  · refine l_return rfl rfl ?_
    exact ⟨hH, hF, rfl, (by first | assumption | omega), (by first | assumption | omega)⟩
abbrev Q_mo_kindOfThing__2 (S : sS) (th : Int) : pst := fun r S1 => S = S1 ∧ (∃ z : Int, r = some (iv z) ∧ (-1 ≤ z ∧ z ≤ 15) ∧ ((th = -1 → z = Xi S 904 115) ∧ (th = -2 → z = Xi S 904 116) ∧ (th = -9 → z = -1) ∧ (0 ≤ th → z = Xi S 918 th.toNat)))
set_option maxRecDepth 100000 in
theorem t_mo_kindOfThing__2 {S : sS} (hH : HI S) (th : Int) (hth : -9 ≤ th ∧ th ≤ 23) (ht : th ≠ -9 → -2 ≤ th) (d : Nat) : Mt lay0 (d + 1) m_mo_kindOfThing [.ref 904, iv th] S (Q_mo_kindOfThing__2 S th) := by
  refine Mt_R rfl rfl ?_
  have w1 : -1 ≤ Xi S 904 115 ∧ Xi S 904 115 ≤ 15 := hH.c _ _
  have w2 : -1 ≤ Xi S 904 116 ∧ Xi S 904 116 ≤ 15 := hH.c _ _
  refine l_iload_n rfl rfl ?_
  refine l_iconst rfl ?_
  refine l_icmp_ne rfl rfl (by unfold rg; omega) (by unfold rg; omega) (fun w3 => ?_) (fun w4 => ?_)
  · refine l_iload_n rfl rfl ?_
    refine l_bipush rfl rfl ?_
    refine l_icmp_ne rfl rfl (by unfold rg; omega) (by unfold rg; omega) (fun w5 => ?_) (fun w6 => ?_)
    · refine l_iload_n rfl rfl ?_
      refine l_bipush rfl rfl ?_
      refine l_icmp_ne rfl rfl (by unfold rg; omega) (by unfold rg; omega) (fun w7 => ?_) (fun w8 => ?_)
      · refine l_aload_n rfl rfl ?_
        refine l_gfr rfl rfl rfl rfl rfl (hH.r 904 20 918 rfl) ?_
        refine l_iload_n rfl rfl ?_
        refine l_iaload (n := 24) rfl rfl (by omega) (by omega) (by unfold rg; omega) ?_
        have w9 : 0 ≤ (Xi S 918 ((th).toNat)) ∧ (Xi S 918 ((th).toNat)) ≤ 15 := hH.c _ _
        refine l_ireturn rfl rfl ?_
        exact ⟨rfl, _, rfl, ⟨by omega, by omega⟩, (by omega)⟩
      · refine l_iconst rfl ?_
        refine l_goto rfl rfl ?_
        refine l_ireturn rfl rfl ?_
        exact ⟨rfl, _, rfl, ⟨by omega, by omega⟩, (by omega)⟩
    · refine l_aload_n rfl rfl ?_
      refine l_gfi rfl rfl rfl rfl rfl ?_
      refine l_goto rfl rfl ?_
      refine l_ireturn rfl rfl ?_
      exact ⟨rfl, _, rfl, ⟨by omega, by omega⟩, (by omega)⟩
  · refine l_aload_n rfl rfl ?_
    refine l_gfi rfl rfl rfl rfl rfl ?_
    refine l_goto rfl rfl ?_
    refine l_ireturn rfl rfl ?_
    exact ⟨rfl, _, rfl, ⟨by omega, by omega⟩, (by omega)⟩
def md_mo_numberMeant__2 : List rec := [(904, 905, 104, 105), (904, 905, 105, 106), (904, 905, 106, 107)]
abbrev Q_mo_numberMeant__2 (S : sS) (n : Nat) (rn : Int) : pst := fun r S1 => HI S1 ∧ FR md_mo_numberMeant__2 S S1 ∧ (r = none ∧ (Xi S 904 106 ≠ 0 → Xi S1 904 106 ≠ 0) ∧ (Xi S1 904 106 = 0 → rnR S rn 7 = -1 ∨ Xi S 928 (rnR S rn 7).toNat = 0))
set_option maxRecDepth 100000 in
theorem t_mo_numberMeant__2 {S : sS} (hH : HI S) (n : Nat) (rn : Int) (hrn : 0 ≤ rn ∧ rn ≤ 2599) (hT : TK S n) (hv : RNV S n) (hrr : rn < Xi S 904 69) (hM : LXM S) (d : Nat) : Mt lay0 (d + 5) m_mo_numberMeant [.ref 904, iv rn] S (Q_mo_numberMeant__2 S n rn) := by
  refine Mt_R rfl rfl ?_
  have hF : FR md_mo_numberMeant__2 S S := FR.rf
  have w1 : 0 ≤ Xi S 904 106 ∧ Xi S 904 106 ≤ 9 := hH.c _ _
  have w2 : 0 ≤ Xi S 904 69 ∧ Xi S 904 69 ≤ 2600 := hH.c _ _
  have hn5 := hT.1
  have hq := hv rn.toNat (by omega)
  have hq0 : 0 ≤ Xi S 950 rn.toNat ∧ Xi S 950 rn.toNat ≤ 5010 := hH.c 950 rn.toNat
  have hc69 : 0 ≤ Xi S 904 69 ∧ Xi S 904 69 ≤ 2600 := hH.c _ _
  have hc32 : 0 ≤ Xi S 904 32 ∧ Xi S 904 32 ≤ 12 := hH.c _ _
  refine l_aload_n rfl rfl ?_
  refine l_iload_n rfl rfl ?_
  refine l_bipush rfl rfl ?_
  refine l_callV rfl rfl rfl (t_mo_meansRun__2 hH n rn 7 ⟨by omega, by omega⟩ ⟨by omega, by omega⟩ (by first | assumption | exact (TK_FR hF rfl (by assumption : TK S _))) (by first | assumption | exact (RNV_FR hF rfl (by assumption : RNV S _))) (by first | assumption | omega) (by first | assumption | exact (LXM_FR hF rfl (by assumption : LXM S))) _) ?_
  rintro _ _ ⟨rfl, z7, rfl, w7, w5, w6⟩
  show Rl _ _ _ _ _ [iv z7] _ _
  have x4 : z7 ≠ -1 → z7 < Xi S 904 32 := fun q => by have t := (by assumption : z7 ≠ -1 → z7 < cM S 7) q; rw [cM7] at t; exact t
  have r4 : z7 = rnR S rn 7 := (by assumption : z7 = rnR S _ _).trans (rnR_FR hF rfl rfl)
  refine l_istore_n rfl rfl rfl ?_
  refine l_aload_n rfl rfl ?_
  refine l_iload_n rfl rfl ?_
  refine l_iconst rfl ?_
  refine l_icmp_eq rfl rfl (by unfold rg; omega) (by unfold rg; omega) (fun w8 => ?_) (fun w9 => ?_)
  · refine l_iconst rfl ?_
    refine l_goto rfl rfl ?_
    refine l_iconst rfl ?_
    refine l_aload_n rfl rfl ?_
    refine l_gfr rfl rfl rfl rfl rfl (hH.r 904 67 950 rfl) ?_
    refine l_iload_n rfl rfl ?_
    refine l_iaload (n := 2600) rfl rfl (by omega) (by omega) (by unfold rg; omega) ?_
    have w10 : 0 ≤ (Xi S 950 ((rn).toNat)) ∧ (Xi S 950 ((rn).toNat)) ≤ 5010 := hH.c _ _
    refine l_callV rfl rfl rfl (t_mo_need hH 1 4 (Xi S 950 ((rn).toNat)) ⟨by omega, by omega⟩ ⟨by omega, by omega⟩ ⟨by omega, by omega⟩ _) ?_
    rintro _ T1 ⟨hHT1, w15, rfl, w12, w13⟩
    have hFT1 : FR md_mo_numberMeant__2 S T1 := FR.tr hF w15 rfl
    show Rl _ _ _ _ _ [] _ _
    refine l_return rfl rfl ?_
    have w16 : 0 ≤ Xi T1 904 106 ∧ Xi T1 904 106 ≤ 9 := hHT1.c _ _
    exact ⟨hHT1, hFT1, rfl, (by omega), (by first | omega | (intro q; rw [← r4]; omega))⟩
  · refine l_aload_n rfl rfl ?_
    refine l_gfr rfl rfl rfl rfl rfl (hH.r 904 33 928 rfl) ?_
    refine l_iload_n rfl rfl ?_
    refine l_iaload (n := 12) rfl rfl (by omega) (by omega) (by unfold rg; omega) ?_
    have w17 : 0 ≤ (Xi S 928 ((z7).toNat)) ∧ (Xi S 928 ((z7).toNat)) ≤ 7 := hH.c _ _
    refine l_if_ne rfl rfl (by unfold rg; omega) (fun w18 => ?_) (fun w19 => ?_)
    · refine l_iconst rfl ?_
      refine l_iconst rfl ?_
      refine l_aload_n rfl rfl ?_
      refine l_gfr rfl rfl rfl rfl rfl (hH.r 904 67 950 rfl) ?_
      refine l_iload_n rfl rfl ?_
      refine l_iaload (n := 2600) rfl rfl (by omega) (by omega) (by unfold rg; omega) ?_
      have w20 : 0 ≤ (Xi S 950 ((rn).toNat)) ∧ (Xi S 950 ((rn).toNat)) ≤ 5010 := hH.c _ _
      refine l_callV rfl rfl rfl (t_mo_need hH 0 4 (Xi S 950 ((rn).toNat)) ⟨by omega, by omega⟩ ⟨by omega, by omega⟩ ⟨by omega, by omega⟩ _) ?_
      rintro _ T2 ⟨hHT2, w25, rfl, w22, w23⟩
      have hFT2 : FR md_mo_numberMeant__2 S T2 := FR.tr hF w25 rfl
      show Rl _ _ _ _ _ [] _ _
      refine l_return rfl rfl ?_
      have w26 : 0 ≤ Xi T2 904 106 ∧ Xi T2 904 106 ≤ 9 := hHT2.c _ _
      exact ⟨hHT2, hFT2, rfl, (by omega), (by first | omega | (intro q; rw [← r4]; omega))⟩
    · refine l_iconst rfl ?_
      refine l_goto rfl rfl ?_
      refine l_iconst rfl ?_
      refine l_aload_n rfl rfl ?_
      refine l_gfr rfl rfl rfl rfl rfl (hH.r 904 67 950 rfl) ?_
      refine l_iload_n rfl rfl ?_
      refine l_iaload (n := 2600) rfl rfl (by omega) (by omega) (by unfold rg; omega) ?_
      have w27 : 0 ≤ (Xi S 950 ((rn).toNat)) ∧ (Xi S 950 ((rn).toNat)) ≤ 5010 := hH.c _ _
      refine l_callV rfl rfl rfl (t_mo_need hH 1 4 (Xi S 950 ((rn).toNat)) ⟨by omega, by omega⟩ ⟨by omega, by omega⟩ ⟨by omega, by omega⟩ _) ?_
      rintro _ T3 ⟨hHT3, w32, rfl, w29, w30⟩
      have hFT3 : FR md_mo_numberMeant__2 S T3 := FR.tr hF w32 rfl
      show Rl _ _ _ _ _ [] _ _
      refine l_return rfl rfl ?_
      have w33 : 0 ≤ Xi T3 904 106 ∧ Xi T3 904 106 ≤ 9 := hHT3.c _ _
      exact ⟨hHT3, hFT3, rfl, (by omega), (by first | omega | (intro q; rw [← r4]; omega))⟩
def md_mo_says : List rec := [(904, 905, 154, 155), (904, 905, 156, 157), (904, 905, 157, 158), (904, 905, 158, 159), (904, 905, 160, 161), (993, 994, 0, 100000), (994, 995, 0, 100000)]
abbrev Q_mo_says (S : sS) (from_ : Int) (n : Int) (noun : Int) : pst := fun r S1 => HI S1 ∧ FR md_mo_says S S1 ∧ (∃ z : Int, r = some (iv z) ∧ (0 ≤ z ∧ z ≤ 1))
set_option maxRecDepth 100000 in
theorem t_mo_says {S : sS} (hH : HI S) (from_ : Int) (n : Int) (noun : Int) (hfrom_ : 0 ≤ from_ ∧ from_ ≤ 5000) (hn : 0 ≤ n ∧ n ≤ 5000) (hnoun : -1 ≤ noun ∧ noun ≤ 23) (hA : from_ + n ≤ 5000) (hM : LXM S) (hB : ABV S) (hX : TXM S) (hno2 : noun < Xi S 904 19) (d : Nat) : Mt lay0 (d + 7) m_mo_says [.ref 904, iv from_, iv n, iv noun] S (Q_mo_says S from_ n noun) := by
  refine Mt_R rfl rfl ?_
  have hF : FR md_mo_says S S := FR.rf
  have w1 : 0 ≤ Xi S 904 19 ∧ Xi S 904 19 ≤ 24 := hH.c _ _
  refine l_aload_n rfl rfl ?_
  refine l_iconst rfl ?_
  refine l_pfz rfl rfl rfl rfl (by omega) ?_
  obtain ⟨U1, eU1⟩ : ∃ T : sS, T = uI S 904 157 (Int32.ofInt 1) := ⟨_, rfl⟩
  rw [← eU1]
  have hHU1 : HI U1 := by rw [eU1]; exact HI_w hH (show 0 ≤ 1 by omega) (show 1 ≤ 1 by omega)
  have hFU1 : FR md_mo_says S U1 := by rw [eU1]; exact FR.wI hF (mdf_i (r := (904, 905, 157, 158)) (List.mem_of_getElem? (i := 2) rfl) (inR_i (by omega) (by omega) (by omega) (by omega)))
  have w2 : Xi U1 904 157 = 1 := by rw [eU1]; exact Xi_same (by unfold rg; omega)
  refine l_aload_n rfl rfl ?_
  refine l_iload_n rfl rfl ?_
  refine l_pfi rfl rfl rfl rfl ?_
  obtain ⟨U2, eU2⟩ : ∃ T : sS, T = uI U1 904 158 (Int32.ofInt noun) := ⟨_, rfl⟩
  rw [← eU2]
  have hHU2 : HI U2 := by rw [eU2]; exact HI_w hHU1 (show -1 ≤ noun by omega) (show noun ≤ 23 by omega)
  have hFU2 : FR md_mo_says S U2 := by rw [eU2]; exact FR.wI hFU1 (mdf_i (r := (904, 905, 158, 159)) (List.mem_of_getElem? (i := 3) rfl) (inR_i (by omega) (by omega) (by omega) (by omega)))
  have w3 : Xi U2 904 158 = noun := by rw [eU2]; exact Xi_same (by unfold rg; omega)
  have n7 : Xi U2 904 158 < Xi U2 904 19 := by rw [hFU2.x 904 19 rfl]; omega
  refine l_aload_n rfl rfl ?_
  refine l_iload_n rfl rfl ?_
  refine l_iload_n rfl rfl ?_
  have w4 : -1 ≤ Xi U2 904 158 ∧ Xi U2 904 158 ≤ 23 := hHU2.c _ _
  have w5 : Xi U2 904 19 = Xi S 904 19 := (show Xi U2 904 19 = Xi U1 904 19 from by rw [eU2]; exact Xi_ne (by omega)).trans ((show Xi U1 904 19 = Xi S 904 19 from by rw [eU1]; exact Xi_ne (by omega)))
  refine l_callV rfl rfl rfl (t_mo_written hHU2 from_ n ⟨by omega, by omega⟩ ⟨by omega, by omega⟩ (by first | assumption | omega) (by first | assumption | exact (LXM_FR hFU2 rfl (by assumption : LXM S))) (by first | assumption | exact (ABV_FR hFU2 rfl (by assumption : ABV S))) (by first | assumption | exact (TXM_FR hFU2 rfl (by assumption : TXM S))) (n7) _) ?_
  rintro _ T3 ⟨hHT3, w8, z7, rfl, w7⟩
  have hFT3 : FR md_mo_says S T3 := FR.tr hFU2 w8 rfl
  show Rl _ _ _ _ _ [iv z7] _ _
  refine l_istore rfl rfl rfl ?_
  refine l_aload_n rfl rfl ?_
  refine l_iconst rfl ?_
  refine l_pfz rfl rfl rfl rfl (by omega) ?_
  obtain ⟨U4, eU4⟩ : ∃ T : sS, T = uI T3 904 157 (Int32.ofInt 0) := ⟨_, rfl⟩
  rw [← eU4]
  have hHU4 : HI U4 := by rw [eU4]; exact HI_w hHT3 (show 0 ≤ 0 by omega) (show 0 ≤ 1 by omega)
  have hFU4 : FR md_mo_says S U4 := by rw [eU4]; exact FR.wI hFT3 (mdf_i (r := (904, 905, 157, 158)) (List.mem_of_getElem? (i := 2) rfl) (inR_i (by omega) (by omega) (by omega) (by omega)))
  have w9 : Xi U4 904 157 = 0 := by rw [eU4]; exact Xi_same (by unfold rg; omega)
  refine l_iload rfl rfl ?_
  refine l_ireturn rfl (retI_z (by omega)) ?_
  exact ⟨hHU4, hFU4, _, rfl, ⟨by omega, by omega⟩⟩


