/-! SAFETY of methods: printed by wip/safe (vc.py, decl.py) -/
def md_mo_fitsCommand : List rec := [(904, 905, 165, 166)]
abbrev Q_mo_fitsCommand (S : sS) (c : Int) : pst := fun r S1 => HI S1 ∧ FR md_mo_fitsCommand S S1 ∧ (∃ z : Int, r = some (iv z) ∧ (0 ≤ z ∧ z ≤ 1))
set_option maxRecDepth 100000 in
theorem t_mo_fitsCommand {S : sS} (hH : HI S) (c : Int) (hc : 0 ≤ c ∧ c ≤ 19) (hM : LXM S) (hB : ABV S) (d : Nat) : Mt lay0 (d + 2) m_mo_fitsCommand [.ref 904, iv c] S (Q_mo_fitsCommand S c) := by
  refine Mt_R rfl rfl ?_
  have hF : FR md_mo_fitsCommand S S := FR.rf
  have C25 : ∀ (n25 : Nat) (T1 : sS) (_ : HI T1) (_ : FR md_mo_fitsCommand S T1) (v2 : Int) (v3 : Int) (v4 : Int) (v5 : Int), (0 ≤ v2 ∧ v2 ≤ 8) → (-8 ≤ v3 ∧ v3 ≤ 50) → (0 ≤ v4 ∧ v4 ≤ 50) → (0 ≤ v5 ∧ v5 ≤ 8) → (0 ≤ v4 ∧ v4 ≤ 50) → n25 = (9 - v5).toNat → Rl lay0 (d + 1) m_mo_fitsCommand 25 [(0, .ref 904), (1, iv c), (2, iv v2), (3, iv v3), (4, iv v4), (5, iv v5)] [] T1 (Q_mo_fitsCommand S c) := by
    intro n25
    induction n25 using Nat.strongRecOn with
    | ind n25 ih25 =>
      intro T1 hHT1 hFT1 v2 v3 v4 v5 w1 w2 w3 w4 w5 hm25
      have w6 : Xi T1 904 15 = Xi S 904 15 := hFT1.x _ _ rfl
      refine l_iload rfl rfl ?_
      refine l_iload_n rfl rfl ?_
      refine l_icmp_ge rfl rfl (by unfold rg; omega) (by unfold rg; omega) (fun w7 => ?_) (fun w8 => ?_)
      · refine l_iload rfl rfl ?_
        refine l_aload_n rfl rfl ?_
        refine l_gfi rfl rfl rfl rfl rfl ?_
        have w9 : 0 ≤ (Xi T1 904 164) ∧ (Xi T1 904 164) ≤ 50 := hHT1.c _ _
        refine l_icmp_ne rfl rfl (by unfold rg; omega) (by unfold rg; omega) (fun w10 => ?_) (fun w11 => ?_)
        · refine l_iconst rfl ?_
          refine l_ireturn rfl rfl ?_
          exact ⟨hHT1, hFT1, _, rfl, ⟨by omega, by omega⟩⟩
        · refine l_iconst rfl ?_
          refine l_goto rfl rfl ?_
          refine l_ireturn rfl rfl ?_
          exact ⟨hHT1, hFT1, _, rfl, ⟨by omega, by omega⟩⟩
      · refine l_aload_n rfl rfl ?_
        refine l_gfr rfl rfl rfl rfl rfl (hHT1.r 904 58 948 rfl) ?_
        refine l_bipush rfl rfl ?_
        refine l_iload_n rfl rfl ?_
        refine l_imul rfl ?_
        refine l_iload rfl rfl ?_
        refine l_iadd rfl ?_
        refine l_laload (n := 160) rfl rfl (by omega) (by omega) (by unfold rg; omega) ?_
        have w12 : -9223372036854775808 ≤ (Xj T1 948 ((((8 * c) + v5)).toNat)) ∧ (Xj T1 948 ((((8 * c) + v5)).toNat)) < 9223372036854775808 := Xj_rg
        refine l_lconst (z := 0) rfl rfl ?_
        refine l_lcmpA rfl (fun c13 w13 => ?_)
        refine l_if_eq rfl rfl (by unfold rg; omega) (fun w14 => ?_) (fun w15 => ?_)
        · refine l_iconst rfl ?_
          refine l_iload_n rfl rfl ?_
          refine l_iadd rfl ?_
          refine l_istore rfl rfl rfl ?_
          refine l_iload rfl rfl ?_
          refine l_iconst rfl ?_
          refine l_icmp_lt rfl rfl (by unfold rg; omega) (by unfold rg; omega) (fun w16 => ?_) (fun w17 => ?_)
          · refine l_iconst rfl ?_
            refine l_ireturn rfl rfl ?_
            exact ⟨hHT1, hFT1, _, rfl, ⟨by omega, by omega⟩⟩
          · refine l_iload rfl rfl ?_
            refine l_iconst rfl ?_
            refine l_icmp_gt rfl rfl (by unfold rg; omega) (by unfold rg; omega) (fun w18 => ?_) (fun w19 => ?_)
            · refine l_iconst rfl ?_
              refine l_ireturn rfl rfl ?_
              exact ⟨hHT1, hFT1, _, rfl, ⟨by omega, by omega⟩⟩
            · refine l_iload rfl rfl ?_
              refine l_iload rfl rfl ?_
              refine l_iadd rfl ?_
              refine l_aload_n rfl rfl ?_
              refine l_gfi rfl rfl rfl rfl rfl ?_
              have w20 : 0 ≤ (Xi T1 904 164) ∧ (Xi T1 904 164) ≤ 50 := hHT1.c _ _
              refine l_icmp_le rfl rfl (by unfold rg; omega) (by unfold rg; omega) (fun w21 => ?_) (fun w22 => ?_)
              · refine l_aload_n rfl rfl ?_
                refine l_aload_n rfl rfl ?_
                refine l_gfr rfl rfl rfl rfl rfl (hHT1.r 904 163 995 rfl) ?_
                refine l_iload rfl rfl ?_
                refine l_laload (n := 50) rfl rfl (by omega) (by omega) (by unfold rg; omega) ?_
                have w23 : -9223372036854775808 ≤ (Xj T1 995 ((v4).toNat)) ∧ (Xj T1 995 ((v4).toNat)) < 9223372036854775808 := Xj_rg
                refine l_iload rfl rfl ?_
                refine l_iconst rfl ?_
                refine l_icmp_le rfl rfl (by unfold rg; omega) (by unfold rg; omega) (fun w24 => ?_) (fun w25 => ?_)
                · refine l_lconst (z := 0) rfl rfl ?_
                  refine l_iload rfl rfl ?_
                  refine l_iconst rfl ?_
                  refine l_icmp_le rfl rfl (by unfold rg; omega) (by unfold rg; omega) (fun w26 => ?_) (fun w27 => ?_)
                  · refine l_lconst (z := 0) rfl rfl ?_
                    refine l_iload rfl rfl ?_
                    have w28 : 0 ≤ Xi T1 904 15 ∧ Xi T1 904 15 ≤ 300 := hHT1.c _ _
                    refine l_callV rfl rfl rfl (t_mo_find hHT1 (Xj T1 995 ((v4).toNat)) 0 0 (1 + v3) ⟨by omega, by omega⟩ _) ?_
                    rintro _ _ ⟨rfl, z30, rfl, w30, w29⟩
                    show Rl _ _ _ _ _ [iv z30] _ _
                    have hMc : LXM T1 := LXM_FR hFT1 rfl hM
                    have hc19 : 0 ≤ Xi T1 904 19 ∧ Xi T1 904 19 ≤ 24 := hHT1.c _ _
                    have hc15 : 0 ≤ Xi T1 904 15 ∧ Xi T1 904 15 ≤ 300 := hHT1.c _ _
                    refine l_istore rfl rfl rfl ?_
                    refine l_aload_n rfl rfl ?_
                    refine l_gfr rfl rfl rfl rfl rfl (hHT1.r 904 59 949 rfl) ?_
                    refine l_iload_n rfl rfl ?_
                    refine l_iaload (n := 20) rfl rfl (by omega) (by omega) (by unfold rg; omega) ?_
                    have w31 : -2 ≤ (Xi T1 949 ((c).toNat)) ∧ (Xi T1 949 ((c).toNat)) ≤ 15 := hHT1.c _ _
                    refine l_bipush rfl rfl ?_
                    refine l_icmp_ne rfl rfl (by unfold rg; omega) (by unfold rg; omega) (fun w32 => ?_) (fun w33 => ?_)
                    · refine l_iconst rfl ?_
                      refine l_istore rfl rfl rfl ?_
                      refine l_iload rfl rfl ?_
                      refine l_iconst rfl ?_
                      refine l_icmp_eq rfl rfl (by unfold rg; omega) (by unfold rg; omega) (fun w34 => ?_) (fun w35 => ?_)
                      · refine l_iconst rfl ?_
                        refine l_ireturn rfl rfl ?_
                        exact ⟨hHT1, hFT1, _, rfl, ⟨by omega, by omega⟩⟩
                      · refine l_aload_n rfl rfl ?_
                        refine l_gfr rfl rfl rfl rfl rfl (hHT1.r 904 12 914 rfl) ?_
                        refine l_iload rfl rfl ?_
                        refine l_iaload (n := 300) rfl rfl (by omega) (by omega) (by unfold rg; omega) ?_
                        have w36 : 0 ≤ (Xi T1 914 ((z30).toNat)) ∧ (Xi T1 914 ((z30).toNat)) ≤ 12 := hHT1.c _ _
                        refine l_iload rfl rfl ?_
                        refine l_if_eq rfl rfl (by unfold rg; omega) (fun w37 => ?_) (fun w38 => absurd w38 (by omega))
                        · refine l_iconst rfl ?_
                          refine l_icmp_ne rfl rfl (by unfold rg; omega) (by unfold rg; omega) (fun w39 => ?_) (fun w40 => ?_)
                          · refine l_iconst rfl ?_
                            refine l_ireturn rfl rfl ?_
                            exact ⟨hHT1, hFT1, _, rfl, ⟨by omega, by omega⟩⟩
                          · refine l_iload rfl rfl ?_
                            refine l_if_ne rfl rfl (by unfold rg; omega) (fun w41 => absurd w41 (by omega)) (fun w42 => ?_)
                            · refine l_aload_n rfl rfl ?_
                              refine l_aload_n rfl rfl ?_
                              refine l_gfr rfl rfl rfl rfl rfl (hHT1.r 904 20 918 rfl) ?_
                              refine l_aload_n rfl rfl ?_
                              refine l_gfr rfl rfl rfl rfl rfl (hHT1.r 904 13 915 rfl) ?_
                              refine l_iload rfl rfl ?_
                              refine l_iaload (n := 300) rfl rfl (by omega) (by omega) (by unfold rg; omega) ?_
                              have w43 : 0 ≤ (Xi T1 915 ((z30).toNat)) ∧ (Xi T1 915 ((z30).toNat)) ≤ 63 := hHT1.c _ _
                              have x2334 : Xi T1 914 (z30).toNat = 4 → (Xi T1 915 ((z30).toNat)) < Xi T1 904 19 := fun q => by have t := lxm (s := 4) hMc (k := z30) (by omega) (by omega) q; rw [cM4] at t; exact t
                              have x23312 : Xi T1 914 (z30).toNat = 12 → (Xi T1 915 ((z30).toNat)) < 6 := fun q => by have t := lxm (s := 12) hMc (k := z30) (by omega) (by omega) q; rw [cM12] at t; exact t
                              refine l_iaload (n := 24) rfl rfl (by omega) (by omega) (by unfold rg; omega) ?_
                              have w44 : 0 ≤ (Xi T1 918 (((Xi T1 915 ((z30).toNat))).toNat)) ∧ (Xi T1 918 (((Xi T1 915 ((z30).toNat))).toNat)) ≤ 15 := hHT1.c _ _
                              refine l_aload_n rfl rfl ?_
                              refine l_gfr rfl rfl rfl rfl rfl (hHT1.r 904 59 949 rfl) ?_
                              refine l_iload_n rfl rfl ?_
                              refine l_iaload (n := 20) rfl rfl (by omega) (by omega) (by unfold rg; omega) ?_
                              refine l_callV rfl rfl rfl (t_mo_isBelow hHT1 (Xi T1 918 (((Xi T1 915 ((z30).toNat))).toNat)) (Xi T1 949 ((c).toNat)) ⟨by omega, by omega⟩ ⟨by omega, by omega⟩ (by first | assumption | exact (ABV_FR hFT1 rfl (by assumption : ABV S))) _) ?_
                              rintro _ _ ⟨rfl, z46, rfl, w46, w45⟩
                              show Rl _ _ _ _ _ [iv z46] _ _
                              refine l_if_ne rfl rfl (by unfold rg; omega) (fun w47 => ?_) (fun w48 => ?_)
                              · refine l_aload_n rfl rfl ?_
                                refine l_aload_n rfl rfl ?_
                                refine l_gfr rfl rfl rfl rfl rfl (hHT1.r 904 13 915 rfl) ?_
                                refine l_iload rfl rfl ?_
                                refine l_iaload (n := 300) rfl rfl (by omega) (by omega) (by unfold rg; omega) ?_
                                have x2564 : Xi T1 914 (z30).toNat = 4 → (Xi T1 915 ((z30).toNat)) < Xi T1 904 19 := fun q => by have t := lxm (s := 4) hMc (k := z30) (by omega) (by omega) q; rw [cM4] at t; exact t
                                have x25612 : Xi T1 914 (z30).toNat = 12 → (Xi T1 915 ((z30).toNat)) < 6 := fun q => by have t := lxm (s := 12) hMc (k := z30) (by omega) (by omega) q; rw [cM12] at t; exact t
                                refine l_pfi rfl rfl rfl rfl ?_
                                obtain ⟨U2, eU2⟩ : ∃ T : sS, T = uI T1 904 165 (Int32.ofInt (Xi T1 915 ((z30).toNat))) := ⟨_, rfl⟩
                                rw [← eU2]
                                have hHU2 : HI U2 := by rw [eU2]; exact HI_w hHT1 (show -1 ≤ (Xi T1 915 ((z30).toNat)) by omega) (show (Xi T1 915 ((z30).toNat)) ≤ 23 by omega)
                                have hFU2 : FR md_mo_fitsCommand S U2 := by rw [eU2]; exact FR.wI hFT1 (mdf_i (r := (904, 905, 165, 166)) (List.mem_of_getElem? (i := 0) rfl) (inR_i (by omega) (by omega) (by omega) (by omega)))
                                have w49 : Xi U2 904 165 = (Xi T1 915 ((z30).toNat)) := by rw [eU2]; exact Xi_same (by unfold rg; omega)
                                refine l_iload rfl rfl ?_
                                refine l_iload rfl rfl ?_
                                refine l_iadd rfl ?_
                                refine l_istore rfl rfl rfl ?_
                                refine l_iinc rfl rfl rfl rfl ?_
                                refine l_goto rfl rfl ?_
                                exact Rl_weak (ih25 _ (by omega) U2 hHU2 hFU2 (v2) (v3) ((v4 + (1 + v3))) ((v5 + 1)) (by omega) (by omega) (by omega) (by omega) (by omega) rfl) (And.intro rfl (And.intro rfl (And.intro rfl (And.intro rfl (And.intro rfl (And.intro rfl (True.intro)))))))
                              · refine l_iconst rfl ?_
                                refine l_ireturn rfl rfl ?_
                                exact ⟨hHT1, hFT1, _, rfl, ⟨by omega, by omega⟩⟩
                    · refine l_iconst rfl ?_
                      refine l_goto rfl rfl ?_
                      refine l_istore rfl rfl rfl ?_
                      refine l_iload rfl rfl ?_
                      refine l_iconst rfl ?_
                      refine l_icmp_eq rfl rfl (by unfold rg; omega) (by unfold rg; omega) (fun w50 => ?_) (fun w51 => ?_)
                      · refine l_iconst rfl ?_
                        refine l_ireturn rfl rfl ?_
                        exact ⟨hHT1, hFT1, _, rfl, ⟨by omega, by omega⟩⟩
                      · refine l_aload_n rfl rfl ?_
                        refine l_gfr rfl rfl rfl rfl rfl (hHT1.r 904 12 914 rfl) ?_
                        refine l_iload rfl rfl ?_
                        refine l_iaload (n := 300) rfl rfl (by omega) (by omega) (by unfold rg; omega) ?_
                        have w52 : 0 ≤ (Xi T1 914 ((z30).toNat)) ∧ (Xi T1 914 ((z30).toNat)) ≤ 12 := hHT1.c _ _
                        refine l_iload rfl rfl ?_
                        refine l_if_eq rfl rfl (by unfold rg; omega) (fun w53 => absurd w53 (by omega)) (fun w54 => ?_)
                        · refine l_bipush rfl rfl ?_
                          refine l_goto rfl rfl ?_
                          refine l_icmp_ne rfl rfl (by unfold rg; omega) (by unfold rg; omega) (fun w55 => ?_) (fun w56 => ?_)
                          · refine l_iconst rfl ?_
                            refine l_ireturn rfl rfl ?_
                            exact ⟨hHT1, hFT1, _, rfl, ⟨by omega, by omega⟩⟩
                          · refine l_iload rfl rfl ?_
                            refine l_if_ne rfl rfl (by unfold rg; omega) (fun w57 => ?_) (fun w58 => absurd w58 (by omega))
                            · refine l_aload_n rfl rfl ?_
                              refine l_aload_n rfl rfl ?_
                              refine l_gfr rfl rfl rfl rfl rfl (hHT1.r 904 13 915 rfl) ?_
                              refine l_iload rfl rfl ?_
                              refine l_iaload (n := 300) rfl rfl (by omega) (by omega) (by unfold rg; omega) ?_
                              have w59 : 0 ≤ (Xi T1 915 ((z30).toNat)) ∧ (Xi T1 915 ((z30).toNat)) ≤ 63 := hHT1.c _ _
                              have x2564 : Xi T1 914 (z30).toNat = 4 → (Xi T1 915 ((z30).toNat)) < Xi T1 904 19 := fun q => by have t := lxm (s := 4) hMc (k := z30) (by omega) (by omega) q; rw [cM4] at t; exact t
                              have x25612 : Xi T1 914 (z30).toNat = 12 → (Xi T1 915 ((z30).toNat)) < 6 := fun q => by have t := lxm (s := 12) hMc (k := z30) (by omega) (by omega) q; rw [cM12] at t; exact t
                              refine l_pfi rfl rfl rfl rfl ?_
                              obtain ⟨U3, eU3⟩ : ∃ T : sS, T = uI T1 904 165 (Int32.ofInt (Xi T1 915 ((z30).toNat))) := ⟨_, rfl⟩
                              rw [← eU3]
                              have hHU3 : HI U3 := by rw [eU3]; exact HI_w hHT1 (show -1 ≤ (Xi T1 915 ((z30).toNat)) by omega) (show (Xi T1 915 ((z30).toNat)) ≤ 23 by omega)
                              have hFU3 : FR md_mo_fitsCommand S U3 := by rw [eU3]; exact FR.wI hFT1 (mdf_i (r := (904, 905, 165, 166)) (List.mem_of_getElem? (i := 0) rfl) (inR_i (by omega) (by omega) (by omega) (by omega)))
                              have w60 : Xi U3 904 165 = (Xi T1 915 ((z30).toNat)) := by rw [eU3]; exact Xi_same (by unfold rg; omega)
                              refine l_iload rfl rfl ?_
                              refine l_iload rfl rfl ?_
                              refine l_iadd rfl ?_
                              refine l_istore rfl rfl rfl ?_
                              refine l_iinc rfl rfl rfl rfl ?_
                              refine l_goto rfl rfl ?_
                              exact Rl_weak (ih25 _ (by omega) U3 hHU3 hFU3 (v2) (v3) ((v4 + (1 + v3))) ((v5 + 1)) (by omega) (by omega) (by omega) (by omega) (by omega) rfl) (And.intro rfl (And.intro rfl (And.intro rfl (And.intro rfl (And.intro rfl (And.intro rfl (True.intro)))))))
                  · refine l_aload_n rfl rfl ?_
                    refine l_gfr rfl rfl rfl rfl rfl (hHT1.r 904 163 995 rfl) ?_
                    refine l_iload rfl rfl ?_
                    refine l_iconst rfl ?_
                    refine l_iadd rfl ?_
                    refine l_laload (n := 50) rfl rfl (by omega) (by omega) (by unfold rg; omega) ?_
                    have w61 : -9223372036854775808 ≤ (Xj T1 995 (((v4 + 2)).toNat)) ∧ (Xj T1 995 (((v4 + 2)).toNat)) < 9223372036854775808 := Xj_rg
                    refine l_goto rfl rfl ?_
                    refine l_iload rfl rfl ?_
                    have w62 : 0 ≤ Xi T1 904 15 ∧ Xi T1 904 15 ≤ 300 := hHT1.c _ _
                    refine l_callV rfl rfl rfl (t_mo_find hHT1 (Xj T1 995 ((v4).toNat)) 0 (Xj T1 995 (((v4 + 2)).toNat)) (1 + v3) ⟨by omega, by omega⟩ _) ?_
                    rintro _ _ ⟨rfl, z64, rfl, w64, w63⟩
                    show Rl _ _ _ _ _ [iv z64] _ _
                    have hMc : LXM T1 := LXM_FR hFT1 rfl hM
                    have hc19 : 0 ≤ Xi T1 904 19 ∧ Xi T1 904 19 ≤ 24 := hHT1.c _ _
                    have hc15 : 0 ≤ Xi T1 904 15 ∧ Xi T1 904 15 ≤ 300 := hHT1.c _ _
                    refine l_istore rfl rfl rfl ?_
                    refine l_aload_n rfl rfl ?_
                    refine l_gfr rfl rfl rfl rfl rfl (hHT1.r 904 59 949 rfl) ?_
                    refine l_iload_n rfl rfl ?_
                    refine l_iaload (n := 20) rfl rfl (by omega) (by omega) (by unfold rg; omega) ?_
                    have w65 : -2 ≤ (Xi T1 949 ((c).toNat)) ∧ (Xi T1 949 ((c).toNat)) ≤ 15 := hHT1.c _ _
                    refine l_bipush rfl rfl ?_
                    refine l_icmp_ne rfl rfl (by unfold rg; omega) (by unfold rg; omega) (fun w66 => ?_) (fun w67 => ?_)
                    · refine l_iconst rfl ?_
                      refine l_istore rfl rfl rfl ?_
                      refine l_iload rfl rfl ?_
                      refine l_iconst rfl ?_
                      refine l_icmp_eq rfl rfl (by unfold rg; omega) (by unfold rg; omega) (fun w68 => ?_) (fun w69 => ?_)
                      · refine l_iconst rfl ?_
                        refine l_ireturn rfl rfl ?_
                        exact ⟨hHT1, hFT1, _, rfl, ⟨by omega, by omega⟩⟩
                      · refine l_aload_n rfl rfl ?_
                        refine l_gfr rfl rfl rfl rfl rfl (hHT1.r 904 12 914 rfl) ?_
                        refine l_iload rfl rfl ?_
                        refine l_iaload (n := 300) rfl rfl (by omega) (by omega) (by unfold rg; omega) ?_
                        have w70 : 0 ≤ (Xi T1 914 ((z64).toNat)) ∧ (Xi T1 914 ((z64).toNat)) ≤ 12 := hHT1.c _ _
                        refine l_iload rfl rfl ?_
                        refine l_if_eq rfl rfl (by unfold rg; omega) (fun w71 => ?_) (fun w72 => absurd w72 (by omega))
                        · refine l_iconst rfl ?_
                          refine l_icmp_ne rfl rfl (by unfold rg; omega) (by unfold rg; omega) (fun w73 => ?_) (fun w74 => ?_)
                          · refine l_iconst rfl ?_
                            refine l_ireturn rfl rfl ?_
                            exact ⟨hHT1, hFT1, _, rfl, ⟨by omega, by omega⟩⟩
                          · refine l_iload rfl rfl ?_
                            refine l_if_ne rfl rfl (by unfold rg; omega) (fun w75 => absurd w75 (by omega)) (fun w76 => ?_)
                            · refine l_aload_n rfl rfl ?_
                              refine l_aload_n rfl rfl ?_
                              refine l_gfr rfl rfl rfl rfl rfl (hHT1.r 904 20 918 rfl) ?_
                              refine l_aload_n rfl rfl ?_
                              refine l_gfr rfl rfl rfl rfl rfl (hHT1.r 904 13 915 rfl) ?_
                              refine l_iload rfl rfl ?_
                              refine l_iaload (n := 300) rfl rfl (by omega) (by omega) (by unfold rg; omega) ?_
                              have w77 : 0 ≤ (Xi T1 915 ((z64).toNat)) ∧ (Xi T1 915 ((z64).toNat)) ≤ 63 := hHT1.c _ _
                              have x2334 : Xi T1 914 (z64).toNat = 4 → (Xi T1 915 ((z64).toNat)) < Xi T1 904 19 := fun q => by have t := lxm (s := 4) hMc (k := z64) (by omega) (by omega) q; rw [cM4] at t; exact t
                              have x23312 : Xi T1 914 (z64).toNat = 12 → (Xi T1 915 ((z64).toNat)) < 6 := fun q => by have t := lxm (s := 12) hMc (k := z64) (by omega) (by omega) q; rw [cM12] at t; exact t
                              refine l_iaload (n := 24) rfl rfl (by omega) (by omega) (by unfold rg; omega) ?_
                              have w78 : 0 ≤ (Xi T1 918 (((Xi T1 915 ((z64).toNat))).toNat)) ∧ (Xi T1 918 (((Xi T1 915 ((z64).toNat))).toNat)) ≤ 15 := hHT1.c _ _
                              refine l_aload_n rfl rfl ?_
                              refine l_gfr rfl rfl rfl rfl rfl (hHT1.r 904 59 949 rfl) ?_
                              refine l_iload_n rfl rfl ?_
                              refine l_iaload (n := 20) rfl rfl (by omega) (by omega) (by unfold rg; omega) ?_
                              refine l_callV rfl rfl rfl (t_mo_isBelow hHT1 (Xi T1 918 (((Xi T1 915 ((z64).toNat))).toNat)) (Xi T1 949 ((c).toNat)) ⟨by omega, by omega⟩ ⟨by omega, by omega⟩ (by first | assumption | exact (ABV_FR hFT1 rfl (by assumption : ABV S))) _) ?_
                              rintro _ _ ⟨rfl, z80, rfl, w80, w79⟩
                              show Rl _ _ _ _ _ [iv z80] _ _
                              refine l_if_ne rfl rfl (by unfold rg; omega) (fun w81 => ?_) (fun w82 => ?_)
                              · refine l_aload_n rfl rfl ?_
                                refine l_aload_n rfl rfl ?_
                                refine l_gfr rfl rfl rfl rfl rfl (hHT1.r 904 13 915 rfl) ?_
                                refine l_iload rfl rfl ?_
                                refine l_iaload (n := 300) rfl rfl (by omega) (by omega) (by unfold rg; omega) ?_
                                have x2564 : Xi T1 914 (z64).toNat = 4 → (Xi T1 915 ((z64).toNat)) < Xi T1 904 19 := fun q => by have t := lxm (s := 4) hMc (k := z64) (by omega) (by omega) q; rw [cM4] at t; exact t
                                have x25612 : Xi T1 914 (z64).toNat = 12 → (Xi T1 915 ((z64).toNat)) < 6 := fun q => by have t := lxm (s := 12) hMc (k := z64) (by omega) (by omega) q; rw [cM12] at t; exact t
                                refine l_pfi rfl rfl rfl rfl ?_
                                obtain ⟨U4, eU4⟩ : ∃ T : sS, T = uI T1 904 165 (Int32.ofInt (Xi T1 915 ((z64).toNat))) := ⟨_, rfl⟩
                                rw [← eU4]
                                have hHU4 : HI U4 := by rw [eU4]; exact HI_w hHT1 (show -1 ≤ (Xi T1 915 ((z64).toNat)) by omega) (show (Xi T1 915 ((z64).toNat)) ≤ 23 by omega)
                                have hFU4 : FR md_mo_fitsCommand S U4 := by rw [eU4]; exact FR.wI hFT1 (mdf_i (r := (904, 905, 165, 166)) (List.mem_of_getElem? (i := 0) rfl) (inR_i (by omega) (by omega) (by omega) (by omega)))
                                have w83 : Xi U4 904 165 = (Xi T1 915 ((z64).toNat)) := by rw [eU4]; exact Xi_same (by unfold rg; omega)
                                refine l_iload rfl rfl ?_
                                refine l_iload rfl rfl ?_
                                refine l_iadd rfl ?_
                                refine l_istore rfl rfl rfl ?_
                                refine l_iinc rfl rfl rfl rfl ?_
                                refine l_goto rfl rfl ?_
                                exact Rl_weak (ih25 _ (by omega) U4 hHU4 hFU4 (v2) (v3) ((v4 + (1 + v3))) ((v5 + 1)) (by omega) (by omega) (by omega) (by omega) (by omega) rfl) (And.intro rfl (And.intro rfl (And.intro rfl (And.intro rfl (And.intro rfl (And.intro rfl (True.intro)))))))
                              · refine l_iconst rfl ?_
                                refine l_ireturn rfl rfl ?_
                                exact ⟨hHT1, hFT1, _, rfl, ⟨by omega, by omega⟩⟩
                    · refine l_iconst rfl ?_
                      refine l_goto rfl rfl ?_
                      refine l_istore rfl rfl rfl ?_
                      refine l_iload rfl rfl ?_
                      refine l_iconst rfl ?_
                      refine l_icmp_eq rfl rfl (by unfold rg; omega) (by unfold rg; omega) (fun w84 => ?_) (fun w85 => ?_)
                      · refine l_iconst rfl ?_
                        refine l_ireturn rfl rfl ?_
                        exact ⟨hHT1, hFT1, _, rfl, ⟨by omega, by omega⟩⟩
                      · refine l_aload_n rfl rfl ?_
                        refine l_gfr rfl rfl rfl rfl rfl (hHT1.r 904 12 914 rfl) ?_
                        refine l_iload rfl rfl ?_
                        refine l_iaload (n := 300) rfl rfl (by omega) (by omega) (by unfold rg; omega) ?_
                        have w86 : 0 ≤ (Xi T1 914 ((z64).toNat)) ∧ (Xi T1 914 ((z64).toNat)) ≤ 12 := hHT1.c _ _
                        refine l_iload rfl rfl ?_
                        refine l_if_eq rfl rfl (by unfold rg; omega) (fun w87 => absurd w87 (by omega)) (fun w88 => ?_)
                        · refine l_bipush rfl rfl ?_
                          refine l_goto rfl rfl ?_
                          refine l_icmp_ne rfl rfl (by unfold rg; omega) (by unfold rg; omega) (fun w89 => ?_) (fun w90 => ?_)
                          · refine l_iconst rfl ?_
                            refine l_ireturn rfl rfl ?_
                            exact ⟨hHT1, hFT1, _, rfl, ⟨by omega, by omega⟩⟩
                          · refine l_iload rfl rfl ?_
                            refine l_if_ne rfl rfl (by unfold rg; omega) (fun w91 => ?_) (fun w92 => absurd w92 (by omega))
                            · refine l_aload_n rfl rfl ?_
                              refine l_aload_n rfl rfl ?_
                              refine l_gfr rfl rfl rfl rfl rfl (hHT1.r 904 13 915 rfl) ?_
                              refine l_iload rfl rfl ?_
                              refine l_iaload (n := 300) rfl rfl (by omega) (by omega) (by unfold rg; omega) ?_
                              have w93 : 0 ≤ (Xi T1 915 ((z64).toNat)) ∧ (Xi T1 915 ((z64).toNat)) ≤ 63 := hHT1.c _ _
                              have x2564 : Xi T1 914 (z64).toNat = 4 → (Xi T1 915 ((z64).toNat)) < Xi T1 904 19 := fun q => by have t := lxm (s := 4) hMc (k := z64) (by omega) (by omega) q; rw [cM4] at t; exact t
                              have x25612 : Xi T1 914 (z64).toNat = 12 → (Xi T1 915 ((z64).toNat)) < 6 := fun q => by have t := lxm (s := 12) hMc (k := z64) (by omega) (by omega) q; rw [cM12] at t; exact t
                              refine l_pfi rfl rfl rfl rfl ?_
                              obtain ⟨U5, eU5⟩ : ∃ T : sS, T = uI T1 904 165 (Int32.ofInt (Xi T1 915 ((z64).toNat))) := ⟨_, rfl⟩
                              rw [← eU5]
                              have hHU5 : HI U5 := by rw [eU5]; exact HI_w hHT1 (show -1 ≤ (Xi T1 915 ((z64).toNat)) by omega) (show (Xi T1 915 ((z64).toNat)) ≤ 23 by omega)
                              have hFU5 : FR md_mo_fitsCommand S U5 := by rw [eU5]; exact FR.wI hFT1 (mdf_i (r := (904, 905, 165, 166)) (List.mem_of_getElem? (i := 0) rfl) (inR_i (by omega) (by omega) (by omega) (by omega)))
                              have w94 : Xi U5 904 165 = (Xi T1 915 ((z64).toNat)) := by rw [eU5]; exact Xi_same (by unfold rg; omega)
                              refine l_iload rfl rfl ?_
                              refine l_iload rfl rfl ?_
                              refine l_iadd rfl ?_
                              refine l_istore rfl rfl rfl ?_
                              refine l_iinc rfl rfl rfl rfl ?_
                              refine l_goto rfl rfl ?_
                              exact Rl_weak (ih25 _ (by omega) U5 hHU5 hFU5 (v2) (v3) ((v4 + (1 + v3))) ((v5 + 1)) (by omega) (by omega) (by omega) (by omega) (by omega) rfl) (And.intro rfl (And.intro rfl (And.intro rfl (And.intro rfl (And.intro rfl (And.intro rfl (True.intro)))))))
                · refine l_aload_n rfl rfl ?_
                  refine l_gfr rfl rfl rfl rfl rfl (hHT1.r 904 163 995 rfl) ?_
                  refine l_iload rfl rfl ?_
                  refine l_iconst rfl ?_
                  refine l_iadd rfl ?_
                  refine l_laload (n := 50) rfl rfl (by omega) (by omega) (by unfold rg; omega) ?_
                  have w95 : -9223372036854775808 ≤ (Xj T1 995 (((v4 + 1)).toNat)) ∧ (Xj T1 995 (((v4 + 1)).toNat)) < 9223372036854775808 := Xj_rg
                  refine l_goto rfl rfl ?_
                  refine l_iload rfl rfl ?_
                  refine l_iconst rfl ?_
                  refine l_icmp_le rfl rfl (by unfold rg; omega) (by unfold rg; omega) (fun w96 => ?_) (fun w97 => ?_)
                  · refine l_lconst (z := 0) rfl rfl ?_
                    refine l_iload rfl rfl ?_
                    have w98 : 0 ≤ Xi T1 904 15 ∧ Xi T1 904 15 ≤ 300 := hHT1.c _ _
                    refine l_callV rfl rfl rfl (t_mo_find hHT1 (Xj T1 995 ((v4).toNat)) (Xj T1 995 (((v4 + 1)).toNat)) 0 (1 + v3) ⟨by omega, by omega⟩ _) ?_
                    rintro _ _ ⟨rfl, z100, rfl, w100, w99⟩
                    show Rl _ _ _ _ _ [iv z100] _ _
                    have hMc : LXM T1 := LXM_FR hFT1 rfl hM
                    have hc19 : 0 ≤ Xi T1 904 19 ∧ Xi T1 904 19 ≤ 24 := hHT1.c _ _
                    have hc15 : 0 ≤ Xi T1 904 15 ∧ Xi T1 904 15 ≤ 300 := hHT1.c _ _
                    refine l_istore rfl rfl rfl ?_
                    refine l_aload_n rfl rfl ?_
                    refine l_gfr rfl rfl rfl rfl rfl (hHT1.r 904 59 949 rfl) ?_
                    refine l_iload_n rfl rfl ?_
                    refine l_iaload (n := 20) rfl rfl (by omega) (by omega) (by unfold rg; omega) ?_
                    have w101 : -2 ≤ (Xi T1 949 ((c).toNat)) ∧ (Xi T1 949 ((c).toNat)) ≤ 15 := hHT1.c _ _
                    refine l_bipush rfl rfl ?_
                    refine l_icmp_ne rfl rfl (by unfold rg; omega) (by unfold rg; omega) (fun w102 => ?_) (fun w103 => ?_)
                    · refine l_iconst rfl ?_
                      refine l_istore rfl rfl rfl ?_
                      refine l_iload rfl rfl ?_
                      refine l_iconst rfl ?_
                      refine l_icmp_eq rfl rfl (by unfold rg; omega) (by unfold rg; omega) (fun w104 => ?_) (fun w105 => ?_)
                      · refine l_iconst rfl ?_
                        refine l_ireturn rfl rfl ?_
                        exact ⟨hHT1, hFT1, _, rfl, ⟨by omega, by omega⟩⟩
                      · refine l_aload_n rfl rfl ?_
                        refine l_gfr rfl rfl rfl rfl rfl (hHT1.r 904 12 914 rfl) ?_
                        refine l_iload rfl rfl ?_
                        refine l_iaload (n := 300) rfl rfl (by omega) (by omega) (by unfold rg; omega) ?_
                        have w106 : 0 ≤ (Xi T1 914 ((z100).toNat)) ∧ (Xi T1 914 ((z100).toNat)) ≤ 12 := hHT1.c _ _
                        refine l_iload rfl rfl ?_
                        refine l_if_eq rfl rfl (by unfold rg; omega) (fun w107 => ?_) (fun w108 => absurd w108 (by omega))
                        · refine l_iconst rfl ?_
                          refine l_icmp_ne rfl rfl (by unfold rg; omega) (by unfold rg; omega) (fun w109 => ?_) (fun w110 => ?_)
                          · refine l_iconst rfl ?_
                            refine l_ireturn rfl rfl ?_
                            exact ⟨hHT1, hFT1, _, rfl, ⟨by omega, by omega⟩⟩
                          · refine l_iload rfl rfl ?_
                            refine l_if_ne rfl rfl (by unfold rg; omega) (fun w111 => absurd w111 (by omega)) (fun w112 => ?_)
                            · refine l_aload_n rfl rfl ?_
                              refine l_aload_n rfl rfl ?_
                              refine l_gfr rfl rfl rfl rfl rfl (hHT1.r 904 20 918 rfl) ?_
                              refine l_aload_n rfl rfl ?_
                              refine l_gfr rfl rfl rfl rfl rfl (hHT1.r 904 13 915 rfl) ?_
                              refine l_iload rfl rfl ?_
                              refine l_iaload (n := 300) rfl rfl (by omega) (by omega) (by unfold rg; omega) ?_
                              have w113 : 0 ≤ (Xi T1 915 ((z100).toNat)) ∧ (Xi T1 915 ((z100).toNat)) ≤ 63 := hHT1.c _ _
                              have x2334 : Xi T1 914 (z100).toNat = 4 → (Xi T1 915 ((z100).toNat)) < Xi T1 904 19 := fun q => by have t := lxm (s := 4) hMc (k := z100) (by omega) (by omega) q; rw [cM4] at t; exact t
                              have x23312 : Xi T1 914 (z100).toNat = 12 → (Xi T1 915 ((z100).toNat)) < 6 := fun q => by have t := lxm (s := 12) hMc (k := z100) (by omega) (by omega) q; rw [cM12] at t; exact t
                              refine l_iaload (n := 24) rfl rfl (by omega) (by omega) (by unfold rg; omega) ?_
                              have w114 : 0 ≤ (Xi T1 918 (((Xi T1 915 ((z100).toNat))).toNat)) ∧ (Xi T1 918 (((Xi T1 915 ((z100).toNat))).toNat)) ≤ 15 := hHT1.c _ _
                              refine l_aload_n rfl rfl ?_
                              refine l_gfr rfl rfl rfl rfl rfl (hHT1.r 904 59 949 rfl) ?_
                              refine l_iload_n rfl rfl ?_
                              refine l_iaload (n := 20) rfl rfl (by omega) (by omega) (by unfold rg; omega) ?_
                              refine l_callV rfl rfl rfl (t_mo_isBelow hHT1 (Xi T1 918 (((Xi T1 915 ((z100).toNat))).toNat)) (Xi T1 949 ((c).toNat)) ⟨by omega, by omega⟩ ⟨by omega, by omega⟩ (by first | assumption | exact (ABV_FR hFT1 rfl (by assumption : ABV S))) _) ?_
                              rintro _ _ ⟨rfl, z116, rfl, w116, w115⟩
                              show Rl _ _ _ _ _ [iv z116] _ _
                              refine l_if_ne rfl rfl (by unfold rg; omega) (fun w117 => ?_) (fun w118 => ?_)
                              · refine l_aload_n rfl rfl ?_
                                refine l_aload_n rfl rfl ?_
                                refine l_gfr rfl rfl rfl rfl rfl (hHT1.r 904 13 915 rfl) ?_
                                refine l_iload rfl rfl ?_
                                refine l_iaload (n := 300) rfl rfl (by omega) (by omega) (by unfold rg; omega) ?_
                                have x2564 : Xi T1 914 (z100).toNat = 4 → (Xi T1 915 ((z100).toNat)) < Xi T1 904 19 := fun q => by have t := lxm (s := 4) hMc (k := z100) (by omega) (by omega) q; rw [cM4] at t; exact t
                                have x25612 : Xi T1 914 (z100).toNat = 12 → (Xi T1 915 ((z100).toNat)) < 6 := fun q => by have t := lxm (s := 12) hMc (k := z100) (by omega) (by omega) q; rw [cM12] at t; exact t
                                refine l_pfi rfl rfl rfl rfl ?_
                                obtain ⟨U6, eU6⟩ : ∃ T : sS, T = uI T1 904 165 (Int32.ofInt (Xi T1 915 ((z100).toNat))) := ⟨_, rfl⟩
                                rw [← eU6]
                                have hHU6 : HI U6 := by rw [eU6]; exact HI_w hHT1 (show -1 ≤ (Xi T1 915 ((z100).toNat)) by omega) (show (Xi T1 915 ((z100).toNat)) ≤ 23 by omega)
                                have hFU6 : FR md_mo_fitsCommand S U6 := by rw [eU6]; exact FR.wI hFT1 (mdf_i (r := (904, 905, 165, 166)) (List.mem_of_getElem? (i := 0) rfl) (inR_i (by omega) (by omega) (by omega) (by omega)))
                                have w119 : Xi U6 904 165 = (Xi T1 915 ((z100).toNat)) := by rw [eU6]; exact Xi_same (by unfold rg; omega)
                                refine l_iload rfl rfl ?_
                                refine l_iload rfl rfl ?_
                                refine l_iadd rfl ?_
                                refine l_istore rfl rfl rfl ?_
                                refine l_iinc rfl rfl rfl rfl ?_
                                refine l_goto rfl rfl ?_
                                exact Rl_weak (ih25 _ (by omega) U6 hHU6 hFU6 (v2) (v3) ((v4 + (1 + v3))) ((v5 + 1)) (by omega) (by omega) (by omega) (by omega) (by omega) rfl) (And.intro rfl (And.intro rfl (And.intro rfl (And.intro rfl (And.intro rfl (And.intro rfl (True.intro)))))))
                              · refine l_iconst rfl ?_
                                refine l_ireturn rfl rfl ?_
                                exact ⟨hHT1, hFT1, _, rfl, ⟨by omega, by omega⟩⟩
                    · refine l_iconst rfl ?_
                      refine l_goto rfl rfl ?_
                      refine l_istore rfl rfl rfl ?_
                      refine l_iload rfl rfl ?_
                      refine l_iconst rfl ?_
                      refine l_icmp_eq rfl rfl (by unfold rg; omega) (by unfold rg; omega) (fun w120 => ?_) (fun w121 => ?_)
                      · refine l_iconst rfl ?_
                        refine l_ireturn rfl rfl ?_
                        exact ⟨hHT1, hFT1, _, rfl, ⟨by omega, by omega⟩⟩
                      · refine l_aload_n rfl rfl ?_
                        refine l_gfr rfl rfl rfl rfl rfl (hHT1.r 904 12 914 rfl) ?_
                        refine l_iload rfl rfl ?_
                        refine l_iaload (n := 300) rfl rfl (by omega) (by omega) (by unfold rg; omega) ?_
                        have w122 : 0 ≤ (Xi T1 914 ((z100).toNat)) ∧ (Xi T1 914 ((z100).toNat)) ≤ 12 := hHT1.c _ _
                        refine l_iload rfl rfl ?_
                        refine l_if_eq rfl rfl (by unfold rg; omega) (fun w123 => absurd w123 (by omega)) (fun w124 => ?_)
                        · refine l_bipush rfl rfl ?_
                          refine l_goto rfl rfl ?_
                          refine l_icmp_ne rfl rfl (by unfold rg; omega) (by unfold rg; omega) (fun w125 => ?_) (fun w126 => ?_)
                          · refine l_iconst rfl ?_
                            refine l_ireturn rfl rfl ?_
                            exact ⟨hHT1, hFT1, _, rfl, ⟨by omega, by omega⟩⟩
                          · refine l_iload rfl rfl ?_
                            refine l_if_ne rfl rfl (by unfold rg; omega) (fun w127 => ?_) (fun w128 => absurd w128 (by omega))
                            · refine l_aload_n rfl rfl ?_
                              refine l_aload_n rfl rfl ?_
                              refine l_gfr rfl rfl rfl rfl rfl (hHT1.r 904 13 915 rfl) ?_
                              refine l_iload rfl rfl ?_
                              refine l_iaload (n := 300) rfl rfl (by omega) (by omega) (by unfold rg; omega) ?_
                              have w129 : 0 ≤ (Xi T1 915 ((z100).toNat)) ∧ (Xi T1 915 ((z100).toNat)) ≤ 63 := hHT1.c _ _
                              have x2564 : Xi T1 914 (z100).toNat = 4 → (Xi T1 915 ((z100).toNat)) < Xi T1 904 19 := fun q => by have t := lxm (s := 4) hMc (k := z100) (by omega) (by omega) q; rw [cM4] at t; exact t
                              have x25612 : Xi T1 914 (z100).toNat = 12 → (Xi T1 915 ((z100).toNat)) < 6 := fun q => by have t := lxm (s := 12) hMc (k := z100) (by omega) (by omega) q; rw [cM12] at t; exact t
                              refine l_pfi rfl rfl rfl rfl ?_
                              obtain ⟨U7, eU7⟩ : ∃ T : sS, T = uI T1 904 165 (Int32.ofInt (Xi T1 915 ((z100).toNat))) := ⟨_, rfl⟩
                              rw [← eU7]
                              have hHU7 : HI U7 := by rw [eU7]; exact HI_w hHT1 (show -1 ≤ (Xi T1 915 ((z100).toNat)) by omega) (show (Xi T1 915 ((z100).toNat)) ≤ 23 by omega)
                              have hFU7 : FR md_mo_fitsCommand S U7 := by rw [eU7]; exact FR.wI hFT1 (mdf_i (r := (904, 905, 165, 166)) (List.mem_of_getElem? (i := 0) rfl) (inR_i (by omega) (by omega) (by omega) (by omega)))
                              have w130 : Xi U7 904 165 = (Xi T1 915 ((z100).toNat)) := by rw [eU7]; exact Xi_same (by unfold rg; omega)
                              refine l_iload rfl rfl ?_
                              refine l_iload rfl rfl ?_
                              refine l_iadd rfl ?_
                              refine l_istore rfl rfl rfl ?_
                              refine l_iinc rfl rfl rfl rfl ?_
                              refine l_goto rfl rfl ?_
                              exact Rl_weak (ih25 _ (by omega) U7 hHU7 hFU7 (v2) (v3) ((v4 + (1 + v3))) ((v5 + 1)) (by omega) (by omega) (by omega) (by omega) (by omega) rfl) (And.intro rfl (And.intro rfl (And.intro rfl (And.intro rfl (And.intro rfl (And.intro rfl (True.intro)))))))
                  · refine l_aload_n rfl rfl ?_
                    refine l_gfr rfl rfl rfl rfl rfl (hHT1.r 904 163 995 rfl) ?_
                    refine l_iload rfl rfl ?_
                    refine l_iconst rfl ?_
                    refine l_iadd rfl ?_
                    refine l_laload (n := 50) rfl rfl (by omega) (by omega) (by unfold rg; omega) ?_
                    have w131 : -9223372036854775808 ≤ (Xj T1 995 (((v4 + 2)).toNat)) ∧ (Xj T1 995 (((v4 + 2)).toNat)) < 9223372036854775808 := Xj_rg
                    refine l_goto rfl rfl ?_
                    refine l_iload rfl rfl ?_
                    have w132 : 0 ≤ Xi T1 904 15 ∧ Xi T1 904 15 ≤ 300 := hHT1.c _ _
                    refine l_callV rfl rfl rfl (t_mo_find hHT1 (Xj T1 995 ((v4).toNat)) (Xj T1 995 (((v4 + 1)).toNat)) (Xj T1 995 (((v4 + 2)).toNat)) (1 + v3) ⟨by omega, by omega⟩ _) ?_
                    rintro _ _ ⟨rfl, z134, rfl, w134, w133⟩
                    show Rl _ _ _ _ _ [iv z134] _ _
                    have hMc : LXM T1 := LXM_FR hFT1 rfl hM
                    have hc19 : 0 ≤ Xi T1 904 19 ∧ Xi T1 904 19 ≤ 24 := hHT1.c _ _
                    have hc15 : 0 ≤ Xi T1 904 15 ∧ Xi T1 904 15 ≤ 300 := hHT1.c _ _
                    refine l_istore rfl rfl rfl ?_
                    refine l_aload_n rfl rfl ?_
                    refine l_gfr rfl rfl rfl rfl rfl (hHT1.r 904 59 949 rfl) ?_
                    refine l_iload_n rfl rfl ?_
                    refine l_iaload (n := 20) rfl rfl (by omega) (by omega) (by unfold rg; omega) ?_
                    have w135 : -2 ≤ (Xi T1 949 ((c).toNat)) ∧ (Xi T1 949 ((c).toNat)) ≤ 15 := hHT1.c _ _
                    refine l_bipush rfl rfl ?_
                    refine l_icmp_ne rfl rfl (by unfold rg; omega) (by unfold rg; omega) (fun w136 => ?_) (fun w137 => ?_)
                    · refine l_iconst rfl ?_
                      refine l_istore rfl rfl rfl ?_
                      refine l_iload rfl rfl ?_
                      refine l_iconst rfl ?_
                      refine l_icmp_eq rfl rfl (by unfold rg; omega) (by unfold rg; omega) (fun w138 => ?_) (fun w139 => ?_)
                      · refine l_iconst rfl ?_
                        refine l_ireturn rfl rfl ?_
                        exact ⟨hHT1, hFT1, _, rfl, ⟨by omega, by omega⟩⟩
                      · refine l_aload_n rfl rfl ?_
                        refine l_gfr rfl rfl rfl rfl rfl (hHT1.r 904 12 914 rfl) ?_
                        refine l_iload rfl rfl ?_
                        refine l_iaload (n := 300) rfl rfl (by omega) (by omega) (by unfold rg; omega) ?_
                        have w140 : 0 ≤ (Xi T1 914 ((z134).toNat)) ∧ (Xi T1 914 ((z134).toNat)) ≤ 12 := hHT1.c _ _
                        refine l_iload rfl rfl ?_
                        refine l_if_eq rfl rfl (by unfold rg; omega) (fun w141 => ?_) (fun w142 => absurd w142 (by omega))
                        · refine l_iconst rfl ?_
                          refine l_icmp_ne rfl rfl (by unfold rg; omega) (by unfold rg; omega) (fun w143 => ?_) (fun w144 => ?_)
                          · refine l_iconst rfl ?_
                            refine l_ireturn rfl rfl ?_
                            exact ⟨hHT1, hFT1, _, rfl, ⟨by omega, by omega⟩⟩
                          · refine l_iload rfl rfl ?_
                            refine l_if_ne rfl rfl (by unfold rg; omega) (fun w145 => absurd w145 (by omega)) (fun w146 => ?_)
                            · refine l_aload_n rfl rfl ?_
                              refine l_aload_n rfl rfl ?_
                              refine l_gfr rfl rfl rfl rfl rfl (hHT1.r 904 20 918 rfl) ?_
                              refine l_aload_n rfl rfl ?_
                              refine l_gfr rfl rfl rfl rfl rfl (hHT1.r 904 13 915 rfl) ?_
                              refine l_iload rfl rfl ?_
                              refine l_iaload (n := 300) rfl rfl (by omega) (by omega) (by unfold rg; omega) ?_
                              have w147 : 0 ≤ (Xi T1 915 ((z134).toNat)) ∧ (Xi T1 915 ((z134).toNat)) ≤ 63 := hHT1.c _ _
                              have x2334 : Xi T1 914 (z134).toNat = 4 → (Xi T1 915 ((z134).toNat)) < Xi T1 904 19 := fun q => by have t := lxm (s := 4) hMc (k := z134) (by omega) (by omega) q; rw [cM4] at t; exact t
                              have x23312 : Xi T1 914 (z134).toNat = 12 → (Xi T1 915 ((z134).toNat)) < 6 := fun q => by have t := lxm (s := 12) hMc (k := z134) (by omega) (by omega) q; rw [cM12] at t; exact t
                              refine l_iaload (n := 24) rfl rfl (by omega) (by omega) (by unfold rg; omega) ?_
                              have w148 : 0 ≤ (Xi T1 918 (((Xi T1 915 ((z134).toNat))).toNat)) ∧ (Xi T1 918 (((Xi T1 915 ((z134).toNat))).toNat)) ≤ 15 := hHT1.c _ _
                              refine l_aload_n rfl rfl ?_
                              refine l_gfr rfl rfl rfl rfl rfl (hHT1.r 904 59 949 rfl) ?_
                              refine l_iload_n rfl rfl ?_
                              refine l_iaload (n := 20) rfl rfl (by omega) (by omega) (by unfold rg; omega) ?_
                              refine l_callV rfl rfl rfl (t_mo_isBelow hHT1 (Xi T1 918 (((Xi T1 915 ((z134).toNat))).toNat)) (Xi T1 949 ((c).toNat)) ⟨by omega, by omega⟩ ⟨by omega, by omega⟩ (by first | assumption | exact (ABV_FR hFT1 rfl (by assumption : ABV S))) _) ?_
                              rintro _ _ ⟨rfl, z150, rfl, w150, w149⟩
                              show Rl _ _ _ _ _ [iv z150] _ _
                              refine l_if_ne rfl rfl (by unfold rg; omega) (fun w151 => ?_) (fun w152 => ?_)
                              · refine l_aload_n rfl rfl ?_
                                refine l_aload_n rfl rfl ?_
                                refine l_gfr rfl rfl rfl rfl rfl (hHT1.r 904 13 915 rfl) ?_
                                refine l_iload rfl rfl ?_
                                refine l_iaload (n := 300) rfl rfl (by omega) (by omega) (by unfold rg; omega) ?_
                                have x2564 : Xi T1 914 (z134).toNat = 4 → (Xi T1 915 ((z134).toNat)) < Xi T1 904 19 := fun q => by have t := lxm (s := 4) hMc (k := z134) (by omega) (by omega) q; rw [cM4] at t; exact t
                                have x25612 : Xi T1 914 (z134).toNat = 12 → (Xi T1 915 ((z134).toNat)) < 6 := fun q => by have t := lxm (s := 12) hMc (k := z134) (by omega) (by omega) q; rw [cM12] at t; exact t
                                refine l_pfi rfl rfl rfl rfl ?_
                                obtain ⟨U8, eU8⟩ : ∃ T : sS, T = uI T1 904 165 (Int32.ofInt (Xi T1 915 ((z134).toNat))) := ⟨_, rfl⟩
                                rw [← eU8]
                                have hHU8 : HI U8 := by rw [eU8]; exact HI_w hHT1 (show -1 ≤ (Xi T1 915 ((z134).toNat)) by omega) (show (Xi T1 915 ((z134).toNat)) ≤ 23 by omega)
                                have hFU8 : FR md_mo_fitsCommand S U8 := by rw [eU8]; exact FR.wI hFT1 (mdf_i (r := (904, 905, 165, 166)) (List.mem_of_getElem? (i := 0) rfl) (inR_i (by omega) (by omega) (by omega) (by omega)))
                                have w153 : Xi U8 904 165 = (Xi T1 915 ((z134).toNat)) := by rw [eU8]; exact Xi_same (by unfold rg; omega)
                                refine l_iload rfl rfl ?_
                                refine l_iload rfl rfl ?_
                                refine l_iadd rfl ?_
                                refine l_istore rfl rfl rfl ?_
                                refine l_iinc rfl rfl rfl rfl ?_
                                refine l_goto rfl rfl ?_
                                exact Rl_weak (ih25 _ (by omega) U8 hHU8 hFU8 (v2) (v3) ((v4 + (1 + v3))) ((v5 + 1)) (by omega) (by omega) (by omega) (by omega) (by omega) rfl) (And.intro rfl (And.intro rfl (And.intro rfl (And.intro rfl (And.intro rfl (And.intro rfl (True.intro)))))))
                              · refine l_iconst rfl ?_
                                refine l_ireturn rfl rfl ?_
                                exact ⟨hHT1, hFT1, _, rfl, ⟨by omega, by omega⟩⟩
                    · refine l_iconst rfl ?_
                      refine l_goto rfl rfl ?_
                      refine l_istore rfl rfl rfl ?_
                      refine l_iload rfl rfl ?_
                      refine l_iconst rfl ?_
                      refine l_icmp_eq rfl rfl (by unfold rg; omega) (by unfold rg; omega) (fun w154 => ?_) (fun w155 => ?_)
                      · refine l_iconst rfl ?_
                        refine l_ireturn rfl rfl ?_
                        exact ⟨hHT1, hFT1, _, rfl, ⟨by omega, by omega⟩⟩
                      · refine l_aload_n rfl rfl ?_
                        refine l_gfr rfl rfl rfl rfl rfl (hHT1.r 904 12 914 rfl) ?_
                        refine l_iload rfl rfl ?_
                        refine l_iaload (n := 300) rfl rfl (by omega) (by omega) (by unfold rg; omega) ?_
                        have w156 : 0 ≤ (Xi T1 914 ((z134).toNat)) ∧ (Xi T1 914 ((z134).toNat)) ≤ 12 := hHT1.c _ _
                        refine l_iload rfl rfl ?_
                        refine l_if_eq rfl rfl (by unfold rg; omega) (fun w157 => absurd w157 (by omega)) (fun w158 => ?_)
                        · refine l_bipush rfl rfl ?_
                          refine l_goto rfl rfl ?_
                          refine l_icmp_ne rfl rfl (by unfold rg; omega) (by unfold rg; omega) (fun w159 => ?_) (fun w160 => ?_)
                          · refine l_iconst rfl ?_
                            refine l_ireturn rfl rfl ?_
                            exact ⟨hHT1, hFT1, _, rfl, ⟨by omega, by omega⟩⟩
                          · refine l_iload rfl rfl ?_
                            refine l_if_ne rfl rfl (by unfold rg; omega) (fun w161 => ?_) (fun w162 => absurd w162 (by omega))
                            · refine l_aload_n rfl rfl ?_
                              refine l_aload_n rfl rfl ?_
                              refine l_gfr rfl rfl rfl rfl rfl (hHT1.r 904 13 915 rfl) ?_
                              refine l_iload rfl rfl ?_
                              refine l_iaload (n := 300) rfl rfl (by omega) (by omega) (by unfold rg; omega) ?_
                              have w163 : 0 ≤ (Xi T1 915 ((z134).toNat)) ∧ (Xi T1 915 ((z134).toNat)) ≤ 63 := hHT1.c _ _
                              have x2564 : Xi T1 914 (z134).toNat = 4 → (Xi T1 915 ((z134).toNat)) < Xi T1 904 19 := fun q => by have t := lxm (s := 4) hMc (k := z134) (by omega) (by omega) q; rw [cM4] at t; exact t
                              have x25612 : Xi T1 914 (z134).toNat = 12 → (Xi T1 915 ((z134).toNat)) < 6 := fun q => by have t := lxm (s := 12) hMc (k := z134) (by omega) (by omega) q; rw [cM12] at t; exact t
                              refine l_pfi rfl rfl rfl rfl ?_
                              obtain ⟨U9, eU9⟩ : ∃ T : sS, T = uI T1 904 165 (Int32.ofInt (Xi T1 915 ((z134).toNat))) := ⟨_, rfl⟩
                              rw [← eU9]
                              have hHU9 : HI U9 := by rw [eU9]; exact HI_w hHT1 (show -1 ≤ (Xi T1 915 ((z134).toNat)) by omega) (show (Xi T1 915 ((z134).toNat)) ≤ 23 by omega)
                              have hFU9 : FR md_mo_fitsCommand S U9 := by rw [eU9]; exact FR.wI hFT1 (mdf_i (r := (904, 905, 165, 166)) (List.mem_of_getElem? (i := 0) rfl) (inR_i (by omega) (by omega) (by omega) (by omega)))
                              have w164 : Xi U9 904 165 = (Xi T1 915 ((z134).toNat)) := by rw [eU9]; exact Xi_same (by unfold rg; omega)
                              refine l_iload rfl rfl ?_
                              refine l_iload rfl rfl ?_
                              refine l_iadd rfl ?_
                              refine l_istore rfl rfl rfl ?_
                              refine l_iinc rfl rfl rfl rfl ?_
                              refine l_goto rfl rfl ?_
                              exact Rl_weak (ih25 _ (by omega) U9 hHU9 hFU9 (v2) (v3) ((v4 + (1 + v3))) ((v5 + 1)) (by omega) (by omega) (by omega) (by omega) (by omega) rfl) (And.intro rfl (And.intro rfl (And.intro rfl (And.intro rfl (And.intro rfl (And.intro rfl (True.intro)))))))
              · refine l_iconst rfl ?_
                refine l_ireturn rfl rfl ?_
                exact ⟨hHT1, hFT1, _, rfl, ⟨by omega, by omega⟩⟩
        · refine l_iload rfl rfl ?_
          refine l_aload_n rfl rfl ?_
          refine l_gfi rfl rfl rfl rfl rfl ?_
          have w165 : 0 ≤ (Xi T1 904 164) ∧ (Xi T1 904 164) ≤ 50 := hHT1.c _ _
          refine l_icmp_ge rfl rfl (by unfold rg; omega) (by unfold rg; omega) (fun w166 => ?_) (fun w167 => ?_)
          · refine l_iconst rfl ?_
            refine l_ireturn rfl rfl ?_
            exact ⟨hHT1, hFT1, _, rfl, ⟨by omega, by omega⟩⟩
          · refine l_aload_n rfl rfl ?_
            refine l_gfr rfl rfl rfl rfl rfl (hHT1.r 904 163 995 rfl) ?_
            refine l_iload rfl rfl ?_
            refine l_laload (n := 50) rfl rfl (by omega) (by omega) (by unfold rg; omega) ?_
            have w168 : -9223372036854775808 ≤ (Xj T1 995 ((v4).toNat)) ∧ (Xj T1 995 ((v4).toNat)) < 9223372036854775808 := Xj_rg
            refine l_aload_n rfl rfl ?_
            refine l_gfr rfl rfl rfl rfl rfl (hHT1.r 904 58 948 rfl) ?_
            refine l_bipush rfl rfl ?_
            refine l_iload_n rfl rfl ?_
            refine l_imul rfl ?_
            refine l_iload rfl rfl ?_
            refine l_iadd rfl ?_
            refine l_laload (n := 160) rfl rfl (by omega) (by omega) (by unfold rg; omega) ?_
            have w169 : -9223372036854775808 ≤ (Xj T1 948 ((((8 * c) + v5)).toNat)) ∧ (Xj T1 948 ((((8 * c) + v5)).toNat)) < 9223372036854775808 := Xj_rg
            refine l_lcmpA rfl (fun c170 w170 => ?_)
            refine l_if_eq rfl rfl (by unfold rg; omega) (fun w171 => ?_) (fun w172 => ?_)
            · refine l_iinc rfl rfl rfl rfl ?_
              refine l_goto rfl rfl ?_
              refine l_iinc rfl rfl rfl rfl ?_
              refine l_goto rfl rfl ?_
              exact Rl_weak (ih25 _ (by omega) T1 hHT1 hFT1 (v2) (v3) ((v4 + 1)) ((v5 + 1)) (by omega) (by omega) (by omega) (by omega) (by omega) rfl) (And.intro rfl (And.intro rfl (And.intro rfl (And.intro rfl (And.intro rfl (And.intro rfl (True.intro)))))))
            · refine l_iconst rfl ?_
              refine l_ireturn rfl rfl ?_
              exact ⟨hHT1, hFT1, _, rfl, ⟨by omega, by omega⟩⟩
  refine l_aload_n rfl rfl ?_
  refine l_gfr rfl rfl rfl rfl rfl (hH.r 904 57 947 rfl) ?_
  refine l_iload_n rfl rfl ?_
  refine l_iaload (n := 20) rfl rfl (by omega) (by omega) (by unfold rg; omega) ?_
  have w173 : 0 ≤ (Xi S 947 ((c).toNat)) ∧ (Xi S 947 ((c).toNat)) ≤ 8 := hH.c _ _
  refine l_istore_n rfl rfl rfl ?_
  refine l_aload_n rfl rfl ?_
  refine l_gfi rfl rfl rfl rfl rfl ?_
  have w174 : 0 ≤ (Xi S 904 164) ∧ (Xi S 904 164) ≤ 50 := hH.c _ _
  refine l_iload_n rfl rfl ?_
  refine l_isub rfl ?_
  refine l_istore_n rfl rfl rfl ?_
  refine l_iconst rfl ?_
  refine l_istore rfl rfl rfl ?_
  refine l_aload_n rfl rfl ?_
  refine l_iconst rfl ?_
  refine l_pfi rfl rfl rfl rfl ?_
  obtain ⟨U10, eU10⟩ : ∃ T : sS, T = uI S 904 165 (Int32.ofInt (-1)) := ⟨_, rfl⟩
  rw [← eU10]
  have hHU10 : HI U10 := by rw [eU10]; exact HI_w hH (show -1 ≤ (-1) by omega) (show (-1) ≤ 23 by omega)
  have hFU10 : FR md_mo_fitsCommand S U10 := by rw [eU10]; exact FR.wI hF (mdf_i (r := (904, 905, 165, 166)) (List.mem_of_getElem? (i := 0) rfl) (inR_i (by omega) (by omega) (by omega) (by omega)))
  have w175 : Xi U10 904 165 = (-1) := by rw [eU10]; exact Xi_same (by unfold rg; omega)
  refine l_iconst rfl ?_
  refine l_istore rfl rfl rfl ?_
  exact Rl_weak (C25 _ U10 hHU10 hFU10 ((Xi S 947 ((c).toNat))) (((Xi S 904 164) - (Xi S 947 ((c).toNat)))) (0) (0) (by omega) (by omega) (by omega) (by omega) (by omega) rfl) (And.intro rfl (And.intro rfl (And.intro rfl (And.intro rfl (And.intro rfl (And.intro rfl (True.intro)))))))

