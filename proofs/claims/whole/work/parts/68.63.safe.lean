/-! SAFETY of methods: printed by wip/safe (vc.py, decl.py) -/
def md_mo_fitsCommand : List rec := [(904, 905, 165, 166)]
abbrev Q_mo_fitsCommand (S : sS) (c : Int) : pst := fun r S1 => HI S1 ∧ FR md_mo_fitsCommand S S1 ∧ (∃ z : Int, r = some (iv z) ∧ (0 ≤ z ∧ z ≤ 1))
set_option maxRecDepth 100000 in
theorem c25_mo_fitsCommand {S : sS} (hH : HI S) (c : Int) (hc : 0 ≤ c ∧ c ≤ 19) (hM : LXM S) (hB : ABV S) (d : Nat) : ∀ (n25 : Nat) (T1 : sS) (_ : HI T1) (_ : FR md_mo_fitsCommand S T1) (v2 : Int) (v3 : Int) (v4 : Int) (v5 : Int), (0 ≤ v2 ∧ v2 ≤ 8) → (-8 ≤ v3 ∧ v3 ≤ 50) → (0 ≤ v4 ∧ v4 ≤ 50) → (0 ≤ v5 ∧ v5 ≤ 8) → (0 ≤ v4 ∧ v4 ≤ 50) → n25 = (9 - v5).toNat → Rl lay0 (d + 1) m_mo_fitsCommand 25 [(0, .ref 904), (1, iv c), (2, iv v2), (3, iv v3), (4, iv v4), (5, iv v5)] [] T1 (Q_mo_fitsCommand S c) := by
  have hF : FR md_mo_fitsCommand S S := FR.rf
  intro n25
  induction n25 using Nat.strongRecOn with
  | ind n25 ih25 =>
    intro T1 hHT1 hFT1 v2 v3 v4 v5 w1 w2 w3 w4 w5 hm25
    have w6 : Xi T1 904 15 = Xi S 904 15 := hFT1.x _ _ rfl
    refine l_iload rfl rfl ?_
    refine l_iload_n rfl rfl ?_
    refine l_icmp_ge rfl rfl (by unfold rg; omega) (by unfold rg; omega) (fun w7 => ?_) (fun w8 => ?_)
    · refine l_iload rfl rfl ?_
      refine l_aload_n rfl rfl ?_
      refine l_gfi rfl rfl rfl rfl rfl ?_
      have w9 : 0 ≤ (Xi T1 904 164) ∧ (Xi T1 904 164) ≤ 50 := hHT1.c _ _
      refine l_icmp_ne rfl rfl (by unfold rg; omega) (by unfold rg; omega) (fun w10 => ?_) (fun w11 => ?_)
      · refine l_iconst rfl ?_
        refine l_ireturn rfl rfl ?_
        exact ⟨hHT1, hFT1, _, rfl, ⟨by omega, by omega⟩⟩
      · refine l_iconst rfl ?_
        refine l_goto rfl rfl ?_
        refine l_ireturn rfl rfl ?_
        exact ⟨hHT1, hFT1, _, rfl, ⟨by omega, by omega⟩⟩
    · refine l_aload_n rfl rfl ?_
      refine l_gfr rfl rfl rfl rfl rfl (hHT1.r 904 58 948 rfl) ?_
      refine l_bipush rfl rfl ?_
      refine l_iload_n rfl rfl ?_
      refine l_imul rfl ?_
      refine l_iload rfl rfl ?_
      refine l_iadd rfl ?_
      refine l_laload (n := 160) rfl rfl (by omega) (by omega) (by unfold rg; omega) ?_
      have w12 : -9223372036854775808 ≤ (Xj T1 948 ((((8 * c) + v5)).toNat)) ∧ (Xj T1 948 ((((8 * c) + v5)).toNat)) < 9223372036854775808 := Xj_rg
      refine l_lconst (z := 0) rfl rfl ?_
      refine l_lcmpA rfl (fun c13 w13 => ?_)
      refine l_if_eq rfl rfl (by unfold rg; omega) (fun w14 => ?_) (fun w15 => ?_)
      · refine l_iconst rfl ?_
        refine l_iload_n rfl rfl ?_
        refine l_iadd rfl ?_
        refine l_istore rfl rfl rfl ?_
        refine l_iload rfl rfl ?_
        refine l_iconst rfl ?_
        refine l_icmp_lt rfl rfl (by unfold rg; omega) (by unfold rg; omega) (fun w16 => ?_) (fun w17 => ?_)
        · refine l_iconst rfl ?_
          refine l_ireturn rfl rfl ?_
          exact ⟨hHT1, hFT1, _, rfl, ⟨by omega, by omega⟩⟩
        · refine l_iload rfl rfl ?_
          refine l_iconst rfl ?_
          refine l_icmp_gt rfl rfl (by unfold rg; omega) (by unfold rg; omega) (fun w18 => ?_) (fun w19 => ?_)
          · refine l_iconst rfl ?_
            refine l_ireturn rfl rfl ?_
            exact ⟨hHT1, hFT1, _, rfl, ⟨by omega, by omega⟩⟩
          · refine l_iload rfl rfl ?_
            refine l_iload rfl rfl ?_
            refine l_iadd rfl ?_
            refine l_aload_n rfl rfl ?_
            refine l_gfi rfl rfl rfl rfl rfl ?_
            have w20 : 0 ≤ (Xi T1 904 164) ∧ (Xi T1 904 164) ≤ 50 := hHT1.c _ _
            refine l_icmp_le rfl rfl (by unfold rg; omega) (by unfold rg; omega) (fun w21 => ?_) (fun w22 => ?_)
            · refine l_aload_n rfl rfl ?_
              refine l_aload_n rfl rfl ?_
              refine l_gfr rfl rfl rfl rfl rfl (hHT1.r 904 163 995 rfl) ?_
              refine l_iload rfl rfl ?_
              refine l_laload (n := 50) rfl rfl (by omega) (by omega) (by unfold rg; omega) ?_
              have w23 : -9223372036854775808 ≤ (Xj T1 995 ((v4).toNat)) ∧ (Xj T1 995 ((v4).toNat)) < 9223372036854775808 := Xj_rg
              refine l_iload rfl rfl ?_
              refine l_iconst rfl ?_
              refine l_icmp_le rfl rfl (by unfold rg; omega) (by unfold rg; omega) (fun w24 => ?_) (fun w25 => ?_)
              · refine l_lconst (z := 0) rfl rfl ?_
                refine l_iload rfl rfl ?_
                refine l_iconst rfl ?_
                refine l_icmp_le rfl rfl (by unfold rg; omega) (by unfold rg; omega) (fun w26 => ?_) (fun w27 => ?_)
                · refine l_lconst (z := 0) rfl rfl ?_
                  refine l_iload rfl rfl ?_
                  have w28 : 0 ≤ Xi T1 904 15 ∧ Xi T1 904 15 ≤ 300 := hHT1.c _ _
                  refine l_callV rfl rfl rfl (t_mo_find hHT1 (Xj T1 995 ((v4).toNat)) 0 0 (1 + v3) ⟨by omega, by omega⟩ _) ?_
                  rintro _ _ ⟨rfl, z30, rfl, w30, w29⟩
                  show Rl _ _ _ _ _ [iv z30] _ _
                  have hMc : LXM T1 := LXM_FR hFT1 rfl hM
                  have hc19 : 0 ≤ Xi T1 904 19 ∧ Xi T1 904 19 ≤ 24 := hHT1.c _ _
                  have hc15 : 0 ≤ Xi T1 904 15 ∧ Xi T1 904 15 ≤ 300 := hHT1.c _ _
                  refine l_istore rfl rfl rfl ?_
                  refine l_aload_n rfl rfl ?_
                  refine l_gfr rfl rfl rfl rfl rfl (hHT1.r 904 59 949 rfl) ?_
                  refine l_iload_n rfl rfl ?_
                  refine l_iaload (n := 20) rfl rfl (by omega) (by omega) (by unfold rg; omega) ?_
                  have w31 : -2 ≤ (Xi T1 949 ((c).toNat)) ∧ (Xi T1 949 ((c).toNat)) ≤ 15 := hHT1.c _ _
                  refine l_bipush rfl rfl ?_
                  refine l_icmp_ne rfl rfl (by unfold rg; omega) (by unfold rg; omega) (fun w32 => ?_) (fun w33 => ?_)
                  · refine l_iconst rfl ?_
                    refine l_istore rfl rfl rfl ?_
                    refine l_iload rfl rfl ?_
                    refine l_iconst rfl ?_
                    refine l_icmp_eq rfl rfl (by unfold rg; omega) (by unfold rg; omega) (fun w34 => ?_) (fun w35 => ?_)
                    · refine l_iconst rfl ?_
                      refine l_ireturn rfl rfl ?_
                      exact ⟨hHT1, hFT1, _, rfl, ⟨by omega, by omega⟩⟩
                    · refine l_aload_n rfl rfl ?_
                      refine l_gfr rfl rfl rfl rfl rfl (hHT1.r 904 12 914 rfl) ?_
                      refine l_iload rfl rfl ?_
                      refine l_iaload (n := 300) rfl rfl (by omega) (by omega) (by unfold rg; omega) ?_
                      have w36 : 0 ≤ (Xi T1 914 ((z30).toNat)) ∧ (Xi T1 914 ((z30).toNat)) ≤ 12 := hHT1.c _ _
                      refine l_iload rfl rfl ?_
                      refine l_if_eq rfl rfl (by unfold rg; omega) (fun w37 => ?_) (fun w38 => absurd w38 (by omega))
                      · refine l_iconst rfl ?_
                        refine l_icmp_ne rfl rfl (by unfold rg; omega) (by unfold rg; omega) (fun w39 => ?_) (fun w40 => ?_)
                        · refine l_iconst rfl ?_
                          refine l_ireturn rfl rfl ?_
                          exact ⟨hHT1, hFT1, _, rfl, ⟨by omega, by omega⟩⟩
                        · refine l_iload rfl rfl ?_
                          refine l_if_ne rfl rfl (by unfold rg; omega) (fun w41 => absurd w41 (by omega)) (fun w42 => ?_)
                          · refine l_aload_n rfl rfl ?_
                            refine l_aload_n rfl rfl ?_
                            refine l_gfr rfl rfl rfl rfl rfl (hHT1.r 904 20 918 rfl) ?_
                            refine l_aload_n rfl rfl ?_
                            refine l_gfr rfl rfl rfl rfl rfl (hHT1.r 904 13 915 rfl) ?_
                            refine l_iload rfl rfl ?_
                            refine l_iaload (n := 300) rfl rfl (by omega) (by omega) (by unfold rg; omega) ?_
                            have w43 : 0 ≤ (Xi T1 915 ((z30).toNat)) ∧ (Xi T1 915 ((z30).toNat)) ≤ 63 := hHT1.c _ _
                            have x2334 : Xi T1 914 (z30).toNat = 4 → (Xi T1 915 ((z30).toNat)) < Xi T1 904 19 := fun q => by have t := lxm (s := 4) hMc (k := z30) (by omega) (by omega) q; rw [cM4] at t; exact t
                            have x23312 : Xi T1 914 (z30).toNat = 12 → (Xi T1 915 ((z30).toNat)) < 6 := fun q => by have t := lxm (s := 12) hMc (k := z30) (by omega) (by omega) q; rw [cM12] at t; exact t
                            refine l_iaload (n := 24) rfl rfl (by omega) (by omega) (by unfold rg; omega) ?_
                            have w44 : 0 ≤ (Xi T1 918 (((Xi T1 915 ((z30).toNat))).toNat)) ∧ (Xi T1 918 (((Xi T1 915 ((z30).toNat))).toNat)) ≤ 15 := hHT1.c _ _
                            refine l_aload_n rfl rfl ?_
                            refine l_gfr rfl rfl rfl rfl rfl (hHT1.r 904 59 949 rfl) ?_
                            refine l_iload_n rfl rfl ?_
                            refine l_iaload (n := 20) rfl rfl (by omega) (by omega) (by unfold rg; omega) ?_
                            refine l_callV rfl rfl rfl (t_mo_isBelow hHT1 (Xi T1 918 (((Xi T1 915 ((z30).toNat))).toNat)) (Xi T1 949 ((c).toNat)) ⟨by omega, by omega⟩ ⟨by omega, by omega⟩ (by first | assumption | exact (ABV_FR hFT1 rfl (by assumption : ABV S))) _) ?_
                            rintro _ _ ⟨rfl, z46, rfl, w46, w45⟩
                            show Rl _ _ _ _ _ [iv z46] _ _
                            refine l_if_ne rfl rfl (by unfold rg; omega) (fun w47 => ?_) (fun w48 => ?_)
                            · refine l_aload_n rfl rfl ?_
                              refine l_aload_n rfl rfl ?_
                              refine l_gfr rfl rfl rfl rfl rfl (hHT1.r 904 13 915 rfl) ?_
                              refine l_iload rfl rfl ?_
                              refine l_iaload (n := 300) rfl rfl (by omega) (by omega) (by unfold rg; omega) ?_
                              have x2564 : Xi T1 914 (z30).toNat = 4 → (Xi T1 915 ((z30).toNat)) < Xi T1 904 19 := fun q => by have t := lxm (s := 4) hMc (k := z30) (by omega) (by omega) q; rw [cM4] at t; exact t
                              have x25612 : Xi T1 914 (z30).toNat = 12 → (Xi T1 915 ((z30).toNat)) < 6 := fun q => by have t := lxm (s := 12) hMc (k := z30) (by omega) (by omega) q; rw [cM12] at t; exact t
                              refine l_pfi rfl rfl rfl rfl ?_
                              obtain ⟨U2, eU2⟩ : ∃ T : sS, T = uI T1 904 165 (Int32.ofInt (Xi T1 915 ((z30).toNat))) := ⟨_, rfl⟩
                              rw [← eU2]
                              have hHU2 : HI U2 := by rw [eU2]; exact HI_w hHT1 (show -1 ≤ (Xi T1 915 ((z30).toNat)) by omega) (show (Xi T1 915 ((z30).toNat)) ≤ 23 by omega)
                              have hFU2 : FR md_mo_fitsCommand S U2 := by rw [eU2]; exact FR.wI hFT1 (mdf_i (r := (904, 905, 165, 166)) (List.mem_of_getElem? (i := 0) rfl) (inR_i (by omega) (by omega) (by omega) (by omega)))
                              have w49 : Xi U2 904 165 = (Xi T1 915 ((z30).toNat)) := by rw [eU2]; exact Xi_same (by unfold rg; omega)
                              refine l_iload rfl rfl ?_
                              refine l_iload rfl rfl ?_
                              refine l_iadd rfl ?_
                              refine l_istore rfl rfl rfl ?_
                              refine l_iinc rfl rfl rfl rfl ?_
                              refine l_goto rfl rfl ?_
                              exact Rl_weak (ih25 _ (by omega) U2 hHU2 hFU2 (v2) (v3) ((v4 + (1 + v3))) ((v5 + 1)) (by omega) (by omega) (by omega) (by omega) (by omega) rfl) (And.intro rfl (And.intro rfl (And.intro rfl (And.intro rfl (And.intro rfl (And.intro rfl (True.intro)))))))
                            · refine l_iconst rfl ?_
                              refine l_ireturn rfl rfl ?_
                              exact ⟨hHT1, hFT1, _, rfl, ⟨by omega, by omega⟩⟩
                  · refine l_iconst rfl ?_
                    refine l_goto rfl rfl ?_
                    refine l_istore rfl rfl rfl ?_
                    refine l_iload rfl rfl ?_
                    refine l_iconst rfl ?_
                    refine l_icmp_eq rfl rfl (by unfold rg; omega) (by unfold rg; omega) (fun w50 => ?_) (fun w51 => ?_)
                    · refine l_iconst rfl ?_
                      refine l_ireturn rfl rfl ?_
                      exact ⟨hHT1, hFT1, _, rfl, ⟨by omega, by omega⟩⟩
                    · refine l_aload_n rfl rfl ?_
                      refine l_gfr rfl rfl rfl rfl rfl (hHT1.r 904 12 914 rfl) ?_
                      refine l_iload rfl rfl ?_
                      refine l_iaload (n := 300) rfl rfl (by omega) (by omega) (by unfold rg; omega) ?_
                      have w52 : 0 ≤ (Xi T1 914 ((z30).toNat)) ∧ (Xi T1 914 ((z30).toNat)) ≤ 12 := hHT1.c _ _
                      refine l_iload rfl rfl ?_
                      refine l_if_eq rfl rfl (by unfold rg; omega) (fun w53 => absurd w53 (by omega)) (fun w54 => ?_)
                      · refine l_bipush rfl rfl ?_
                        refine l_goto rfl rfl ?_
                        refine l_icmp_ne rfl rfl (by unfold rg; omega) (by unfold rg; omega) (fun w55 => ?_) (fun w56 => ?_)
                        · refine l_iconst rfl ?_
                          refine l_ireturn rfl rfl ?_
                          exact ⟨hHT1, hFT1, _, rfl, ⟨by omega, by omega⟩⟩
                        · refine l_iload rfl rfl ?_
                          refine l_if_ne rfl rfl (by unfold rg; omega) (fun w57 => ?_) (fun w58 => absurd w58 (by omega))
                          · refine l_aload_n rfl rfl ?_
                            refine l_aload_n rfl rfl ?_
                            refine l_gfr rfl rfl rfl rfl rfl (hHT1.r 904 13 915 rfl) ?_
                            refine l_iload rfl rfl ?_
                            refine l_iaload (n := 300) rfl rfl (by omega) (by omega) (by unfold rg; omega) ?_
                            have w59 : 0 ≤ (Xi T1 915 ((z30).toNat)) ∧ (Xi T1 915 ((z30).toNat)) ≤ 63 := hHT1.c _ _
                            have x2564 : Xi T1 914 (z30).toNat = 4 → (Xi T1 915 ((z30).toNat)) < Xi T1 904 19 := fun q => by have t := lxm (s := 4) hMc (k := z30) (by omega) (by omega) q; rw [cM4] at t; exact t
                            have x25612 : Xi T1 914 (z30).toNat = 12 → (Xi T1 915 ((z30).toNat)) < 6 := fun q => by have t := lxm (s := 12) hMc (k := z30) (by omega) (by omega) q; rw [cM12] at t; exact t
                            refine l_pfi rfl rfl rfl rfl ?_
                            obtain ⟨U3, eU3⟩ : ∃ T : sS, T = uI T1 904 165 (Int32.ofInt (Xi T1 915 ((z30).toNat))) := ⟨_, rfl⟩
                            rw [← eU3]
                            have hHU3 : HI U3 := by rw [eU3]; exact HI_w hHT1 (show -1 ≤ (Xi T1 915 ((z30).toNat)) by omega) (show (Xi T1 915 ((z30).toNat)) ≤ 23 by omega)
                            have hFU3 : FR md_mo_fitsCommand S U3 := by rw [eU3]; exact FR.wI hFT1 (mdf_i (r := (904, 905, 165, 166)) (List.mem_of_getElem? (i := 0) rfl) (inR_i (by omega) (by omega) (by omega) (by omega)))
                            have w60 : Xi U3 904 165 = (Xi T1 915 ((z30).toNat)) := by rw [eU3]; exact Xi_same (by unfold rg; omega)
                            refine l_iload rfl rfl ?_
                            refine l_iload rfl rfl ?_
                            refine l_iadd rfl ?_
                            refine l_istore rfl rfl rfl ?_
                            refine l_iinc rfl rfl rfl rfl ?_
                            refine l_goto rfl rfl ?_
                            exact Rl_weak (ih25 _ (by omega) U3 hHU3 hFU3 (v2) (v3) ((v4 + (1 + v3))) ((v5 + 1)) (by omega) (by omega) (by omega) (by omega) (by omega) rfl) (And.intro rfl (And.intro rfl (And.intro rfl (And.intro rfl (And.intro rfl (And.intro rfl (True.intro)))))))
                · refine l_aload_n rfl rfl ?_
                  refine l_gfr rfl rfl rfl rfl rfl (hHT1.r 904 163 995 rfl) ?_
                  refine l_iload rfl rfl ?_
                  refine l_iconst rfl ?_
                  refine l_iadd rfl ?_
                  refine l_laload (n := 50) rfl rfl (by omega) (by omega) (by unfold rg; omega) ?_
                  have w61 : -9223372036854775808 ≤ (Xj T1 995 (((v4 + 2)).toNat)) ∧ (Xj T1 995 (((v4 + 2)).toNat)) < 9223372036854775808 := Xj_rg
                  refine l_goto rfl rfl ?_
                  refine l_iload rfl rfl ?_
                  have w62 : 0 ≤ Xi T1 904 15 ∧ Xi T1 904 15 ≤ 300 := hHT1.c _ _
                  refine l_callV rfl rfl rfl (t_mo_find hHT1 (Xj T1 995 ((v4).toNat)) 0 (Xj T1 995 (((v4 + 2)).toNat)) (1 + v3) ⟨by omega, by omega⟩ _) ?_
                  rintro _ _ ⟨rfl, z64, rfl, w64, w63⟩
                  show Rl _ _ _ _ _ [iv z64] _ _
                  have hMc : LXM T1 := LXM_FR hFT1 rfl hM
                  have hc19 : 0 ≤ Xi T1 904 19 ∧ Xi T1 904 19 ≤ 24 := hHT1.c _ _
                  have hc15 : 0 ≤ Xi T1 904 15 ∧ Xi T1 904 15 ≤ 300 := hHT1.c _ _
                  refine l_istore rfl rfl rfl ?_
                  refine l_aload_n rfl rfl ?_
                  refine l_gfr rfl rfl rfl rfl rfl (hHT1.r 904 59 949 rfl) ?_
                  refine l_iload_n rfl rfl ?_
                  refine l_iaload (n := 20) rfl rfl (by omega) (by omega) (by unfold rg; omega) ?_
                  have w65 : -2 ≤ (Xi T1 949 ((c).toNat)) ∧ (Xi T1 949 ((c).toNat)) ≤ 15 := hHT1.c _ _
                  refine l_bipush rfl rfl ?_
                  refine l_icmp_ne rfl rfl (by unfold rg; omega) (by unfold rg; omega) (fun w66 => ?_) (fun w67 => ?_)
                  · refine l_iconst rfl ?_
                    refine l_istore rfl rfl rfl ?_
                    refine l_iload rfl rfl ?_
                    refine l_iconst rfl ?_
                    refine l_icmp_eq rfl rfl (by unfold rg; omega) (by unfold rg; omega) (fun w68 => ?_) (fun w69 => ?_)
                    · refine l_iconst rfl ?_
                      refine l_ireturn rfl rfl ?_
                      exact ⟨hHT1, hFT1, _, rfl, ⟨by omega, by omega⟩⟩
                    · refine l_aload_n rfl rfl ?_
                      refine l_gfr rfl rfl rfl rfl rfl (hHT1.r 904 12 914 rfl) ?_
                      refine l_iload rfl rfl ?_
                      refine l_iaload (n := 300) rfl rfl (by omega) (by omega) (by unfold rg; omega) ?_
                      have w70 : 0 ≤ (Xi T1 914 ((z64).toNat)) ∧ (Xi T1 914 ((z64).toNat)) ≤ 12 := hHT1.c _ _
                      refine l_iload rfl rfl ?_
                      refine l_if_eq rfl rfl (by unfold rg; omega) (fun w71 => ?_) (fun w72 => absurd w72 (by omega))
                      · refine l_iconst rfl ?_
                        refine l_icmp_ne rfl rfl (by unfold rg; omega) (by unfold rg; omega) (fun w73 => ?_) (fun w74 => ?_)
                        · refine l_iconst rfl ?_
                          refine l_ireturn rfl rfl ?_
                          exact ⟨hHT1, hFT1, _, rfl, ⟨by omega, by omega⟩⟩
                        · refine l_iload rfl rfl ?_
                          refine l_if_ne rfl rfl (by unfold rg; omega) (fun w75 => absurd w75 (by omega)) (fun w76 => ?_)
                          · refine l_aload_n rfl rfl ?_
                            refine l_aload_n rfl rfl ?_
                            refine l_gfr rfl rfl rfl rfl rfl (hHT1.r 904 20 918 rfl) ?_
                            refine l_aload_n rfl rfl ?_
                            refine l_gfr rfl rfl rfl rfl rfl (hHT1.r 904 13 915 rfl) ?_
                            refine l_iload rfl rfl ?_
                            refine l_iaload (n := 300) rfl rfl (by omega) (by omega) (by unfold rg; omega) ?_
                            have w77 : 0 ≤ (Xi T1 915 ((z64).toNat)) ∧ (Xi T1 915 ((z64).toNat)) ≤ 63 := hHT1.c _ _
                            have x2334 : Xi T1 914 (z64).toNat = 4 → (Xi T1 915 ((z64).toNat)) < Xi T1 904 19 := fun q => by have t := lxm (s := 4) hMc (k := z64) (by omega) (by omega) q; rw [cM4] at t; exact t
                            have x23312 : Xi T1 914 (z64).toNat = 12 → (Xi T1 915 ((z64).toNat)) < 6 := fun q => by have t := lxm (s := 12) hMc (k := z64) (by omega) (by omega) q; rw [cM12] at t; exact t
                            refine l_iaload (n := 24) rfl rfl (by omega) (by omega) (by unfold rg; omega) ?_
                            have w78 : 0 ≤ (Xi T1 918 (((Xi T1 915 ((z64).toNat))).toNat)) ∧ (Xi T1 918 (((Xi T1 915 ((z64).toNat))).toNat)) ≤ 15 := hHT1.c _ _
                            refine l_aload_n rfl rfl ?_
                            refine l_gfr rfl rfl rfl rfl rfl (hHT1.r 904 59 949 rfl) ?_
                            refine l_iload_n rfl rfl ?_
                            refine l_iaload (n := 20) rfl rfl (by omega) (by omega) (by unfold rg; omega) ?_
                            refine l_callV rfl rfl rfl (t_mo_isBelow hHT1 (Xi T1 918 (((Xi T1 915 ((z64).toNat))).toNat)) (Xi T1 949 ((c).toNat)) ⟨by omega, by omega⟩ ⟨by omega, by omega⟩ (by first | assumption | exact (ABV_FR hFT1 rfl (by assumption : ABV S))) _) ?_
                            rintro _ _ ⟨rfl, z80, rfl, w80, w79⟩
                            show Rl _ _ _ _ _ [iv z80] _ _
                            refine l_if_ne rfl rfl (by unfold rg; omega) (fun w81 => ?_) (fun w82 => ?_)
                            · refine l_aload_n rfl rfl ?_
                              refine l_aload_n rfl rfl ?_
                              refine l_gfr rfl rfl rfl rfl rfl (hHT1.r 904 13 915 rfl) ?_
                              refine l_iload rfl rfl ?_
                              refine l_iaload (n := 300) rfl rfl (by omega) (by omega) (by unfold rg; omega) ?_
                              have x2564 : Xi T1 914 (z64).toNat = 4 → (Xi T1 915 ((z64).toNat)) < Xi T1 904 19 := fun q => by have t := lxm (s := 4) hMc (k := z64) (by omega) (by omega) q; rw [cM4] at t; exact t
                              have x25612 : Xi T1 914 (z64).toNat = 12 → (Xi T1 915 ((z64).toNat)) < 6 := fun q => by have t := lxm (s := 12) hMc (k := z64) (by omega) (by omega) q; rw [cM12] at t; exact t
                              refine l_pfi rfl rfl rfl rfl ?_
                              obtain ⟨U4, eU4⟩ : ∃ T : sS, T = uI T1 904 165 (Int32.ofInt (Xi T1 915 ((z64).toNat))) := ⟨_, rfl⟩
                              rw [← eU4]
                              have hHU4 : HI U4 := by rw [eU4]; exact HI_w hHT1 (show -1 ≤ (Xi T1 915 ((z64).toNat)) by omega) (show (Xi T1 915 ((z64).toNat)) ≤ 23 by omega)
                              have hFU4 : FR md_mo_fitsCommand S U4 := by rw [eU4]; exact FR.wI hFT1 (mdf_i (r := (904, 905, 165, 166)) (List.mem_of_getElem? (i := 0) rfl) (inR_i (by omega) (by omega) (by omega) (by omega)))
                              have w83 : Xi U4 904 165 = (Xi T1 915 ((z64).toNat)) := by rw [eU4]; exact Xi_same (by unfold rg; omega)
                              refine l_iload rfl rfl ?_
                              refine l_iload rfl rfl ?_
                              refine l_iadd rfl ?_
                              refine l_istore rfl rfl rfl ?_
                              refine l_iinc rfl rfl rfl rfl ?_
                              refine l_goto rfl rfl ?_
                              exact Rl_weak (ih25 _ (by omega) U4 hHU4 hFU4 (v2) (v3) ((v4 + (1 + v3))) ((v5 + 1)) (by omega) (by omega) (by omega) (by omega) (by omega) rfl) (And.intro rfl (And.intro rfl (And.intro rfl (And.intro rfl (And.intro rfl (And.intro rfl (True.intro)))))))
                            · refine l_iconst rfl ?_
                              refine l_ireturn rfl rfl ?_
                              exact ⟨hHT1, hFT1, _, rfl, ⟨by omega, by omega⟩⟩
                  · refine l_iconst rfl ?_
                    refine l_goto rfl rfl ?_
                    refine l_istore rfl rfl rfl ?_
                    refine l_iload rfl rfl ?_
                    refine l_iconst rfl ?_
                    refine l_icmp_eq rfl rfl (by unfold rg; omega) (by unfold rg; omega) (fun w84 => ?_) (fun w85 => ?_)
                    · refine l_iconst rfl ?_
                      refine l_ireturn rfl rfl ?_
                      exact ⟨hHT1, hFT1, _, rfl, ⟨by omega, by omega⟩⟩
                    · refine l_aload_n rfl rfl ?_
                      refine l_gfr rfl rfl rfl rfl rfl (hHT1.r 904 12 914 rfl) ?_
                      refine l_iload rfl rfl ?_
                      refine l_iaload (n := 300) rfl rfl (by omega) (by omega) (by unfold rg; omega) ?_
                      have w86 : 0 ≤ (Xi T1 914 ((z64).toNat)) ∧ (Xi T1 914 ((z64).toNat)) ≤ 12 := hHT1.c _ _
                      refine l_iload rfl rfl ?_
                      refine l_if_eq rfl rfl (by unfold rg; omega) (fun w87 => absurd w87 (by omega)) (fun w88 => ?_)
                      · refine l_bipush rfl rfl ?_
                        refine l_goto rfl rfl ?_
                        refine l_icmp_ne rfl rfl (by unfold rg; omega) (by unfold rg; omega) (fun w89 => ?_) (fun w90 => ?_)
                        · refine l_iconst rfl ?_
                          refine l_ireturn rfl rfl ?_
                          exact ⟨hHT1, hFT1, _, rfl, ⟨by omega, by omega⟩⟩
                        · refine l_iload rfl rfl ?_
                          refine l_if_ne rfl rfl (by unfold rg; omega) (fun w91 => ?_) (fun w92 => absurd w92 (by omega))
                          · refine l_aload_n rfl rfl ?_
                            refine l_aload_n rfl rfl ?_
                            refine l_gfr rfl rfl rfl rfl rfl (hHT1.r 904 13 915 rfl) ?_
                            refine l_iload rfl rfl ?_
                            refine l_iaload (n := 300) rfl rfl (by omega) (by omega) (by unfold rg; omega) ?_
                            have w93 : 0 ≤ (Xi T1 915 ((z64).toNat)) ∧ (Xi T1 915 ((z64).toNat)) ≤ 63 := hHT1.c _ _
                            have x2564 : Xi T1 914 (z64).toNat = 4 → (Xi T1 915 ((z64).toNat)) < Xi T1 904 19 := fun q => by have t := lxm (s := 4) hMc (k := z64) (by omega) (by omega) q; rw [cM4] at t; exact t
                            have x25612 : Xi T1 914 (z64).toNat = 12 → (Xi T1 915 ((z64).toNat)) < 6 := fun q => by have t := lxm (s := 12) hMc (k := z64) (by omega) (by omega) q; rw [cM12] at t; exact t
                            refine l_pfi rfl rfl rfl rfl ?_
                            obtain ⟨U5, eU5⟩ : ∃ T : sS, T = uI T1 904 165 (Int32.ofInt (Xi T1 915 ((z64).toNat))) := ⟨_, rfl⟩
                            rw [← eU5]
                            have hHU5 : HI U5 := by rw [eU5]; exact HI_w hHT1 (show -1 ≤ (Xi T1 915 ((z64).toNat)) by omega) (show (Xi T1 915 ((z64).toNat)) ≤ 23 by omega)
                            have hFU5 : FR md_mo_fitsCommand S U5 := by rw [eU5]; exact FR.wI hFT1 (mdf_i (r := (904, 905, 165, 166)) (List.mem_of_getElem? (i := 0) rfl) (inR_i (by omega) (by omega) (by omega) (by omega)))
                            have w94 : Xi U5 904 165 = (Xi T1 915 ((z64).toNat)) := by rw [eU5]; exact Xi_same (by unfold rg; omega)
                            refine l_iload rfl rfl ?_
                            refine l_iload rfl rfl ?_
                            refine l_iadd rfl ?_
                            refine l_istore rfl rfl rfl ?_
                            refine l_iinc rfl rfl rfl rfl ?_
                            refine l_goto rfl rfl ?_
                            exact Rl_weak (ih25 _ (by omega) U5 hHU5 hFU5 (v2) (v3) ((v4 + (1 + v3))) ((v5 + 1)) (by omega) (by omega) (by omega) (by omega) (by omega) rfl) (And.intro rfl (And.intro rfl (And.intro rfl (And.intro rfl (And.intro rfl (And.intro rfl (True.intro)))))))
              · refine l_aload_n rfl rfl ?_
                refine l_gfr rfl rfl rfl rfl rfl (hHT1.r 904 163 995 rfl) ?_
                refine l_iload rfl rfl ?_
                refine l_iconst rfl ?_
                refine l_iadd rfl ?_
                refine l_laload (n := 50) rfl rfl (by omega) (by omega) (by unfold rg; omega) ?_
                have w95 : -9223372036854775808 ≤ (Xj T1 995 (((v4 + 1)).toNat)) ∧ (Xj T1 995 (((v4 + 1)).toNat)) < 9223372036854775808 := Xj_rg
                refine l_goto rfl rfl ?_
                refine l_iload rfl rfl ?_
                refine l_iconst rfl ?_
                refine l_icmp_le rfl rfl (by unfold rg; omega) (by unfold rg; omega) (fun w96 => ?_) (fun w97 => ?_)
                · refine l_lconst (z := 0) rfl rfl ?_
                  refine l_iload rfl rfl ?_
                  have w98 : 0 ≤ Xi T1 904 15 ∧ Xi T1 904 15 ≤ 300 := hHT1.c _ _
                  refine l_callV rfl rfl rfl (t_mo_find hHT1 (Xj T1 995 ((v4).toNat)) (Xj T1 995 (((v4 + 1)).toNat)) 0 (1 + v3) ⟨by omega, by omega⟩ _) ?_
                  rintro _ _ ⟨rfl, z100, rfl, w100, w99⟩
                  show Rl _ _ _ _ _ [iv z100] _ _
                  have hMc : LXM T1 := LXM_FR hFT1 rfl hM
                  have hc19 : 0 ≤ Xi T1 904 19 ∧ Xi T1 904 19 ≤ 24 := hHT1.c _ _
                  have hc15 : 0 ≤ Xi T1 904 15 ∧ Xi T1 904 15 ≤ 300 := hHT1.c _ _
                  refine l_istore rfl rfl rfl ?_
                  refine l_aload_n rfl rfl ?_
                  refine l_gfr rfl rfl rfl rfl rfl (hHT1.r 904 59 949 rfl) ?_
                  refine l_iload_n rfl rfl ?_
                  refine l_iaload (n := 20) rfl rfl (by omega) (by omega) (by unfold rg; omega) ?_
                  have w101 : -2 ≤ (Xi T1 949 ((c).toNat)) ∧ (Xi T1 949 ((c).toNat)) ≤ 15 := hHT1.c _ _
                  refine l_bipush rfl rfl ?_
                  refine l_icmp_ne rfl rfl (by unfold rg; omega) (by unfold rg; omega) (fun w102 => ?_) (fun w103 => ?_)
                  · refine l_iconst rfl ?_
                    refine l_istore rfl rfl rfl ?_
                    refine l_iload rfl rfl ?_
                    refine l_iconst rfl ?_
                    refine l_icmp_eq rfl rfl (by unfold rg; omega) (by unfold rg; omega) (fun w104 => ?_) (fun w105 => ?_)
                    · refine l_iconst rfl ?_
                      refine l_ireturn rfl rfl ?_
                      exact ⟨hHT1, hFT1, _, rfl, ⟨by omega, by omega⟩⟩
                    · refine l_aload_n rfl rfl ?_
                      refine l_gfr rfl rfl rfl rfl rfl (hHT1.r 904 12 914 rfl) ?_
                      refine l_iload rfl rfl ?_
                      refine l_iaload (n := 300) rfl rfl (by omega) (by omega) (by unfold rg; omega) ?_
                      have w106 : 0 ≤ (Xi T1 914 ((z100).toNat)) ∧ (Xi T1 914 ((z100).toNat)) ≤ 12 := hHT1.c _ _
                      refine l_iload rfl rfl ?_
                      refine l_if_eq rfl rfl (by unfold rg; omega) (fun w107 => ?_) (fun w108 => absurd w108 (by omega))
                      · refine l_iconst rfl ?_
                        refine l_icmp_ne rfl rfl (by unfold rg; omega) (by unfold rg; omega) (fun w109 => ?_) (fun w110 => ?_)
                        · refine l_iconst rfl ?_
                          refine l_ireturn rfl rfl ?_
                          exact ⟨hHT1, hFT1, _, rfl, ⟨by omega, by omega⟩⟩
                        · refine l_iload rfl rfl ?_
                          refine l_if_ne rfl rfl (by unfold rg; omega) (fun w111 => absurd w111 (by omega)) (fun w112 => ?_)
                          · refine l_aload_n rfl rfl ?_
                            refine l_aload_n rfl rfl ?_
                            refine l_gfr rfl rfl rfl rfl rfl (hHT1.r 904 20 918 rfl) ?_
                            refine l_aload_n rfl rfl ?_
                            refine l_gfr rfl rfl rfl rfl rfl (hHT1.r 904 13 915 rfl) ?_
                            refine l_iload rfl rfl ?_
                            refine l_iaload (n := 300) rfl rfl (by omega) (by omega) (by unfold rg; omega) ?_
                            have w113 : 0 ≤ (Xi T1 915 ((z100).toNat)) ∧ (Xi T1 915 ((z100).toNat)) ≤ 63 := hHT1.c _ _
                            have x2334 : Xi T1 914 (z100).toNat = 4 → (Xi T1 915 ((z100).toNat)) < Xi T1 904 19 := fun q => by have t := lxm (s := 4) hMc (k := z100) (by omega) (by omega) q; rw [cM4] at t; exact t
                            have x23312 : Xi T1 914 (z100).toNat = 12 → (Xi T1 915 ((z100).toNat)) < 6 := fun q => by have t := lxm (s := 12) hMc (k := z100) (by omega) (by omega) q; rw [cM12] at t; exact t
                            refine l_iaload (n := 24) rfl rfl (by omega) (by omega) (by unfold rg; omega) ?_
                            have w114 : 0 ≤ (Xi T1 918 (((Xi T1 915 ((z100).toNat))).toNat)) ∧ (Xi T1 918 (((Xi T1 915 ((z100).toNat))).toNat)) ≤ 15 := hHT1.c _ _
                            refine l_aload_n rfl rfl ?_
                            refine l_gfr rfl rfl rfl rfl rfl (hHT1.r 904 59 949 rfl) ?_
                            refine l_iload_n rfl rfl ?_
                            refine l_iaload (n := 20) rfl rfl (by omega) (by omega) (by unfold rg; omega) ?_
                            refine l_callV rfl rfl rfl (t_mo_isBelow hHT1 (Xi T1 918 (((Xi T1 915 ((z100).toNat))).toNat)) (Xi T1 949 ((c).toNat)) ⟨by omega, by omega⟩ ⟨by omega, by omega⟩ (by first | assumption | exact (ABV_FR hFT1 rfl (by assumption : ABV S))) _) ?_
                            rintro _ _ ⟨rfl, z116, rfl, w116, w115⟩
                            show Rl _ _ _ _ _ [iv z116] _ _
                            refine l_if_ne rfl rfl (by unfold rg; omega) (fun w117 => ?_) (fun w118 => ?_)
                            · refine l_aload_n rfl rfl ?_
                              refine l_aload_n rfl rfl ?_
                              refine l_gfr rfl rfl rfl rfl rfl (hHT1.r 904 13 915 rfl) ?_
                              refine l_iload rfl rfl ?_
                              refine l_iaload (n := 300) rfl rfl (by omega) (by omega) (by unfold rg; omega) ?_
                              have x2564 : Xi T1 914 (z100).toNat = 4 → (Xi T1 915 ((z100).toNat)) < Xi T1 904 19 := fun q => by have t := lxm (s := 4) hMc (k := z100) (by omega) (by omega) q; rw [cM4] at t; exact t
                              have x25612 : Xi T1 914 (z100).toNat = 12 → (Xi T1 915 ((z100).toNat)) < 6 := fun q => by have t := lxm (s := 12) hMc (k := z100) (by omega) (by omega) q; rw [cM12] at t; exact t
                              refine l_pfi rfl rfl rfl rfl ?_
                              obtain ⟨U6, eU6⟩ : ∃ T : sS, T = uI T1 904 165 (Int32.ofInt (Xi T1 915 ((z100).toNat))) := ⟨_, rfl⟩
                              rw [← eU6]
                              have hHU6 : HI U6 := by rw [eU6]; exact HI_w hHT1 (show -1 ≤ (Xi T1 915 ((z100).toNat)) by omega) (show (Xi T1 915 ((z100).toNat)) ≤ 23 by omega)
                              have hFU6 : FR md_mo_fitsCommand S U6 := by rw [eU6]; exact FR.wI hFT1 (mdf_i (r := (904, 905, 165, 166)) (List.mem_of_getElem? (i := 0) rfl) (inR_i (by omega) (by omega) (by omega) (by omega)))
                              have w119 : Xi U6 904 165 = (Xi T1 915 ((z100).toNat)) := by rw [eU6]; exact Xi_same (by unfold rg; omega)
                              refine l_iload rfl rfl ?_
                              refine l_iload rfl rfl ?_
                              refine l_iadd rfl ?_
                              refine l_istore rfl rfl rfl ?_
                              refine l_iinc rfl rfl rfl rfl ?_
                              refine l_goto rfl rfl ?_
                              exact Rl_weak (ih25 _ (by omega) U6 hHU6 hFU6 (v2) (v3) ((v4 + (1 + v3))) ((v5 + 1)) (by omega) (by omega) (by omega) (by omega) (by omega) rfl) (And.intro rfl (And.intro rfl (And.intro rfl (And.intro rfl (And.intro rfl (And.intro rfl (True.intro)))))))
                            · refine l_iconst rfl ?_
                              refine l_ireturn rfl rfl ?_
                              exact ⟨hHT1, hFT1, _, rfl, ⟨by omega, by omega⟩⟩
                  · refine l_iconst rfl ?_
                    refine l_goto rfl rfl ?_
                    refine l_istore rfl rfl rfl ?_
                    refine l_iload rfl rfl ?_
                    refine l_iconst rfl ?_
                    refine l_icmp_eq rfl rfl (by unfold rg; omega) (by unfold rg; omega) (fun w120 => ?_) (fun w121 => ?_)
                    · refine l_iconst rfl ?_
                      refine l_ireturn rfl rfl ?_
                      exact ⟨hHT1, hFT1, _, rfl, ⟨by omega, by omega⟩⟩
                    · refine l_aload_n rfl rfl ?_
                      refine l_gfr rfl rfl rfl rfl rfl (hHT1.r 904 12 914 rfl) ?_
                      refine l_iload rfl rfl ?_
                      refine l_iaload (n := 300) rfl rfl (by omega) (by omega) (by unfold rg; omega) ?_
                      have w122 : 0 ≤ (Xi T1 914 ((z100).toNat)) ∧ (Xi T1 914 ((z100).toNat)) ≤ 12 := hHT1.c _ _
                      refine l_iload rfl rfl ?_
                      refine l_if_eq rfl rfl (by unfold rg; omega) (fun w123 => absurd w123 (by omega)) (fun w124 => ?_)
                      · refine l_bipush rfl rfl ?_
                        refine l_goto rfl rfl ?_
                        refine l_icmp_ne rfl rfl (by unfold rg; omega) (by unfold rg; omega) (fun w125 => ?_) (fun w126 => ?_)
                        · refine l_iconst rfl ?_
                          refine l_ireturn rfl rfl ?_
                          exact ⟨hHT1, hFT1, _, rfl, ⟨by omega, by omega⟩⟩
                        · refine l_iload rfl rfl ?_
                          refine l_if_ne rfl rfl (by unfold rg; omega) (fun w127 => ?_) (fun w128 => absurd w128 (by omega))
                          · refine l_aload_n rfl rfl ?_
                            refine l_aload_n rfl rfl ?_
                            refine l_gfr rfl rfl rfl rfl rfl (hHT1.r 904 13 915 rfl) ?_
                            refine l_iload rfl rfl ?_
                            refine l_iaload (n := 300) rfl rfl (by omega) (by omega) (by unfold rg; omega) ?_
                            have w129 : 0 ≤ (Xi T1 915 ((z100).toNat)) ∧ (Xi T1 915 ((z100).toNat)) ≤ 63 := hHT1.c _ _
                            have x2564 : Xi T1 914 (z100).toNat = 4 → (Xi T1 915 ((z100).toNat)) < Xi T1 904 19 := fun q => by have t := lxm (s := 4) hMc (k := z100) (by omega) (by omega) q; rw [cM4] at t; exact t
                            have x25612 : Xi T1 914 (z100).toNat = 12 → (Xi T1 915 ((z100).toNat)) < 6 := fun q => by have t := lxm (s := 12) hMc (k := z100) (by omega) (by omega) q; rw [cM12] at t; exact t
                            refine l_pfi rfl rfl rfl rfl ?_
                            obtain ⟨U7, eU7⟩ : ∃ T : sS, T = uI T1 904 165 (Int32.ofInt (Xi T1 915 ((z100).toNat))) := ⟨_, rfl⟩
                            rw [← eU7]
                            have hHU7 : HI U7 := by rw [eU7]; exact HI_w hHT1 (show -1 ≤ (Xi T1 915 ((z100).toNat)) by omega) (show (Xi T1 915 ((z100).toNat)) ≤ 23 by omega)
                            have hFU7 : FR md_mo_fitsCommand S U7 := by rw [eU7]; exact FR.wI hFT1 (mdf_i (r := (904, 905, 165, 166)) (List.mem_of_getElem? (i := 0) rfl) (inR_i (by omega) (by omega) (by omega) (by omega)))
                            have w130 : Xi U7 904 165 = (Xi T1 915 ((z100).toNat)) := by rw [eU7]; exact Xi_same (by unfold rg; omega)
                            refine l_iload rfl rfl ?_
                            refine l_iload rfl rfl ?_
                            refine l_iadd rfl ?_
                            refine l_istore rfl rfl rfl ?_
                            refine l_iinc rfl rfl rfl rfl ?_
                            refine l_goto rfl rfl ?_
                            exact Rl_weak (ih25 _ (by omega) U7 hHU7 hFU7 (v2) (v3) ((v4 + (1 + v3))) ((v5 + 1)) (by omega) (by omega) (by omega) (by omega) (by omega) rfl) (And.intro rfl (And.intro rfl (And.intro rfl (And.intro rfl (And.intro rfl (And.intro rfl (True.intro)))))))
                · refine l_aload_n rfl rfl ?_
                  refine l_gfr rfl rfl rfl rfl rfl (hHT1.r 904 163 995 rfl) ?_
                  refine l_iload rfl rfl ?_
                  refine l_iconst rfl ?_
                  refine l_iadd rfl ?_
                  refine l_laload (n := 50) rfl rfl (by omega) (by omega) (by unfold rg; omega) ?_
                  have w131 : -9223372036854775808 ≤ (Xj T1 995 (((v4 + 2)).toNat)) ∧ (Xj T1 995 (((v4 + 2)).toNat)) < 9223372036854775808 := Xj_rg
                  refine l_goto rfl rfl ?_
                  refine l_iload rfl rfl ?_
                  have w132 : 0 ≤ Xi T1 904 15 ∧ Xi T1 904 15 ≤ 300 := hHT1.c _ _
                  refine l_callV rfl rfl rfl (t_mo_find hHT1 (Xj T1 995 ((v4).toNat)) (Xj T1 995 (((v4 + 1)).toNat)) (Xj T1 995 (((v4 + 2)).toNat)) (1 + v3) ⟨by omega, by omega⟩ _) ?_
                  rintro _ _ ⟨rfl, z134, rfl, w134, w133⟩
                  show Rl _ _ _ _ _ [iv z134] _ _
                  have hMc : LXM T1 := LXM_FR hFT1 rfl hM
                  have hc19 : 0 ≤ Xi T1 904 19 ∧ Xi T1 904 19 ≤ 24 := hHT1.c _ _
                  have hc15 : 0 ≤ Xi T1 904 15 ∧ Xi T1 904 15 ≤ 300 := hHT1.c _ _
                  refine l_istore rfl rfl rfl ?_
                  refine l_aload_n rfl rfl ?_
                  refine l_gfr rfl rfl rfl rfl rfl (hHT1.r 904 59 949 rfl) ?_
                  refine l_iload_n rfl rfl ?_
                  refine l_iaload (n := 20) rfl rfl (by omega) (by omega) (by unfold rg; omega) ?_
                  have w135 : -2 ≤ (Xi T1 949 ((c).toNat)) ∧ (Xi T1 949 ((c).toNat)) ≤ 15 := hHT1.c _ _
                  refine l_bipush rfl rfl ?_
                  refine l_icmp_ne rfl rfl (by unfold rg; omega) (by unfold rg; omega) (fun w136 => ?_) (fun w137 => ?_)
                  · refine l_iconst rfl ?_
                    refine l_istore rfl rfl rfl ?_
                    refine l_iload rfl rfl ?_
                    refine l_iconst rfl ?_
                    refine l_icmp_eq rfl rfl (by unfold rg; omega) (by unfold rg; omega) (fun w138 => ?_) (fun w139 => ?_)
                    · refine l_iconst rfl ?_
                      refine l_ireturn rfl rfl ?_
                      exact ⟨hHT1, hFT1, _, rfl, ⟨by omega, by omega⟩⟩
                    · refine l_aload_n rfl rfl ?_
                      refine l_gfr rfl rfl rfl rfl rfl (hHT1.r 904 12 914 rfl) ?_
                      refine l_iload rfl rfl ?_
                      refine l_iaload (n := 300) rfl rfl (by omega) (by omega) (by unfold rg; omega) ?_
                      have w140 : 0 ≤ (Xi T1 914 ((z134).toNat)) ∧ (Xi T1 914 ((z134).toNat)) ≤ 12 := hHT1.c _ _
                      refine l_iload rfl rfl ?_
                      refine l_if_eq rfl rfl (by unfold rg; omega) (fun w141 => ?_) (fun w142 => absurd w142 (by omega))
                      · refine l_iconst rfl ?_
                        refine l_icmp_ne rfl rfl (by unfold rg; omega) (by unfold rg; omega) (fun w143 => ?_) (fun w144 => ?_)
                        · refine l_iconst rfl ?_
                          refine l_ireturn rfl rfl ?_
                          exact ⟨hHT1, hFT1, _, rfl, ⟨by omega, by omega⟩⟩
                        · refine l_iload rfl rfl ?_
                          refine l_if_ne rfl rfl (by unfold rg; omega) (fun w145 => absurd w145 (by omega)) (fun w146 => ?_)
                          · refine l_aload_n rfl rfl ?_
                            refine l_aload_n rfl rfl ?_
                            refine l_gfr rfl rfl rfl rfl rfl (hHT1.r 904 20 918 rfl) ?_
                            refine l_aload_n rfl rfl ?_
                            refine l_gfr rfl rfl rfl rfl rfl (hHT1.r 904 13 915 rfl) ?_
                            refine l_iload rfl rfl ?_
                            refine l_iaload (n := 300) rfl rfl (by omega) (by omega) (by unfold rg; omega) ?_
                            have w147 : 0 ≤ (Xi T1 915 ((z134).toNat)) ∧ (Xi T1 915 ((z134).toNat)) ≤ 63 := hHT1.c _ _
                            have x2334 : Xi T1 914 (z134).toNat = 4 → (Xi T1 915 ((z134).toNat)) < Xi T1 904 19 := fun q => by have t := lxm (s := 4) hMc (k := z134) (by omega) (by omega) q; rw [cM4] at t; exact t
                            have x23312 : Xi T1 914 (z134).toNat = 12 → (Xi T1 915 ((z134).toNat)) < 6 := fun q => by have t := lxm (s := 12) hMc (k := z134) (by omega) (by omega) q; rw [cM12] at t; exact t
                            refine l_iaload (n := 24) rfl rfl (by omega) (by omega) (by unfold rg; omega) ?_
                            have w148 : 0 ≤ (Xi T1 918 (((Xi T1 915 ((z134).toNat))).toNat)) ∧ (Xi T1 918 (((Xi T1 915 ((z134).toNat))).toNat)) ≤ 15 := hHT1.c _ _
                            refine l_aload_n rfl rfl ?_
                            refine l_gfr rfl rfl rfl rfl rfl (hHT1.r 904 59 949 rfl) ?_
                            refine l_iload_n rfl rfl ?_
                            refine l_iaload (n := 20) rfl rfl (by omega) (by omega) (by unfold rg; omega) ?_
                            refine l_callV rfl rfl rfl (t_mo_isBelow hHT1 (Xi T1 918 (((Xi T1 915 ((z134).toNat))).toNat)) (Xi T1 949 ((c).toNat)) ⟨by omega, by omega⟩ ⟨by omega, by omega⟩ (by first | assumption | exact (ABV_FR hFT1 rfl (by assumption : ABV S))) _) ?_
                            rintro _ _ ⟨rfl, z150, rfl, w150, w149⟩
                            show Rl _ _ _ _ _ [iv z150] _ _
                            refine l_if_ne rfl rfl (by unfold rg; omega) (fun w151 => ?_) (fun w152 => ?_)
                            · refine l_aload_n rfl rfl ?_
                              refine l_aload_n rfl rfl ?_
                              refine l_gfr rfl rfl rfl rfl rfl (hHT1.r 904 13 915 rfl) ?_
                              refine l_iload rfl rfl ?_
                              refine l_iaload (n := 300) rfl rfl (by omega) (by omega) (by unfold rg; omega) ?_
                              have x2564 : Xi T1 914 (z134).toNat = 4 → (Xi T1 915 ((z134).toNat)) < Xi T1 904 19 := fun q => by have t := lxm (s := 4) hMc (k := z134) (by omega) (by omega) q; rw [cM4] at t; exact t
                              have x25612 : Xi T1 914 (z134).toNat = 12 → (Xi T1 915 ((z134).toNat)) < 6 := fun q => by have t := lxm (s := 12) hMc (k := z134) (by omega) (by omega) q; rw [cM12] at t; exact t
                              refine l_pfi rfl rfl rfl rfl ?_
                              obtain ⟨U8, eU8⟩ : ∃ T : sS, T = uI T1 904 165 (Int32.ofInt (Xi T1 915 ((z134).toNat))) := ⟨_, rfl⟩
                              rw [← eU8]
                              have hHU8 : HI U8 := by rw [eU8]; exact HI_w hHT1 (show -1 ≤ (Xi T1 915 ((z134).toNat)) by omega) (show (Xi T1 915 ((z134).toNat)) ≤ 23 by omega)
                              have hFU8 : FR md_mo_fitsCommand S U8 := by rw [eU8]; exact FR.wI hFT1 (mdf_i (r := (904, 905, 165, 166)) (List.mem_of_getElem? (i := 0) rfl) (inR_i (by omega) (by omega) (by omega) (by omega)))
                              have w153 : Xi U8 904 165 = (Xi T1 915 ((z134).toNat)) := by rw [eU8]; exact Xi_same (by unfold rg; omega)
                              refine l_iload rfl rfl ?_
                              refine l_iload rfl rfl ?_
                              refine l_iadd rfl ?_
                              refine l_istore rfl rfl rfl ?_
                              refine l_iinc rfl rfl rfl rfl ?_
                              refine l_goto rfl rfl ?_
                              exact Rl_weak (ih25 _ (by omega) U8 hHU8 hFU8 (v2) (v3) ((v4 + (1 + v3))) ((v5 + 1)) (by omega) (by omega) (by omega) (by omega) (by omega) rfl) (And.intro rfl (And.intro rfl (And.intro rfl (And.intro rfl (And.intro rfl (And.intro rfl (True.intro)))))))
                            · refine l_iconst rfl ?_
                              refine l_ireturn rfl rfl ?_
                              exact ⟨hHT1, hFT1, _, rfl, ⟨by omega, by omega⟩⟩
                  · refine l_iconst rfl ?_
                    refine l_goto rfl rfl ?_
                    refine l_istore rfl rfl rfl ?_
                    refine l_iload rfl rfl ?_
                    refine l_iconst rfl ?_
                    refine l_icmp_eq rfl rfl (by unfold rg; omega) (by unfold rg; omega) (fun w154 => ?_) (fun w155 => ?_)
                    · refine l_iconst rfl ?_
                      refine l_ireturn rfl rfl ?_
                      exact ⟨hHT1, hFT1, _, rfl, ⟨by omega, by omega⟩⟩
                    · refine l_aload_n rfl rfl ?_
                      refine l_gfr rfl rfl rfl rfl rfl (hHT1.r 904 12 914 rfl) ?_
                      refine l_iload rfl rfl ?_
                      refine l_iaload (n := 300) rfl rfl (by omega) (by omega) (by unfold rg; omega) ?_
                      have w156 : 0 ≤ (Xi T1 914 ((z134).toNat)) ∧ (Xi T1 914 ((z134).toNat)) ≤ 12 := hHT1.c _ _
                      refine l_iload rfl rfl ?_
                      refine l_if_eq rfl rfl (by unfold rg; omega) (fun w157 => absurd w157 (by omega)) (fun w158 => ?_)
                      · refine l_bipush rfl rfl ?_
                        refine l_goto rfl rfl ?_
                        refine l_icmp_ne rfl rfl (by unfold rg; omega) (by unfold rg; omega) (fun w159 => ?_) (fun w160 => ?_)
                        · refine l_iconst rfl ?_
                          refine l_ireturn rfl rfl ?_
                          exact ⟨hHT1, hFT1, _, rfl, ⟨by omega, by omega⟩⟩
                        · refine l_iload rfl rfl ?_
                          refine l_if_ne rfl rfl (by unfold rg; omega) (fun w161 => ?_) (fun w162 => absurd w162 (by omega))
                          · refine l_aload_n rfl rfl ?_
                            refine l_aload_n rfl rfl ?_
                            refine l_gfr rfl rfl rfl rfl rfl (hHT1.r 904 13 915 rfl) ?_
                            refine l_iload rfl rfl ?_
                            refine l_iaload (n := 300) rfl rfl (by omega) (by omega) (by unfold rg; omega) ?_
                            have w163 : 0 ≤ (Xi T1 915 ((z134).toNat)) ∧ (Xi T1 915 ((z134).toNat)) ≤ 63 := hHT1.c _ _
                            have x2564 : Xi T1 914 (z134).toNat = 4 → (Xi T1 915 ((z134).toNat)) < Xi T1 904 19 := fun q => by have t := lxm (s := 4) hMc (k := z134) (by omega) (by omega) q; rw [cM4] at t; exact t
                            have x25612 : Xi T1 914 (z134).toNat = 12 → (Xi T1 915 ((z134).toNat)) < 6 := fun q => by have t := lxm (s := 12) hMc (k := z134) (by omega) (by omega) q; rw [cM12] at t; exact t
                            refine l_pfi rfl rfl rfl rfl ?_
                            obtain ⟨U9, eU9⟩ : ∃ T : sS, T = uI T1 904 165 (Int32.ofInt (Xi T1 915 ((z134).toNat))) := ⟨_, rfl⟩
                            rw [← eU9]
                            have hHU9 : HI U9 := by rw [eU9]; exact HI_w hHT1 (show -1 ≤ (Xi T1 915 ((z134).toNat)) by omega) (show (Xi T1 915 ((z134).toNat)) ≤ 23 by omega)
                            have hFU9 : FR md_mo_fitsCommand S U9 := by rw [eU9]; exact FR.wI hFT1 (mdf_i (r := (904, 905, 165, 166)) (List.mem_of_getElem? (i := 0) rfl) (inR_i (by omega) (by omega) (by omega) (by omega)))
                            have w164 : Xi U9 904 165 = (Xi T1 915 ((z134).toNat)) := by rw [eU9]; exact Xi_same (by unfold rg; omega)
                            refine l_iload rfl rfl ?_
                            refine l_iload rfl rfl ?_
                            refine l_iadd rfl ?_
                            refine l_istore rfl rfl rfl ?_
                            refine l_iinc rfl rfl rfl rfl ?_
                            refine l_goto rfl rfl ?_
                            exact Rl_weak (ih25 _ (by omega) U9 hHU9 hFU9 (v2) (v3) ((v4 + (1 + v3))) ((v5 + 1)) (by omega) (by omega) (by omega) (by omega) (by omega) rfl) (And.intro rfl (And.intro rfl (And.intro rfl (And.intro rfl (And.intro rfl (And.intro rfl (True.intro)))))))
            · refine l_iconst rfl ?_
              refine l_ireturn rfl rfl ?_
              exact ⟨hHT1, hFT1, _, rfl, ⟨by omega, by omega⟩⟩
      · refine l_iload rfl rfl ?_
        refine l_aload_n rfl rfl ?_
        refine l_gfi rfl rfl rfl rfl rfl ?_
        have w165 : 0 ≤ (Xi T1 904 164) ∧ (Xi T1 904 164) ≤ 50 := hHT1.c _ _
        refine l_icmp_ge rfl rfl (by unfold rg; omega) (by unfold rg; omega) (fun w166 => ?_) (fun w167 => ?_)
        · refine l_iconst rfl ?_
          refine l_ireturn rfl rfl ?_
          exact ⟨hHT1, hFT1, _, rfl, ⟨by omega, by omega⟩⟩
        · refine l_aload_n rfl rfl ?_
          refine l_gfr rfl rfl rfl rfl rfl (hHT1.r 904 163 995 rfl) ?_
          refine l_iload rfl rfl ?_
          refine l_laload (n := 50) rfl rfl (by omega) (by omega) (by unfold rg; omega) ?_
          have w168 : -9223372036854775808 ≤ (Xj T1 995 ((v4).toNat)) ∧ (Xj T1 995 ((v4).toNat)) < 9223372036854775808 := Xj_rg
          refine l_aload_n rfl rfl ?_
          refine l_gfr rfl rfl rfl rfl rfl (hHT1.r 904 58 948 rfl) ?_
          refine l_bipush rfl rfl ?_
          refine l_iload_n rfl rfl ?_
          refine l_imul rfl ?_
          refine l_iload rfl rfl ?_
          refine l_iadd rfl ?_
          refine l_laload (n := 160) rfl rfl (by omega) (by omega) (by unfold rg; omega) ?_
          have w169 : -9223372036854775808 ≤ (Xj T1 948 ((((8 * c) + v5)).toNat)) ∧ (Xj T1 948 ((((8 * c) + v5)).toNat)) < 9223372036854775808 := Xj_rg
          refine l_lcmpA rfl (fun c170 w170 => ?_)
          refine l_if_eq rfl rfl (by unfold rg; omega) (fun w171 => ?_) (fun w172 => ?_)
          · refine l_iinc rfl rfl rfl rfl ?_
            refine l_goto rfl rfl ?_
            refine l_iinc rfl rfl rfl rfl ?_
            refine l_goto rfl rfl ?_
            exact Rl_weak (ih25 _ (by omega) T1 hHT1 hFT1 (v2) (v3) ((v4 + 1)) ((v5 + 1)) (by omega) (by omega) (by omega) (by omega) (by omega) rfl) (And.intro rfl (And.intro rfl (And.intro rfl (And.intro rfl (And.intro rfl (And.intro rfl (True.intro)))))))
          · refine l_iconst rfl ?_
            refine l_ireturn rfl rfl ?_
            exact ⟨hHT1, hFT1, _, rfl, ⟨by omega, by omega⟩⟩
set_option maxRecDepth 100000 in
theorem t_mo_fitsCommand {S : sS} (hH : HI S) (c : Int) (hc : 0 ≤ c ∧ c ≤ 19) (hM : LXM S) (hB : ABV S) (d : Nat) : Mt lay0 (d + 2) m_mo_fitsCommand [.ref 904, iv c] S (Q_mo_fitsCommand S c) := by
  refine Mt_R rfl rfl ?_
  have C25 := c25_mo_fitsCommand hH c hc hM hB d 
  have hF : FR md_mo_fitsCommand S S := FR.rf
  refine l_aload_n rfl rfl ?_
  refine l_gfr rfl rfl rfl rfl rfl (hH.r 904 57 947 rfl) ?_
  refine l_iload_n rfl rfl ?_
  refine l_iaload (n := 20) rfl rfl (by omega) (by omega) (by unfold rg; omega) ?_
  have w173 : 0 ≤ (Xi S 947 ((c).toNat)) ∧ (Xi S 947 ((c).toNat)) ≤ 8 := hH.c _ _
  refine l_istore_n rfl rfl rfl ?_
  refine l_aload_n rfl rfl ?_
  refine l_gfi rfl rfl rfl rfl rfl ?_
  have w174 : 0 ≤ (Xi S 904 164) ∧ (Xi S 904 164) ≤ 50 := hH.c _ _
  refine l_iload_n rfl rfl ?_
  refine l_isub rfl ?_
  refine l_istore_n rfl rfl rfl ?_
  refine l_iconst rfl ?_
  refine l_istore rfl rfl rfl ?_
  refine l_aload_n rfl rfl ?_
  refine l_iconst rfl ?_
  refine l_pfi rfl rfl rfl rfl ?_
  obtain ⟨U10, eU10⟩ : ∃ T : sS, T = uI S 904 165 (Int32.ofInt (-1)) := ⟨_, rfl⟩
  rw [← eU10]
  have hHU10 : HI U10 := by rw [eU10]; exact HI_w hH (show -1 ≤ (-1) by omega) (show (-1) ≤ 23 by omega)
  have hFU10 : FR md_mo_fitsCommand S U10 := by rw [eU10]; exact FR.wI hF (mdf_i (r := (904, 905, 165, 166)) (List.mem_of_getElem? (i := 0) rfl) (inR_i (by omega) (by omega) (by omega) (by omega)))
  have w175 : Xi U10 904 165 = (-1) := by rw [eU10]; exact Xi_same (by unfold rg; omega)
  refine l_iconst rfl ?_
  refine l_istore rfl rfl rfl ?_
  exact Rl_weak (C25 _ U10 hHU10 hFU10 ((Xi S 947 ((c).toNat))) (((Xi S 904 164) - (Xi S 947 ((c).toNat)))) (0) (0) (by omega) (by omega) (by omega) (by omega) (by omega) rfl) (And.intro rfl (And.intro rfl (And.intro rfl (And.intro rfl (And.intro rfl (And.intro rfl (True.intro)))))))
/-! SAFETY of methods: printed by wip/safe (vc.py, decl.py) -/
def md_mo_act : List rec := [(904, 905, 154, 155), (904, 905, 156, 157), (904, 905, 158, 159), (904, 905, 160, 161), (904, 905, 161, 162), (904, 905, 162, 163), (919, 920, 0, 100000), (920, 921, 0, 100000), (925, 926, 0, 100000), (930, 931, 0, 100000), (931, 932, 0, 100000), (932, 933, 0, 100000), (940, 941, 0, 100000), (993, 994, 0, 100000), (994, 995, 0, 100000)]
abbrev Q_mo_act (S : sS) (a : Int) (noun : Int) : pst := fun r S1 => HI S1 ∧ FR md_mo_act S S1 ∧ (∃ z : Int, r = some (iv z) ∧ (-1 ≤ z ∧ z ≤ 5) ∧ (TXM S1) ∧ (WYM S1))
/-! SAFETY of the reference: its tokens and where it reads -/
def K3 (t : Int) : Prop := t = 116 ∨ t = 135 ∨ (137 ≤ t ∧ t ≤ 141) ∨ (143 ≤ t ∧ t ≤ 149)
def TK (S : sS) (n : Nat) : Prop := n ≤ 5000 ∧ Xi S 907 n = 1 ∧ (∀ i : Nat, i < n → Xi S 907 i ≠ 1) ∧ ∀ i : Nat, i < n → Xi S 908 i < Xi S 908 (i + 1) ∧ (K3 (Xi S 907 i) → Xi S 908 i + 3 ≤ Xi S 908 (i + 1))
theorem TK_FR {l : List rec} {S T : sS} {n : Nat} (h : FR l S T) (e : kdis l [(907, 909)] = true) (hT : TK S n) : TK T n := by
  have k := h.smk e
  unfold TK
  simp only [k.x 907 rfl, k.x 908 rfl]
  exact hT
def AT (S : sS) (n c : Nat) : Prop := Xi S 904 65 = 0 → Xi S 904 8 ≤ n ∧ 2 * Xi S 904 69 ≤ Xi S 904 8 + 1 ∧ (Xi S 907 (Xi S 904 8).toNat = 3 → 2 * Xi S 904 69 ≤ Xi S 904 8) ∧ 3 * (Xi S 904 93 + c) ≤ Xi S 908 (Xi S 904 8).toNat
theorem AT_FR {l : List rec} {S T : sS} {n c : Nat} (h : FR l S T) (e : (kdis l [(907, 909)] && mD l [8, 65, 69, 93]) = true) (hA : AT S n c) : AT T n c := by
  rw [Bool.and_eq_true] at e
  have k := h.smk e.1
  unfold AT
  rw [mD_x h e.2 8 (by decide), mD_x h e.2 65 (by decide), mD_x h e.2 69 (by decide), mD_x h e.2 93 (by decide), k.x 907 rfl, k.x 908 rfl]
  exact hA
theorem AT_bad {S : sS} {n c : Nat} (h : Xi S 904 65 ≠ 0) : AT S n c := fun q => absurd q h
theorem AT.le {S : sS} {n c c2 : Nat} (h : AT S n c) (hc : c2 ≤ c) : AT S n c2 := fun q => by
  obtain ⟨a, b, e, f⟩ := h q
  exact ⟨a, b, e, by omega⟩
theorem tk_lt {S : sS} {n : Nat} {a : Int} (hT : TK S n) (h0 : 0 ≤ a) (ha : a ≤ n) (h : Xi S 907 a.toNat ≠ 1) : a < n := by
  rcases (by omega : a < n ∨ a.toNat = n) with q | q
  · exact q
  · rw [q] at h; exact absurd hT.2.1 h
theorem at_up {S U : sS} {n c c2 : Nat} {v : Int} (hT : TK S n) (hA : AT S n c) (e : U = uI S 904 8 (Int32.ofInt v)) (hv : v = Xi S 904 8 + 1) (h0 : 0 ≤ Xi S 904 8) (hb : Xi S 904 65 = 0) (h1 : Xi S 907 (Xi S 904 8).toNat ≠ 1) (hc : c2 = c ∨ (c2 = c + 1 ∧ K3 (Xi S 907 (Xi S 904 8).toNat))) : AT U n c2 := fun _ => by
  obtain ⟨a, b, d, f⟩ := hA hb
  have hn := hT.1
  have lt := tk_lt hT h0 a h1
  have x8 : Xi U 904 8 = Xi S 904 8 + 1 := by rw [e, hv]; exact Xi_same ⟨by omega, by omega⟩
  have x69 : Xi U 904 69 = Xi S 904 69 := by rw [e, Xi_ne (by omega)]
  have x93 : Xi U 904 93 = Xi S 904 93 := by rw [e, Xi_ne (by omega)]
  have x7 : ∀ j, Xi U 907 j = Xi S 907 j := fun j => by rw [e, Xi_ne (by omega)]
  have x908 : ∀ j, Xi U 908 j = Xi S 908 j := fun j => by rw [e, Xi_ne (by omega)]
  have p := hT.2.2.2 (Xi S 904 8).toNat (by omega)
  rw [x8, x69, x93, x7, x908, show (Xi S 904 8 + 1).toNat = (Xi S 904 8).toNat + 1 by omega]
  have r2 : 2 * Xi S 904 69 ≤ Xi S 904 8 + 1 := b
  refine ⟨by omega, by omega, fun _ => by omega, ?_⟩
  rcases hc with q | ⟨q, k⟩
  · have := p.1; omega
  · have := p.2 k; omega
/-- the runs of the sentence lie within its tokens -/
def RNV (S : sS) (n : Nat) : Prop := ∀ r : Nat, (r : Int) < Xi S 904 69 → Xi S 950 r + Xi S 951 r ≤ n ∧ 1 ≤ Xi S 951 r
theorem RNV_FR {l : List rec} {S T : sS} {n : Nat} (h : FR l S T) (e : (kdis l [(950, 952)] && mD l [69]) = true) (hv : RNV S n) : RNV T n := by
  rw [Bool.and_eq_true] at e
  have k := h.smk e.1
  unfold RNV
  rw [mD_x h e.2 69 (by decide)]
  simp only [k.x 950 rfl, k.x 951 rfl]
  exact hv
theorem rnv_add {S T U2 U3 : sS} {n i : Nat} {m x y : Int} (hv : RNV S n) (k : ∀ r : Nat, (r : Int) < m → Xi T 950 r = Xi S 950 r) (l : ∀ r, Xi T 951 r = Xi S 951 r) (hm : m = Xi S 904 69) (e2 : U2 = uI T 951 i (Int32.ofInt x)) (hi : i = m.toNat) (e3 : U3 = uI U2 904 69 (Int32.ofInt y)) (hy : y = m + 1) (hx : 1 ≤ x) (hf : Xi T 950 m.toNat + x ≤ n) (h0 : 0 ≤ m ∧ m ≤ 2599) (hg : 0 ≤ Xi T 950 m.toNat) (hn : n ≤ 5000) : RNV U3 n := fun r hr => by
  have x69 : Xi U3 904 69 = m + 1 := by rw [e3, hy]; exact Xi_same ⟨by omega, by omega⟩
  have y0 : Xi U3 950 r = Xi T 950 r := by rw [e3, Xi_ne (by omega), e2, Xi_ne (by omega)]
  rw [x69] at hr
  by_cases q : r = i
  · have y1 : Xi U3 951 r = x := by rw [e3, Xi_ne (by omega), e2, q]; exact Xi_same ⟨by omega, by omega⟩
    rw [y0, y1, q, hi]
    exact ⟨hf, hx⟩
  · have y1 : Xi U3 951 r = Xi S 951 r := by rw [e3, Xi_ne (by omega), e2, Xi_ne (by omega)]; exact l r
    rw [y0, y1, k r (by omega)]
    exact hv r (by omega)
theorem at_run {S B U : sS} {n c : Nat} (x8 : Xi U 904 8 = Xi B 904 8) (hn : Xi B 904 8 ≤ n) (hr : 2 * Xi U 904 69 ≤ Xi B 904 8 + 1) (x7 : ∀ j, Xi U 907 j = Xi S 907 j) (x9 : ∀ j, Xi U 908 j = Xi S 908 j) (h3 : Xi S 907 (Xi B 904 8).toNat ≠ 3) (x93 : Xi U 904 93 = Xi S 904 93) (hp : 3 * (Xi S 904 93 + c) ≤ Xi S 908 (Xi B 904 8).toNat) : AT U n c := fun _ => by
  rw [x8, x7, x9, x93]
  exact ⟨hn, hr, fun q => absurd q h3, hp⟩
theorem pl_up {S : sS} {n : Nat} {a x : Int} (hT : TK S n) (h0 : 0 ≤ a) (ha : a < n) (h : x ≤ Xi S 908 a.toNat) : x ≤ Xi S 908 (a + 1).toNat := by
  have p := (hT.2.2.2 a.toNat (by omega)).1
  rw [show (a + 1).toNat = a.toNat + 1 by omega]
  omega
theorem at_same {S U : sS} {n c : Nat} {v : Int} (hA : AT S n c) (e : U = uI S 904 8 (Int32.ofInt v)) (hv : v = Xi S 904 8) (h8 : 0 ≤ Xi S 904 8 ∧ Xi S 904 8 ≤ 5010) : AT U n c := by
  have x8 : Xi U 904 8 = Xi S 904 8 := by rw [e, hv]; exact Xi_same ⟨by omega, by omega⟩
  have x : ∀ j, j ≠ 8 → Xi U 904 j = Xi S 904 j := fun j hj => by rw [e, Xi_ne (by omega)]
  have x7 : ∀ j, Xi U 907 j = Xi S 907 j := fun j => by rw [e, Xi_ne (by omega)]
  have x9 : ∀ j, Xi U 908 j = Xi S 908 j := fun j => by rw [e, Xi_ne (by omega)]
  unfold AT
  rw [x8, x 65 (by decide), x 69 (by decide), x 93 (by decide), x7, x9]
  exact hA
theorem at_up2 {S U : sS} {n c : Nat} {v : Int} (hT : TK S n) (hA : AT S n c) (e : U = uI S 904 8 (Int32.ofInt v)) (hv : v = Xi S 904 8 + 2) (h0 : 0 ≤ Xi S 904 8) (hb : Xi S 904 65 = 0) (h1 : Xi S 907 (Xi S 904 8).toNat ≠ 1) (h2 : Xi S 907 (Xi S 904 8 + 1).toNat ≠ 1) : AT U n c ∧ Xi U 904 8 ≤ n := by
  obtain ⟨a, b, d, f⟩ := hA hb
  have hn := hT.1
  have lt := tk_lt hT h0 a h1
  have lt2 := tk_lt hT (a := Xi S 904 8 + 1) (by omega) (by omega) h2
  have x8 : Xi U 904 8 = Xi S 904 8 + 2 := by rw [e, hv]; exact Xi_same ⟨by omega, by omega⟩
  have x69 : Xi U 904 69 = Xi S 904 69 := by rw [e, Xi_ne (by omega)]
  have x93 : Xi U 904 93 = Xi S 904 93 := by rw [e, Xi_ne (by omega)]
  have x908 : ∀ j, Xi U 908 j = Xi S 908 j := fun j => by rw [e, Xi_ne (by omega)]
  have p := (hT.2.2.2 (Xi S 904 8).toNat (by omega)).1
  have p2 := (hT.2.2.2 ((Xi S 904 8).toNat + 1) (by omega)).1
  refine ⟨fun _ => ?_, by omega⟩
  rw [x8, x69, x93, x908, show (Xi S 904 8 + 2).toNat = (Xi S 904 8).toNat + 1 + 1 by omega]
  exact ⟨by omega, by omega, fun _ => by omega, by omega⟩
abbrev Q_mo_look (S : sS) (n : Nat) (c : Nat) : pst := fun r S1 => S = S1 ∧ (∃ z : Int, r = some (iv z) ∧ (0 ≤ z ∧ z ≤ 154) ∧ (z ≠ 1 → Xi S 904 65 = 0 ∧ Xi S 907 (Xi S 904 8).toNat = z))
set_option maxRecDepth 100000 in
theorem t_mo_look {S : sS} (hH : HI S) (n : Nat) (c : Nat) (hT : TK S n) (hA : AT S n c) (d : Nat) : Mt lay0 (d + 1) m_mo_look [.ref 904] S (Q_mo_look S n c) := by
  refine Mt_R rfl rfl ?_
  have w1 : 0 ≤ Xi S 904 65 ∧ Xi S 904 65 ≤ 1 := hH.c _ _
  have w2 : 0 ≤ Xi S 904 8 ∧ Xi S 904 8 ≤ 5010 := hH.c _ _
  have hn5 := hT.1
  have hat := hA
  have h8 : 0 ≤ Xi S 904 8 ∧ Xi S 904 8 ≤ 5010 := hH.c _ _
  have h69 : 0 ≤ Xi S 904 69 ∧ Xi S 904 69 ≤ 2600 := hH.c _ _
  have ha0 : Xi S 904 65 = 0 → Xi S 904 8 ≤ n := fun q => (hA q).1
  have ha3 : Xi S 904 65 = 0 → 2 * Xi S 904 69 ≤ Xi S 904 8 + 1 := fun q => (hA q).2.1
  clear hat
  refine l_aload_n rfl rfl ?_
  refine l_gfi rfl rfl rfl rfl rfl ?_
  refine l_if_eq rfl rfl (by unfold rg; omega) (fun w3 => ?_) (fun w4 => ?_)
  · refine l_aload_n rfl rfl ?_
    refine l_gfr rfl rfl rfl rfl rfl (hH.r 904 4 907 rfl) ?_
    refine l_aload_n rfl rfl ?_
    refine l_gfi rfl rfl rfl rfl rfl ?_
    refine l_iaload (n := 5002) rfl rfl (by omega) (by omega) (by unfold rg; omega) ?_
    have w5 : 0 ≤ (Xi S 907 (((Xi S 904 8)).toNat)) ∧ (Xi S 907 (((Xi S 904 8)).toNat)) ≤ 154 := hH.c _ _
    refine l_ireturn rfl rfl ?_
    exact ⟨rfl, _, rfl, ⟨by omega, by omega⟩, (by first | assumption | omega)⟩
  · refine l_iconst rfl ?_
    refine l_goto rfl rfl ?_
    refine l_ireturn rfl rfl ?_
    exact ⟨rfl, _, rfl, ⟨by omega, by omega⟩, (by first | assumption | omega)⟩
abbrev Q_mo_isNext (S : sS) (n : Nat) (c : Nat) (k : Int) : pst := fun r S1 => S = S1 ∧ (∃ z : Int, r = some (iv z) ∧ (0 ≤ z ∧ z ≤ 1) ∧ (z = 1 → Xi S 904 65 = 0 ∧ Xi S 907 (Xi S 904 8).toNat = k) ∧ (z = 0 → Xi S 904 65 = 0 → Xi S 907 (Xi S 904 8).toNat ≠ k))
set_option maxRecDepth 100000 in
theorem t_mo_isNext {S : sS} (hH : HI S) (n : Nat) (c : Nat) (k : Int) (hk : -2147483648 ≤ k ∧ k ≤ 2147483647) (hT : TK S n) (hA : AT S n c) (d : Nat) : Mt lay0 (d + 1) m_mo_isNext [.ref 904, iv k] S (Q_mo_isNext S n c k) := by
  refine Mt_R rfl rfl ?_
  have w1 : 0 ≤ Xi S 904 65 ∧ Xi S 904 65 ≤ 1 := hH.c _ _
  have w2 : 0 ≤ Xi S 904 8 ∧ Xi S 904 8 ≤ 5010 := hH.c _ _
  have hn5 := hT.1
  have hat := hA
  have h8 : 0 ≤ Xi S 904 8 ∧ Xi S 904 8 ≤ 5010 := hH.c _ _
  have h69 : 0 ≤ Xi S 904 69 ∧ Xi S 904 69 ≤ 2600 := hH.c _ _
  have ha0 : Xi S 904 65 = 0 → Xi S 904 8 ≤ n := fun q => (hA q).1
  have ha3 : Xi S 904 65 = 0 → 2 * Xi S 904 69 ≤ Xi S 904 8 + 1 := fun q => (hA q).2.1
  clear hat
  refine l_aload_n rfl rfl ?_
  refine l_gfi rfl rfl rfl rfl rfl ?_
  refine l_if_ne rfl rfl (by unfold rg; omega) (fun w3 => ?_) (fun w4 => ?_)
  · refine l_iconst rfl ?_
    refine l_ireturn rfl rfl ?_
    exact ⟨rfl, _, rfl, ⟨by omega, by omega⟩, (by first | assumption | omega), (by first | assumption | omega)⟩
  · refine l_aload_n rfl rfl ?_
    refine l_gfr rfl rfl rfl rfl rfl (hH.r 904 4 907 rfl) ?_
    refine l_aload_n rfl rfl ?_
    refine l_gfi rfl rfl rfl rfl rfl ?_
    refine l_iaload (n := 5002) rfl rfl (by omega) (by omega) (by unfold rg; omega) ?_
    have w5 : 0 ≤ (Xi S 907 (((Xi S 904 8)).toNat)) ∧ (Xi S 907 (((Xi S 904 8)).toNat)) ≤ 154 := hH.c _ _
    refine l_iload_n rfl rfl ?_
    refine l_icmp_ne rfl rfl (by unfold rg; omega) (by unfold rg; omega) (fun w6 => ?_) (fun w7 => ?_)
    · refine l_iconst rfl ?_
      refine l_ireturn rfl rfl ?_
      exact ⟨rfl, _, rfl, ⟨by omega, by omega⟩, (by first | assumption | omega), (by first | assumption | omega)⟩
    · refine l_iconst rfl ?_
      refine l_goto rfl rfl ?_
      refine l_ireturn rfl rfl ?_
      exact ⟨rfl, _, rfl, ⟨by omega, by omega⟩, (by first | assumption | omega), (by first | assumption | omega)⟩
def md_mo_odd : List rec := [(904, 905, 65, 66), (904, 905, 66, 67)]
def md_mo_take : List rec := [(904, 905, 8, 9), (904, 905, 65, 66), (904, 905, 66, 67)]
def md_mo_run : List rec := [(904, 905, 8, 9), (904, 905, 65, 66), (904, 905, 66, 67), (904, 905, 69, 70), (950, 951, 0, 100000), (951, 952, 0, 100000)]
def md_mo_name : List rec := [(904, 905, 8, 9), (904, 905, 65, 66), (904, 905, 66, 67), (904, 905, 69, 70), (950, 951, 0, 100000), (951, 952, 0, 100000)]
def md_mo_isMore : List rec := [(904, 905, 8, 9)]
abbrev Q_mo_isMore (S : sS) (n : Nat) (c : Nat) : pst := fun r S1 => HI S1 ∧ FR md_mo_isMore S S1 ∧ (∃ z : Int, r = some (iv z) ∧ (0 ≤ z ∧ z ≤ 1) ∧ (AT S1 n c) ∧ (Xi S 904 8 ≤ Xi S1 904 8 ∧ (Xi S1 904 8 ≤ n ∨ Xi S1 904 8 = Xi S 904 8)) ∧ (z = 1 → Xi S 904 8 < Xi S1 904 8) ∧ (Xi S1 904 65 = Xi S 904 65))
set_option maxRecDepth 100000 in
theorem t_mo_isMore {S : sS} (hH : HI S) (n : Nat) (c : Nat) (hT : TK S n) (hA : AT S n c) (d : Nat) : Mt lay0 (d + 2) m_mo_isMore [.ref 904] S (Q_mo_isMore S n c) := by
  refine Mt_R rfl rfl ?_
  have hF : FR md_mo_isMore S S := FR.rf
  have w1 : 0 ≤ Xi S 904 65 ∧ Xi S 904 65 ≤ 1 := hH.c _ _
  have w2 : 0 ≤ Xi S 904 8 ∧ Xi S 904 8 ≤ 5010 := hH.c _ _
  have hn5 := hT.1
  have hat := hA
  have h8 : 0 ≤ Xi S 904 8 ∧ Xi S 904 8 ≤ 5010 := hH.c _ _
  have h69 : 0 ≤ Xi S 904 69 ∧ Xi S 904 69 ≤ 2600 := hH.c _ _
  have ha0 : Xi S 904 65 = 0 → Xi S 904 8 ≤ n := fun q => (hA q).1
  have ha3 : Xi S 904 65 = 0 → 2 * Xi S 904 69 ≤ Xi S 904 8 + 1 := fun q => (hA q).2.1
  clear hat
  refine l_aload_n rfl rfl ?_
  refine l_bipush rfl rfl ?_
  refine l_callV rfl rfl rfl (t_mo_isNext hH n c 44 ⟨by omega, by omega⟩ (by first | assumption | exact (TK_FR hF rfl (by assumption : TK S _))) (by first | assumption | exact (by assumption : AT S _ _)) _) ?_
  rintro _ _ ⟨rfl, z7, rfl, w7, w5, w6⟩
  show Rl _ _ _ _ _ [iv z7] _ _
  refine l_if_eq rfl rfl (by unfold rg; omega) (fun w8 => ?_) (fun w9 => ?_)
  · refine l_aload_n rfl rfl ?_
    refine l_bipush rfl rfl ?_
    refine l_callV rfl rfl rfl (t_mo_isNext hH n c 116 ⟨by omega, by omega⟩ (by first | assumption | exact (TK_FR hF rfl (by assumption : TK S _))) (by first | assumption | exact (by assumption : AT S _ _)) _) ?_
    rintro _ _ ⟨rfl, z14, rfl, w14, w12, w13⟩
    show Rl _ _ _ _ _ [iv z14] _ _
    refine l_if_eq rfl rfl (by unfold rg; omega) (fun w15 => ?_) (fun w16 => ?_)
    · refine l_iconst rfl ?_
      refine l_ireturn rfl rfl ?_
      exact ⟨hH, hF, _, rfl, ⟨by omega, by omega⟩, (by first | exact t44 | exact t65 | exact hA), (by omega), (by omega), (by omega)⟩
    · refine l_aload_n rfl rfl ?_
      refine l_dup rfl rfl ?_
      refine l_gfi rfl rfl rfl rfl rfl ?_
      refine l_iconst rfl ?_
      refine l_iadd rfl ?_
      refine l_pfi rfl rfl rfl rfl ?_
      obtain ⟨U1, eU1⟩ : ∃ T : sS, T = uI S 904 8 (Int32.ofInt ((Xi S 904 8) + 1)) := ⟨_, rfl⟩
      rw [← eU1]
      have hHU1 : HI U1 := by rw [eU1]; exact HI_w hH (show 0 ≤ ((Xi S 904 8) + 1) by omega) (show ((Xi S 904 8) + 1) ≤ 5010 by omega)
      have hFU1 : FR md_mo_isMore S U1 := by rw [eU1]; exact FR.wI hF (mdf_i (r := (904, 905, 8, 9)) (List.mem_of_getElem? (i := 0) rfl) (inR_i (by omega) (by omega) (by omega) (by omega)))
      have w19 : Xi U1 904 8 = ((Xi S 904 8) + 1) := by rw [eU1]; exact Xi_same (by unfold rg; omega)
      have t65 : AT U1 n c := at_up hT hA eU1 (by omega) (by omega) (by omega) (by omega) (Or.inl rfl)
      have l65 : Xi U1 904 8 ≤ n := by have q := tk_lt hT (by omega) (ha0 (by omega)) (by omega); omega
      refine l_iconst rfl ?_
      refine l_ireturn rfl rfl ?_
      have w20 : Xi U1 904 65 = Xi S 904 65 := (show Xi U1 904 65 = Xi S 904 65 from by rw [eU1]; exact Xi_ne (by omega))
      have w22 : 0 ≤ Xi U1 904 8 ∧ Xi U1 904 8 ≤ 5010 := hHU1.c _ _
      exact ⟨hHU1, hFU1, _, rfl, ⟨by omega, by omega⟩, (by first | exact t44 | exact t65 | exact hA), (by omega), (by omega), (by omega)⟩
  · refine l_aload_n rfl rfl ?_
    refine l_dup rfl rfl ?_
    refine l_gfi rfl rfl rfl rfl rfl ?_
    refine l_iconst rfl ?_
    refine l_iadd rfl ?_
    refine l_pfi rfl rfl rfl rfl ?_
    obtain ⟨U2, eU2⟩ : ∃ T : sS, T = uI S 904 8 (Int32.ofInt ((Xi S 904 8) + 1)) := ⟨_, rfl⟩
    rw [← eU2]
    have hHU2 : HI U2 := by rw [eU2]; exact HI_w hH (show 0 ≤ ((Xi S 904 8) + 1) by omega) (show ((Xi S 904 8) + 1) ≤ 5010 by omega)
    have hFU2 : FR md_mo_isMore S U2 := by rw [eU2]; exact FR.wI hF (mdf_i (r := (904, 905, 8, 9)) (List.mem_of_getElem? (i := 0) rfl) (inR_i (by omega) (by omega) (by omega) (by omega)))
    have w23 : Xi U2 904 8 = ((Xi S 904 8) + 1) := by rw [eU2]; exact Xi_same (by unfold rg; omega)
    have s16 : Xi U2 904 8 = Xi S 904 8 + 1 ∧ Xi U2 904 65 = Xi S 904 65 := ⟨by omega, by rw [eU2, Xi_ne (by omega)]⟩
    have t16 : AT U2 n c := at_up hT hA eU2 (by omega) (by omega) (by omega) (by omega) (Or.inl rfl)
    have l16 : Xi U2 904 8 ≤ n := by have q := tk_lt hT (by omega) (ha0 (by omega)) (by omega); omega
    have T16 : TK U2 n := TK_FR (FR_e eU2) rfl hT
    refine l_aload_n rfl rfl ?_
    refine l_dup rfl rfl ?_
    refine l_gfi rfl rfl rfl rfl rfl ?_
    refine l_aload_n rfl rfl ?_
    refine l_gfr rfl rfl rfl rfl rfl (hHU2.r 904 4 907 rfl) ?_
    refine l_aload_n rfl rfl ?_
    refine l_gfi rfl rfl rfl rfl rfl ?_
    refine l_iaload (n := 5002) rfl rfl (by omega) (by omega) (by unfold rg; omega) ?_
    have w24 : 0 ≤ (Xi U2 907 (((Xi U2 904 8)).toNat)) ∧ (Xi U2 907 (((Xi U2 904 8)).toNat)) ≤ 154 := hHU2.c _ _
    refine l_bipush rfl rfl ?_
    refine l_icmp_ne rfl rfl (by unfold rg; omega) (by unfold rg; omega) (fun w25 => ?_) (fun w26 => ?_)
    · refine l_iconst rfl ?_
      refine l_iadd rfl ?_
      refine l_pfi rfl rfl rfl rfl ?_
      obtain ⟨U3, eU3⟩ : ∃ T : sS, T = uI U2 904 8 (Int32.ofInt ((Xi U2 904 8) + 0)) := ⟨_, rfl⟩
      rw [← eU3]
      have hHU3 : HI U3 := by rw [eU3]; exact HI_w hHU2 (show 0 ≤ ((Xi U2 904 8) + 0) by omega) (show ((Xi U2 904 8) + 0) ≤ 5010 by omega)
      have hFU3 : FR md_mo_isMore S U3 := by rw [eU3]; exact FR.wI hFU2 (mdf_i (r := (904, 905, 8, 9)) (List.mem_of_getElem? (i := 0) rfl) (inR_i (by omega) (by omega) (by omega) (by omega)))
      have w27 : Xi U3 904 8 = ((Xi U2 904 8) + 0) := by rw [eU3]; exact Xi_same (by unfold rg; omega)
      have t44 : AT U3 n c := by first | exact at_same t16 eU3 (by omega) (by omega) | exact at_up T16 t16 eU3 (by omega) (by omega) (by omega) (by omega) (Or.inl rfl)
      have l44 : Xi U3 904 8 ≤ n := by first | omega | (have q := tk_lt T16 (by omega) l16 (by omega); omega)
      refine l_iconst rfl ?_
      refine l_ireturn rfl rfl ?_
      have w28 : Xi U3 904 65 = Xi S 904 65 := (show Xi U3 904 65 = Xi U2 904 65 from by rw [eU3]; exact Xi_ne (by omega)).trans ((show Xi U2 904 65 = Xi S 904 65 from by rw [eU2]; exact Xi_ne (by omega)))
      have w30 : 0 ≤ Xi U3 904 8 ∧ Xi U3 904 8 ≤ 5010 := hHU3.c _ _
      exact ⟨hHU3, hFU3, _, rfl, ⟨by omega, by omega⟩, (by first | exact t44 | exact t65 | exact hA), (by omega), (by omega), (by omega)⟩
    · refine l_iconst rfl ?_
      refine l_goto rfl rfl ?_
      refine l_iadd rfl ?_
      refine l_pfi rfl rfl rfl rfl ?_
      obtain ⟨U4, eU4⟩ : ∃ T : sS, T = uI U2 904 8 (Int32.ofInt ((Xi U2 904 8) + 1)) := ⟨_, rfl⟩
      rw [← eU4]
      have hHU4 : HI U4 := by rw [eU4]; exact HI_w hHU2 (show 0 ≤ ((Xi U2 904 8) + 1) by omega) (show ((Xi U2 904 8) + 1) ≤ 5010 by omega)
      have hFU4 : FR md_mo_isMore S U4 := by rw [eU4]; exact FR.wI hFU2 (mdf_i (r := (904, 905, 8, 9)) (List.mem_of_getElem? (i := 0) rfl) (inR_i (by omega) (by omega) (by omega) (by omega)))
      have w31 : Xi U4 904 8 = ((Xi U2 904 8) + 1) := by rw [eU4]; exact Xi_same (by unfold rg; omega)
      have t44 : AT U4 n c := by first | exact at_same t16 eU4 (by omega) (by omega) | exact at_up T16 t16 eU4 (by omega) (by omega) (by omega) (by omega) (Or.inl rfl)
      have l44 : Xi U4 904 8 ≤ n := by first | omega | (have q := tk_lt T16 (by omega) l16 (by omega); omega)
      refine l_iconst rfl ?_
      refine l_ireturn rfl rfl ?_
      have w32 : Xi U4 904 65 = Xi S 904 65 := (show Xi U4 904 65 = Xi U2 904 65 from by rw [eU4]; exact Xi_ne (by omega)).trans ((show Xi U2 904 65 = Xi S 904 65 from by rw [eU2]; exact Xi_ne (by omega)))
      have w34 : 0 ≤ Xi U4 904 8 ∧ Xi U4 904 8 ≤ 5010 := hHU4.c _ _
      exact ⟨hHU4, hFU4, _, rfl, ⟨by omega, by omega⟩, (by first | exact t44 | exact t65 | exact hA), (by omega), (by omega), (by omega)⟩
def md_mo_placing : List rec := [(904, 905, 8, 9), (904, 905, 65, 66), (904, 905, 66, 67)]
def md_mo_be : List rec := [(904, 905, 8, 9), (904, 905, 65, 66), (904, 905, 66, 67), (904, 905, 77, 78)]

