/-! SAFETY of methods: printed by wip/safe (vc.py, decl.py) -/
def md_co_takeText__2 : List rec := [(882, 883, 10, 11), (884, 885, 0, 100000), (885, 886, 0, 100000), (886, 887, 0, 100000), (887, 888, 0, 100000), (888, 889, 0, 100000)]
abbrev Q_co_takeText__2 (S : sS) (t : Nat) (from_ : Int) (to : Int) : pst := fun r S1 => HI S1 ∧ FR md_co_takeText__2 S S1 ∧ (∃ z : Int, r = some (iv z) ∧ (0 ≤ z ∧ z ≤ 1) ∧ (KCM S S1))
set_option maxRecDepth 100000 in
theorem t_co_takeText__2 {S : sS} (hH : HI S) (t : Nat) (from_ : Int) (to : Int) (ht : tp t) (hfrom_ : 0 ≤ from_ ∧ from_ ≤ 5000) (hto : 0 ≤ to ∧ to ≤ 5000) (hc : Xi S 882 3 < 20) (d : Nat) : Mt lay0 (d + 4) m_co_takeText [.ref 882, .ref t, iv from_, iv to] S (Q_co_takeText__2 S t from_ to) := by
  refine Mt_R rfl rfl ?_
  have hF : FR md_co_takeText__2 S S := FR.rf
  have w1 : 0 ≤ Xi S 882 3 ∧ Xi S 882 3 ≤ 20 := hH.c _ _
  have h20 : 0 ≤ Xi S 882 3 ∧ Xi S 882 3 ≤ 20 := hH.c _ _
  have C26 : ∀ (n26 : Nat) (T1 : sS) (_ : HI T1) (_ : FR md_co_takeText__2 S T1) (v4 : Int) (v5 : Int), (0 ≤ v4 ∧ v4 ≤ 8) → (0 ≤ v5 ∧ v5 ≤ 5000) → (from_ ≤ v5) → (v5 ≤ to ∨ v5 = from_) → (0 ≤ v4 ∧ v4 ≤ 8) → (KCM S T1) → n26 = (5001 - v5).toNat → Rl lay0 (d + 3) m_co_takeText 26 [(0, .ref 882), (1, .ref t), (3, iv to), (4, iv v4), (5, iv v5)] [] T1 (Q_co_takeText__2 S t from_ to) := by
    intro n26
    induction n26 using Nat.strongRecOn with
    | ind n26 ih26 =>
      intro T1 hHT1 hFT1 v4 v5 w2 w3 w4 w5 w6 hk26 hm26
      have w7 : Xi T1 882 3 = Xi S 882 3 := hFT1.x _ _ rfl
      refine l_iload rfl rfl ?_
      refine l_iload_n rfl rfl ?_
      refine l_icmp_ge rfl rfl (by unfold rg; omega) (by unfold rg; omega) (fun w8 => ?_) (fun w9 => ?_)
      · refine l_aload_n rfl rfl ?_
        refine l_gfr rfl rfl rfl rfl rfl (hHT1.r 882 5 884 rfl) ?_
        refine l_aload_n rfl rfl ?_
        refine l_gfi rfl rfl rfl rfl rfl ?_
        refine l_iload rfl rfl ?_
        refine l_iastore (n := 20) rfl rfl (by omega) (by omega) (by unfold rg; omega) ?_
        obtain ⟨U2, eU2⟩ : ∃ T : sS, T = uI T1 884 (((Xi T1 882 3)).toNat) (Int32.ofInt v4) := ⟨_, rfl⟩
        rw [← eU2]
        have hHU2 : HI U2 := by rw [eU2]; exact HI_w hHT1 (show 0 ≤ v4 by omega) (show v4 ≤ 8 by omega)
        have hFU2 : FR md_co_takeText__2 S U2 := by rw [eU2]; exact FR.wI hFT1 (mdf_i (r := (884, 885, 0, 100000)) (List.mem_of_getElem? (i := 1) rfl) (inR_i (by omega) (by omega) (by omega) (by omega)))
        have w10 : Xi U2 884 (((Xi T1 882 3)).toNat) = v4 := by rw [eU2]; exact Xi_same (by unfold rg; omega)
        have hk209 : KCM S U2 := kcm_f (FR_e eU2) rfl hk26
        refine l_iload rfl rfl ?_
        refine l_if_le rfl rfl (by unfold rg; omega) (fun w11 => ?_) (fun w12 => ?_)
        · refine l_iconst rfl ?_
          refine l_ireturn rfl rfl ?_
          exact ⟨hHU2, hFU2, _, rfl, ⟨by omega, by omega⟩, (by first | exact hk209 | exact hk105 | exact hk144 | exact hk26)⟩
        · refine l_iconst rfl ?_
          refine l_goto rfl rfl ?_
          refine l_ireturn rfl rfl ?_
          exact ⟨hHU2, hFU2, _, rfl, ⟨by omega, by omega⟩, (by first | exact hk209 | exact hk105 | exact hk144 | exact hk26)⟩
      · refine l_aload_n rfl rfl ?_
        refine l_iload rfl rfl ?_
        refine l_baload (n := 5000) rfl (tp_sv (by assumption)) (lay_tp (by assumption)) (by decide) (by omega) (by omega) (by unfold rg; omega) ?_
        have w13 : -128 ≤ (Xi T1 t ((v5).toNat)) ∧ (Xi T1 t ((v5).toNat)) ≤ 127 := tpc hHT1 (by assumption)
        refine l_bipush rfl rfl ?_
        refine l_icmp_ne rfl rfl (by unfold rg; omega) (by unfold rg; omega) (fun w14 => ?_) (fun w15 => ?_)
        · refine l_iload rfl rfl ?_
          refine l_bipush rfl rfl ?_
          refine l_icmp_eq rfl rfl (by unfold rg; omega) (by unfold rg; omega) (fun w16 => ?_) (fun w17 => ?_)
          · refine l_iconst rfl ?_
            refine l_ireturn rfl rfl ?_
            exact ⟨hHT1, hFT1, _, rfl, ⟨by omega, by omega⟩, (by first | exact hk209 | exact hk105 | exact hk144 | exact hk26)⟩
          · refine l_aload_n rfl rfl ?_
            refine l_iload rfl rfl ?_
            refine l_baload (n := 5000) rfl (tp_sv (by assumption)) (lay_tp (by assumption)) (by decide) (by omega) (by omega) (by unfold rg; omega) ?_
            refine l_bipush rfl rfl ?_
            refine l_icmp_ne rfl rfl (by unfold rg; omega) (by unfold rg; omega) (fun w18 => ?_) (fun w19 => ?_)
            · refine l_aload_n rfl rfl ?_
              refine l_iload rfl rfl ?_
              refine l_baload (n := 5000) rfl (tp_sv (by assumption)) (lay_tp (by assumption)) (by decide) (by omega) (by omega) (by unfold rg; omega) ?_
              refine l_bipush rfl rfl ?_
              refine l_icmp_ne rfl rfl (by unfold rg; omega) (by unfold rg; omega) (fun w20 => ?_) (fun w21 => ?_)
              · refine l_aload_n rfl rfl ?_
                refine l_iload rfl rfl ?_
                refine l_iload_n rfl rfl ?_
                refine l_callS rfl rfl (by decide) rfl (t_co_wordEnd hHT1 t v5 to ht ⟨by omega, by omega⟩ ⟨by omega, by omega⟩ _) ?_
                rintro _ _ ⟨rfl, z23, rfl, w23, w22⟩
                show Rl _ _ _ _ _ [iv z23] _ _
                refine l_istore rfl rfl rfl ?_
                refine l_aload_n rfl rfl ?_
                refine l_gfr rfl rfl rfl rfl rfl (hHT1.r 882 8 887 rfl) ?_
                refine l_aload_n rfl rfl ?_
                refine l_gfi rfl rfl rfl rfl rfl ?_
                refine l_bipush rfl rfl ?_
                refine l_imul rfl ?_
                refine l_iload rfl rfl ?_
                refine l_iadd rfl ?_
                refine l_aload_n rfl rfl ?_
                refine l_iload rfl rfl ?_
                refine l_iload rfl rfl ?_
                refine l_callS rfl rfl (by decide) rfl (t_co_codeOf hHT1 t v5 z23 ht ⟨by omega, by omega⟩ ⟨by omega, by omega⟩ _) ?_
                rintro _ _ ⟨rfl, z24, rfl⟩
                show Rl _ _ _ _ _ [jw z24, iv (((Xi T1 882 3) * 8) + v4), .ref 887] _ _
                refine l_lastore (n := 160) rfl rfl (by omega) (by omega) (by unfold rg; omega) ?_
                obtain ⟨U3, eU3⟩ : ∃ T : sS, T = uJ T1 887 (((((Xi T1 882 3) * 8) + v4)).toNat) (Int64.ofInt z24) := ⟨_, rfl⟩
                rw [← eU3]
                have hHU3 : HI U3 := by rw [eU3]; exact HI_J hHT1
                have hFU3 : FR md_co_takeText__2 S U3 := by rw [eU3]; exact FR.wJ hFT1 (mdf_i (r := (887, 888, 0, 100000)) (List.mem_of_getElem? (i := 4) rfl) (inR_i (by omega) (by omega) (by omega) (by omega)))
                have hk144 : KCM S U3 := kcm_f (FR_J eU3) rfl hk26
                refine l_iload rfl rfl ?_
                refine l_iload rfl rfl ?_
                refine l_icmp_le rfl rfl (by unfold rg; omega) (by unfold rg; omega) (fun w25 => ?_) (fun w26 => ?_)
                · refine l_iconst rfl ?_
                  refine l_istore rfl rfl rfl ?_
                  refine l_iload rfl rfl ?_
                  refine l_iconst rfl ?_
                  refine l_icmp_eq rfl rfl (by unfold rg; omega) (by unfold rg; omega) (fun w27 => ?_) (fun w28 => absurd w28 (by omega))
                  · refine l_iconst rfl ?_
                    refine l_ireturn rfl rfl ?_
                    exact ⟨hHU3, hFU3, _, rfl, ⟨by omega, by omega⟩, (by first | exact hk209 | exact hk105 | exact hk144 | exact hk26)⟩
                · refine l_iload rfl rfl ?_
                  refine l_iload rfl rfl ?_
                  refine l_isub rfl ?_
                  refine l_bipush rfl rfl ?_
                  refine l_icmp_gt rfl rfl (by unfold rg; omega) (by unfold rg; omega) (fun w29 => ?_) (fun w30 => ?_)
                  · refine l_iconst rfl ?_
                    refine l_istore rfl rfl rfl ?_
                    refine l_iload rfl rfl ?_
                    refine l_iconst rfl ?_
                    refine l_icmp_eq rfl rfl (by unfold rg; omega) (by unfold rg; omega) (fun w31 => ?_) (fun w32 => absurd w32 (by omega))
                    · refine l_iconst rfl ?_
                      refine l_ireturn rfl rfl ?_
                      exact ⟨hHU3, hFU3, _, rfl, ⟨by omega, by omega⟩, (by first | exact hk209 | exact hk105 | exact hk144 | exact hk26)⟩
                  · refine l_iload rfl rfl ?_
                    refine l_goto rfl rfl ?_
                    refine l_istore rfl rfl rfl ?_
                    refine l_iload rfl rfl ?_
                    refine l_iconst rfl ?_
                    refine l_icmp_eq rfl rfl (by unfold rg; omega) (by unfold rg; omega) (fun w33 => ?_) (fun w34 => ?_)
                    · refine l_iconst rfl ?_
                      refine l_ireturn rfl rfl ?_
                      exact ⟨hHU3, hFU3, _, rfl, ⟨by omega, by omega⟩, (by first | exact hk209 | exact hk105 | exact hk144 | exact hk26)⟩
                    · refine l_iload rfl rfl ?_
                      refine l_iload_n rfl rfl ?_
                      refine l_icmp_ge rfl rfl (by unfold rg; omega) (by unfold rg; omega) (fun w35 => ?_) (fun w36 => ?_)
                      · refine l_iinc rfl rfl rfl rfl ?_
                        refine l_goto rfl rfl ?_
                        exact Rl_weak (ih26 _ (by omega) U3 hHU3 hFU3 ((v4 + 1)) (z23) (by omega) (by omega) (by omega) (by omega) (by omega) (by first | exact hk105 | exact hk144 | exact hk26 | exact hk25) rfl) (And.intro rfl (And.intro rfl (And.intro rfl (And.intro rfl (And.intro rfl (True.intro))))))
                      · refine l_aload_n rfl rfl ?_
                        refine l_iload rfl rfl ?_
                        refine l_baload (n := 5000) rfl (tp_sv (by assumption)) (lay_tp (by assumption)) (by decide) (by omega) (by omega) (by unfold rg; omega) ?_
                        have w37 : -128 ≤ (Xi U3 t ((z23).toNat)) ∧ (Xi U3 t ((z23).toNat)) ≤ 127 := tpc hHU3 (by assumption)
                        refine l_bipush rfl rfl ?_
                        refine l_icmp_eq rfl rfl (by unfold rg; omega) (by unfold rg; omega) (fun w38 => ?_) (fun w39 => ?_)
                        · refine l_iinc rfl rfl rfl rfl ?_
                          refine l_goto rfl rfl ?_
                          exact Rl_weak (ih26 _ (by omega) U3 hHU3 hFU3 ((v4 + 1)) (z23) (by omega) (by omega) (by omega) (by omega) (by omega) (by first | exact hk105 | exact hk144 | exact hk26 | exact hk25) rfl) (And.intro rfl (And.intro rfl (And.intro rfl (And.intro rfl (And.intro rfl (True.intro))))))
                        · refine l_iconst rfl ?_
                          refine l_ireturn rfl rfl ?_
                          exact ⟨hHU3, hFU3, _, rfl, ⟨by omega, by omega⟩, (by first | exact hk209 | exact hk105 | exact hk144 | exact hk26)⟩
              · refine l_aload_n rfl rfl ?_
                refine l_gfr rfl rfl rfl rfl rfl (hHT1.r 882 6 885 rfl) ?_
                refine l_aload_n rfl rfl ?_
                refine l_gfi rfl rfl rfl rfl rfl ?_
                refine l_iload rfl rfl ?_
                refine l_iastore (n := 20) rfl rfl (by omega) (by omega) (by unfold rg; omega) ?_
                obtain ⟨U4, eU4⟩ : ∃ T : sS, T = uI T1 885 (((Xi T1 882 3)).toNat) (Int32.ofInt v4) := ⟨_, rfl⟩
                rw [← eU4]
                have hHU4 : HI U4 := by rw [eU4]; exact HI_w hHT1 (show -1 ≤ v4 by omega) (show v4 ≤ 7 by omega)
                have hFU4 : FR md_co_takeText__2 S U4 := by rw [eU4]; exact FR.wI hFT1 (mdf_i (r := (885, 886, 0, 100000)) (List.mem_of_getElem? (i := 2) rfl) (inR_i (by omega) (by omega) (by omega) (by omega)))
                have w40 : Xi U4 885 (((Xi T1 882 3)).toNat) = v4 := by rw [eU4]; exact Xi_same (by unfold rg; omega)
                have hk97 : KCM S U4 := kcm_w5 eU4 hk26 (by omega) (by omega)
                refine l_aload_n rfl rfl ?_
                refine l_aload_n rfl rfl ?_
                refine l_iload rfl rfl ?_
                refine l_iconst rfl ?_
                refine l_iadd rfl ?_
                refine l_iload_n rfl rfl ?_
                refine l_callV rfl rfl rfl (t_co_takeGap hHU4 t (v5 + 1) to ht ⟨by omega, by omega⟩ ⟨by omega, by omega⟩ _) ?_
                rintro _ T5 ⟨hHT5, w43, z42, rfl, w42, w41⟩
                have hFT5 : FR md_co_takeText__2 S T5 := FR.tr hFU4 w43 rfl
                show Rl _ _ _ _ _ [iv z42] _ _
                have hk105 : KCM S T5 := kcm_f (by assumption : FR md_co_takeGap U4 T5) rfl hk97
                refine l_istore rfl rfl rfl ?_
                refine l_goto rfl rfl ?_
                refine l_iload rfl rfl ?_
                refine l_iconst rfl ?_
                refine l_icmp_eq rfl rfl (by unfold rg; omega) (by unfold rg; omega) (fun w44 => ?_) (fun w45 => ?_)
                · refine l_iconst rfl ?_
                  refine l_ireturn rfl rfl ?_
                  exact ⟨hHT5, hFT5, _, rfl, ⟨by omega, by omega⟩, (by first | exact hk209 | exact hk105 | exact hk144 | exact hk26)⟩
                · refine l_iload rfl rfl ?_
                  refine l_iload_n rfl rfl ?_
                  refine l_icmp_ge rfl rfl (by unfold rg; omega) (by unfold rg; omega) (fun w46 => ?_) (fun w47 => ?_)
                  · refine l_iinc rfl rfl rfl rfl ?_
                    refine l_goto rfl rfl ?_
                    exact Rl_weak (ih26 _ (by omega) T5 hHT5 hFT5 ((v4 + 1)) (z42) (by omega) (by omega) (by omega) (by omega) (by omega) (by first | exact hk105 | exact hk144 | exact hk26 | exact hk25) rfl) (And.intro rfl (And.intro rfl (And.intro rfl (And.intro rfl (And.intro rfl (True.intro))))))
                  · refine l_aload_n rfl rfl ?_
                    refine l_iload rfl rfl ?_
                    refine l_baload (n := 5000) rfl (tp_sv (by assumption)) (lay_tp (by assumption)) (by decide) (by omega) (by omega) (by unfold rg; omega) ?_
                    have w48 : -128 ≤ (Xi T5 t ((z42).toNat)) ∧ (Xi T5 t ((z42).toNat)) ≤ 127 := tpc hHT5 (by assumption)
                    refine l_bipush rfl rfl ?_
                    refine l_icmp_eq rfl rfl (by unfold rg; omega) (by unfold rg; omega) (fun w49 => ?_) (fun w50 => ?_)
                    · refine l_iinc rfl rfl rfl rfl ?_
                      refine l_goto rfl rfl ?_
                      exact Rl_weak (ih26 _ (by omega) T5 hHT5 hFT5 ((v4 + 1)) (z42) (by omega) (by omega) (by omega) (by omega) (by omega) (by first | exact hk105 | exact hk144 | exact hk26 | exact hk25) rfl) (And.intro rfl (And.intro rfl (And.intro rfl (And.intro rfl (And.intro rfl (True.intro))))))
                    · refine l_iconst rfl ?_
                      refine l_ireturn rfl rfl ?_
                      exact ⟨hHT5, hFT5, _, rfl, ⟨by omega, by omega⟩, (by first | exact hk209 | exact hk105 | exact hk144 | exact hk26)⟩
            · refine l_aload_n rfl rfl ?_
              refine l_gfr rfl rfl rfl rfl rfl (hHT1.r 882 6 885 rfl) ?_
              refine l_aload_n rfl rfl ?_
              refine l_gfi rfl rfl rfl rfl rfl ?_
              refine l_iaload (n := 20) rfl rfl (by omega) (by omega) (by unfold rg; omega) ?_
              have w51 : -1 ≤ (Xi T1 885 (((Xi T1 882 3)).toNat)) ∧ (Xi T1 885 (((Xi T1 882 3)).toNat)) ≤ 7 := hHT1.c _ _
              refine l_iconst rfl ?_
              refine l_icmp_eq rfl rfl (by unfold rg; omega) (by unfold rg; omega) (fun w52 => ?_) (fun w53 => ?_)
              · refine l_aload_n rfl rfl ?_
                refine l_iload rfl rfl ?_
                refine l_baload (n := 5000) rfl (tp_sv (by assumption)) (lay_tp (by assumption)) (by decide) (by omega) (by omega) (by unfold rg; omega) ?_
                refine l_bipush rfl rfl ?_
                refine l_icmp_ne rfl rfl (by unfold rg; omega) (by unfold rg; omega) (fun w54 => ?_) (fun w55 => ?_)
                · refine l_aload_n rfl rfl ?_
                  refine l_iload rfl rfl ?_
                  refine l_iload_n rfl rfl ?_
                  refine l_callS rfl rfl (by decide) rfl (t_co_wordEnd hHT1 t v5 to ht ⟨by omega, by omega⟩ ⟨by omega, by omega⟩ _) ?_
                  rintro _ _ ⟨rfl, z57, rfl, w57, w56⟩
                  show Rl _ _ _ _ _ [iv z57] _ _
                  refine l_istore rfl rfl rfl ?_
                  refine l_aload_n rfl rfl ?_
                  refine l_gfr rfl rfl rfl rfl rfl (hHT1.r 882 8 887 rfl) ?_
                  refine l_aload_n rfl rfl ?_
                  refine l_gfi rfl rfl rfl rfl rfl ?_
                  refine l_bipush rfl rfl ?_
                  refine l_imul rfl ?_
                  refine l_iload rfl rfl ?_
                  refine l_iadd rfl ?_
                  refine l_aload_n rfl rfl ?_
                  refine l_iload rfl rfl ?_
                  refine l_iload rfl rfl ?_
                  refine l_callS rfl rfl (by decide) rfl (t_co_codeOf hHT1 t v5 z57 ht ⟨by omega, by omega⟩ ⟨by omega, by omega⟩ _) ?_
                  rintro _ _ ⟨rfl, z58, rfl⟩
                  show Rl _ _ _ _ _ [jw z58, iv (((Xi T1 882 3) * 8) + v4), .ref 887] _ _
                  refine l_lastore (n := 160) rfl rfl (by omega) (by omega) (by unfold rg; omega) ?_
                  obtain ⟨U6, eU6⟩ : ∃ T : sS, T = uJ T1 887 (((((Xi T1 882 3) * 8) + v4)).toNat) (Int64.ofInt z58) := ⟨_, rfl⟩
                  rw [← eU6]
                  have hHU6 : HI U6 := by rw [eU6]; exact HI_J hHT1
                  have hFU6 : FR md_co_takeText__2 S U6 := by rw [eU6]; exact FR.wJ hFT1 (mdf_i (r := (887, 888, 0, 100000)) (List.mem_of_getElem? (i := 4) rfl) (inR_i (by omega) (by omega) (by omega) (by omega)))
                  have hk144 : KCM S U6 := kcm_f (FR_J eU6) rfl hk26
                  refine l_iload rfl rfl ?_
                  refine l_iload rfl rfl ?_
                  refine l_icmp_le rfl rfl (by unfold rg; omega) (by unfold rg; omega) (fun w59 => ?_) (fun w60 => ?_)
                  · refine l_iconst rfl ?_
                    refine l_istore rfl rfl rfl ?_
                    refine l_iload rfl rfl ?_
                    refine l_iconst rfl ?_
                    refine l_icmp_eq rfl rfl (by unfold rg; omega) (by unfold rg; omega) (fun w61 => ?_) (fun w62 => absurd w62 (by omega))
                    · refine l_iconst rfl ?_
                      refine l_ireturn rfl rfl ?_
                      exact ⟨hHU6, hFU6, _, rfl, ⟨by omega, by omega⟩, (by first | exact hk209 | exact hk105 | exact hk144 | exact hk26)⟩
                  · refine l_iload rfl rfl ?_
                    refine l_iload rfl rfl ?_
                    refine l_isub rfl ?_
                    refine l_bipush rfl rfl ?_
                    refine l_icmp_gt rfl rfl (by unfold rg; omega) (by unfold rg; omega) (fun w63 => ?_) (fun w64 => ?_)
                    · refine l_iconst rfl ?_
                      refine l_istore rfl rfl rfl ?_
                      refine l_iload rfl rfl ?_
                      refine l_iconst rfl ?_
                      refine l_icmp_eq rfl rfl (by unfold rg; omega) (by unfold rg; omega) (fun w65 => ?_) (fun w66 => absurd w66 (by omega))
                      · refine l_iconst rfl ?_
                        refine l_ireturn rfl rfl ?_
                        exact ⟨hHU6, hFU6, _, rfl, ⟨by omega, by omega⟩, (by first | exact hk209 | exact hk105 | exact hk144 | exact hk26)⟩
                    · refine l_iload rfl rfl ?_
                      refine l_goto rfl rfl ?_
                      refine l_istore rfl rfl rfl ?_
                      refine l_iload rfl rfl ?_
                      refine l_iconst rfl ?_
                      refine l_icmp_eq rfl rfl (by unfold rg; omega) (by unfold rg; omega) (fun w67 => ?_) (fun w68 => ?_)
                      · refine l_iconst rfl ?_
                        refine l_ireturn rfl rfl ?_
                        exact ⟨hHU6, hFU6, _, rfl, ⟨by omega, by omega⟩, (by first | exact hk209 | exact hk105 | exact hk144 | exact hk26)⟩
                      · refine l_iload rfl rfl ?_
                        refine l_iload_n rfl rfl ?_
                        refine l_icmp_ge rfl rfl (by unfold rg; omega) (by unfold rg; omega) (fun w69 => ?_) (fun w70 => ?_)
                        · refine l_iinc rfl rfl rfl rfl ?_
                          refine l_goto rfl rfl ?_
                          exact Rl_weak (ih26 _ (by omega) U6 hHU6 hFU6 ((v4 + 1)) (z57) (by omega) (by omega) (by omega) (by omega) (by omega) (by first | exact hk105 | exact hk144 | exact hk26 | exact hk25) rfl) (And.intro rfl (And.intro rfl (And.intro rfl (And.intro rfl (And.intro rfl (True.intro))))))
                        · refine l_aload_n rfl rfl ?_
                          refine l_iload rfl rfl ?_
                          refine l_baload (n := 5000) rfl (tp_sv (by assumption)) (lay_tp (by assumption)) (by decide) (by omega) (by omega) (by unfold rg; omega) ?_
                          have w71 : -128 ≤ (Xi U6 t ((z57).toNat)) ∧ (Xi U6 t ((z57).toNat)) ≤ 127 := tpc hHU6 (by assumption)
                          refine l_bipush rfl rfl ?_
                          refine l_icmp_eq rfl rfl (by unfold rg; omega) (by unfold rg; omega) (fun w72 => ?_) (fun w73 => ?_)
                          · refine l_iinc rfl rfl rfl rfl ?_
                            refine l_goto rfl rfl ?_
                            exact Rl_weak (ih26 _ (by omega) U6 hHU6 hFU6 ((v4 + 1)) (z57) (by omega) (by omega) (by omega) (by omega) (by omega) (by first | exact hk105 | exact hk144 | exact hk26 | exact hk25) rfl) (And.intro rfl (And.intro rfl (And.intro rfl (And.intro rfl (And.intro rfl (True.intro))))))
                          · refine l_iconst rfl ?_
                            refine l_ireturn rfl rfl ?_
                            exact ⟨hHU6, hFU6, _, rfl, ⟨by omega, by omega⟩, (by first | exact hk209 | exact hk105 | exact hk144 | exact hk26)⟩
                · refine l_aload_n rfl rfl ?_
                  refine l_gfr rfl rfl rfl rfl rfl (hHT1.r 882 6 885 rfl) ?_
                  refine l_aload_n rfl rfl ?_
                  refine l_gfi rfl rfl rfl rfl rfl ?_
                  refine l_iload rfl rfl ?_
                  refine l_iastore (n := 20) rfl rfl (by omega) (by omega) (by unfold rg; omega) ?_
                  obtain ⟨U7, eU7⟩ : ∃ T : sS, T = uI T1 885 (((Xi T1 882 3)).toNat) (Int32.ofInt v4) := ⟨_, rfl⟩
                  rw [← eU7]
                  have hHU7 : HI U7 := by rw [eU7]; exact HI_w hHT1 (show -1 ≤ v4 by omega) (show v4 ≤ 7 by omega)
                  have hFU7 : FR md_co_takeText__2 S U7 := by rw [eU7]; exact FR.wI hFT1 (mdf_i (r := (885, 886, 0, 100000)) (List.mem_of_getElem? (i := 2) rfl) (inR_i (by omega) (by omega) (by omega) (by omega)))
                  have w74 : Xi U7 885 (((Xi T1 882 3)).toNat) = v4 := by rw [eU7]; exact Xi_same (by unfold rg; omega)
                  have hk97 : KCM S U7 := kcm_w5 eU7 hk26 (by omega) (by omega)
                  refine l_aload_n rfl rfl ?_
                  refine l_aload_n rfl rfl ?_
                  refine l_iload rfl rfl ?_
                  refine l_iconst rfl ?_
                  refine l_iadd rfl ?_
                  refine l_iload_n rfl rfl ?_
                  refine l_callV rfl rfl rfl (t_co_takeGap hHU7 t (v5 + 1) to ht ⟨by omega, by omega⟩ ⟨by omega, by omega⟩ _) ?_
                  rintro _ T8 ⟨hHT8, w77, z76, rfl, w76, w75⟩
                  have hFT8 : FR md_co_takeText__2 S T8 := FR.tr hFU7 w77 rfl
                  show Rl _ _ _ _ _ [iv z76] _ _
                  have hk105 : KCM S T8 := kcm_f (by assumption : FR md_co_takeGap U7 T8) rfl hk97
                  refine l_istore rfl rfl rfl ?_
                  refine l_goto rfl rfl ?_
                  refine l_iload rfl rfl ?_
                  refine l_iconst rfl ?_
                  refine l_icmp_eq rfl rfl (by unfold rg; omega) (by unfold rg; omega) (fun w78 => ?_) (fun w79 => ?_)
                  · refine l_iconst rfl ?_
                    refine l_ireturn rfl rfl ?_
                    exact ⟨hHT8, hFT8, _, rfl, ⟨by omega, by omega⟩, (by first | exact hk209 | exact hk105 | exact hk144 | exact hk26)⟩
                  · refine l_iload rfl rfl ?_
                    refine l_iload_n rfl rfl ?_
                    refine l_icmp_ge rfl rfl (by unfold rg; omega) (by unfold rg; omega) (fun w80 => ?_) (fun w81 => ?_)
                    · refine l_iinc rfl rfl rfl rfl ?_
                      refine l_goto rfl rfl ?_
                      exact Rl_weak (ih26 _ (by omega) T8 hHT8 hFT8 ((v4 + 1)) (z76) (by omega) (by omega) (by omega) (by omega) (by omega) (by first | exact hk105 | exact hk144 | exact hk26 | exact hk25) rfl) (And.intro rfl (And.intro rfl (And.intro rfl (And.intro rfl (And.intro rfl (True.intro))))))
                    · refine l_aload_n rfl rfl ?_
                      refine l_iload rfl rfl ?_
                      refine l_baload (n := 5000) rfl (tp_sv (by assumption)) (lay_tp (by assumption)) (by decide) (by omega) (by omega) (by unfold rg; omega) ?_
                      have w82 : -128 ≤ (Xi T8 t ((z76).toNat)) ∧ (Xi T8 t ((z76).toNat)) ≤ 127 := tpc hHT8 (by assumption)
                      refine l_bipush rfl rfl ?_
                      refine l_icmp_eq rfl rfl (by unfold rg; omega) (by unfold rg; omega) (fun w83 => ?_) (fun w84 => ?_)
                      · refine l_iinc rfl rfl rfl rfl ?_
                        refine l_goto rfl rfl ?_
                        exact Rl_weak (ih26 _ (by omega) T8 hHT8 hFT8 ((v4 + 1)) (z76) (by omega) (by omega) (by omega) (by omega) (by omega) (by first | exact hk105 | exact hk144 | exact hk26 | exact hk25) rfl) (And.intro rfl (And.intro rfl (And.intro rfl (And.intro rfl (And.intro rfl (True.intro))))))
                      · refine l_iconst rfl ?_
                        refine l_ireturn rfl rfl ?_
                        exact ⟨hHT8, hFT8, _, rfl, ⟨by omega, by omega⟩, (by first | exact hk209 | exact hk105 | exact hk144 | exact hk26)⟩
              · refine l_iconst rfl ?_
                refine l_ireturn rfl rfl ?_
                exact ⟨hHT1, hFT1, _, rfl, ⟨by omega, by omega⟩, (by first | exact hk209 | exact hk105 | exact hk144 | exact hk26)⟩
        · refine l_iinc rfl rfl rfl rfl ?_
          refine l_goto rfl rfl ?_
          exact Rl_weak (ih26 _ (by omega) T1 hHT1 hFT1 (v4) ((v5 + 1)) (by omega) (by omega) (by omega) (by omega) (by omega) (by first | exact hk105 | exact hk144 | exact hk26 | exact hk25) rfl) (And.intro rfl (And.intro rfl (And.intro rfl (And.intro rfl (And.intro rfl (True.intro))))))
  refine l_iconst rfl ?_
  refine l_istore rfl rfl rfl ?_
  refine l_iload_n rfl rfl ?_
  refine l_istore rfl rfl rfl ?_
  refine l_aload_n rfl rfl ?_
  refine l_gfr rfl rfl rfl rfl rfl (hH.r 882 6 885 rfl) ?_
  refine l_aload_n rfl rfl ?_
  refine l_gfi rfl rfl rfl rfl rfl ?_
  refine l_iconst rfl ?_
  refine l_iastore (n := 20) rfl rfl (by omega) (by omega) (by unfold rg; omega) ?_
  obtain ⟨U9, eU9⟩ : ∃ T : sS, T = uI S 885 (((Xi S 882 3)).toNat) (Int32.ofInt (-1)) := ⟨_, rfl⟩
  rw [← eU9]
  have hHU9 : HI U9 := by rw [eU9]; exact HI_w hH (show -1 ≤ (-1) by omega) (show (-1) ≤ 7 by omega)
  have hFU9 : FR md_co_takeText__2 S U9 := by rw [eU9]; exact FR.wI hF (mdf_i (r := (885, 886, 0, 100000)) (List.mem_of_getElem? (i := 2) rfl) (inR_i (by omega) (by omega) (by omega) (by omega)))
  have w85 : Xi U9 885 (((Xi S 882 3)).toNat) = (-1) := by rw [eU9]; exact Xi_same (by unfold rg; omega)
  have hk15 : KCM S U9 := kcm_w5 eU9 KCM.rf (by omega) (by omega)
  refine l_aload_n rfl rfl ?_
  refine l_gfr rfl rfl rfl rfl rfl (hHU9.r 882 7 886 rfl) ?_
  refine l_aload_n rfl rfl ?_
  refine l_gfi rfl rfl rfl rfl rfl ?_
  have w86 : (Xi U9 882 3) = (Xi S 882 3) := (show Xi U9 882 3 = Xi S 882 3 from by rw [eU9]; exact Xi_ne (by omega))
  rw [w86]
  refine l_iconst rfl ?_
  refine l_iastore (n := 20) rfl rfl (by omega) (by omega) (by unfold rg; omega) ?_
  obtain ⟨U10, eU10⟩ : ∃ T : sS, T = uI U9 886 (((Xi S 882 3)).toNat) (Int32.ofInt (-1)) := ⟨_, rfl⟩
  rw [← eU10]
  have hHU10 : HI U10 := by rw [eU10]; exact HI_w hHU9 (show -2 ≤ (-1) by omega) (show (-1) ≤ 255 by omega)
  have hFU10 : FR md_co_takeText__2 S U10 := by rw [eU10]; exact FR.wI hFU9 (mdf_i (r := (886, 887, 0, 100000)) (List.mem_of_getElem? (i := 3) rfl) (inR_i (by omega) (by omega) (by omega) (by omega)))
  have w87 : Xi U10 886 (((Xi S 882 3)).toNat) = (-1) := by rw [eU10]; exact Xi_same (by unfold rg; omega)
  have hk25 : KCM S U10 := kcm_w6 eU10 hk15 (by omega) (by omega)
  exact Rl_weak (C26 _ U10 hHU10 hFU10 (0) (from_) (by omega) (by omega) (by omega) (by omega) (by omega) (by first | exact hk105 | exact hk144 | exact hk26 | exact hk25) rfl) (And.intro rfl (And.intro rfl (And.intro rfl (And.intro rfl (And.intro rfl (True.intro))))))
def md_co_addAs__2 : List rec := [(882, 883, 3, 4), (883, 884, 0, 100000)]
abbrev Q_co_addAs__2 (S : sS) (act : Int) : pst := fun r S1 => HI S1 ∧ FR md_co_addAs__2 S S1 ∧ (r = none ∧ (Xi S1 882 3 = Xi S 882 3 + 1) ∧ (Xi S1 883 (Xi S 882 3).toNat = act) ∧ (∀ i : Nat, (i : Int) < Xi S 882 3 → Xi S1 883 i = Xi S 883 i))
set_option maxRecDepth 100000 in
theorem t_co_addAs__2 {S : sS} (hH : HI S) (act : Int) (hact : 0 ≤ act ∧ act ≤ 11) (hc : Xi S 882 3 < 20) (d : Nat) : Mt lay0 (d + 1) m_co_addAs [.ref 882, iv act] S (Q_co_addAs__2 S act) := by
  refine Mt_R rfl rfl ?_
  have hF : FR md_co_addAs__2 S S := FR.rf
  have w1 : 0 ≤ Xi S 882 3 ∧ Xi S 882 3 ≤ 20 := hH.c _ _
  have h20 : 0 ≤ Xi S 882 3 ∧ Xi S 882 3 ≤ 20 := hH.c _ _
  refine l_aload_n rfl rfl ?_
  refine l_gfr rfl rfl rfl rfl rfl (hH.r 882 4 883 rfl) ?_
  refine l_aload_n rfl rfl ?_
  refine l_gfi rfl rfl rfl rfl rfl ?_
  refine l_iload_n rfl rfl ?_
  refine l_iastore (n := 20) rfl rfl (by omega) (by omega) (by unfold rg; omega) ?_
  obtain ⟨U1, eU1⟩ : ∃ T : sS, T = uI S 883 (((Xi S 882 3)).toNat) (Int32.ofInt act) := ⟨_, rfl⟩
  rw [← eU1]
  have hHU1 : HI U1 := by rw [eU1]; exact HI_w hH (show 0 ≤ act by omega) (show act ≤ 11 by omega)
  have hFU1 : FR md_co_addAs__2 S U1 := by rw [eU1]; exact FR.wI hF (mdf_i (r := (883, 884, 0, 100000)) (List.mem_of_getElem? (i := 1) rfl) (inR_i (by omega) (by omega) (by omega) (by omega)))
  have w2 : Xi U1 883 (((Xi S 882 3)).toNat) = act := by rw [eU1]; exact Xi_same (by unfold rg; omega)
  refine l_aload_n rfl rfl ?_
  refine l_dup rfl rfl ?_
  refine l_gfi rfl rfl rfl rfl rfl ?_
  have w3 : (Xi U1 882 3) = (Xi S 882 3) := (show Xi U1 882 3 = Xi S 882 3 from by rw [eU1]; exact Xi_ne (by omega))
  rw [w3]
  refine l_iconst rfl ?_
  refine l_iadd rfl ?_
  refine l_pfi rfl rfl rfl rfl ?_
  obtain ⟨U2, eU2⟩ : ∃ T : sS, T = uI U1 882 3 (Int32.ofInt ((Xi S 882 3) + 1)) := ⟨_, rfl⟩
  rw [← eU2]
  have hHU2 : HI U2 := by rw [eU2]; exact HI_w hHU1 (show 0 ≤ ((Xi S 882 3) + 1) by omega) (show ((Xi S 882 3) + 1) ≤ 20 by omega)
  have hFU2 : FR md_co_addAs__2 S U2 := by rw [eU2]; exact FR.wI hFU1 (mdf_i (r := (882, 883, 3, 4)) (List.mem_of_getElem? (i := 0) rfl) (inR_i (by omega) (by omega) (by omega) (by omega)))
  have w4 : Xi U2 882 3 = ((Xi S 882 3) + 1) := by rw [eU2]; exact Xi_same (by unfold rg; omega)
  refine l_return rfl rfl ?_
  have w5 : 0 ≤ Xi U2 882 3 ∧ Xi U2 882 3 ≤ 20 := hHU2.c _ _
  exact ⟨hHU2, hFU2, rfl, (by omega), (by rw [eU2, Xi_ne (by omega)]; omega), (fun i hi => by rw [eU2, Xi_ne (by omega), eU1, Xi_ne (by omega)])⟩
def md_co_suits : List rec := [(886, 887, 0, 100000)]
abbrev Q_co_suits (S : sS) (act : Int) : pst := fun r S1 => HI S1 ∧ FR md_co_suits S S1 ∧ (∃ z : Int, r = some (iv z) ∧ (0 ≤ z ∧ z ≤ 1) ∧ (KCM S S1) ∧ (z = 1 → (Xi S1 885 (Xi S 882 3).toNat = -1 → Xi S 19 act.toNat = -1) ∧ (Xi S 19 act.toNat = -2 → Xi S1 886 (Xi S 882 3).toNat = -2)))
set_option maxRecDepth 100000 in
theorem t_co_suits {S : sS} (hH : HI S) (act : Int) (hact : 0 ≤ act ∧ act ≤ 11) (hL : LEX S) (hc : Xi S 882 3 < 20) (d : Nat) : Mt lay0 (d + 5) m_co_suits [.ref 882, iv act] S (Q_co_suits S act) := by
  refine Mt_R rfl rfl ?_
  have hF : FR md_co_suits S S := FR.rf
  have w1 : 0 ≤ Xi S 882 3 ∧ Xi S 882 3 ≤ 20 := hH.c _ _
  have h20 : 0 ≤ Xi S 882 3 ∧ Xi S 882 3 ≤ 20 := hH.c _ _
  refine l_aload_n rfl rfl ?_
  refine l_gfr rfl rfl rfl rfl rfl (hH.r 882 1 1 rfl) ?_
  refine l_gfr rfl rfl rfl rfl rfl (hH.r 1 18 19 rfl) ?_
  refine l_iload_n rfl rfl ?_
  refine l_iaload (n := 12) rfl rfl (by omega) (by omega) (by unfold rg; omega) ?_
  have w2 : -2 ≤ (Xi S 19 ((act).toNat)) ∧ (Xi S 19 ((act).toNat)) ≤ 15 := hH.c _ _
  refine l_istore_n rfl rfl rfl ?_
  refine l_iload_n rfl rfl ?_
  refine l_iconst rfl ?_
  refine l_icmp_eq rfl rfl (by unfold rg; omega) (by unfold rg; omega) (fun w3 => ?_) (fun w4 => ?_)
  · refine l_iload_n rfl rfl ?_
    refine l_iconst rfl ?_
    refine l_icmp_ne rfl rfl (by unfold rg; omega) (by unfold rg; omega) (fun w5 => ?_) (fun w6 => ?_)
    · refine l_iconst rfl ?_
      refine l_ireturn rfl rfl ?_
      exact ⟨hH, hF, _, rfl, ⟨by omega, by omega⟩, (by first | exact KCM.rf | exact hk1 | exact hk2), (by omega)⟩
    · refine l_aload_n rfl rfl ?_
      refine l_gfr rfl rfl rfl rfl rfl (hH.r 882 6 885 rfl) ?_
      refine l_aload_n rfl rfl ?_
      refine l_gfi rfl rfl rfl rfl rfl ?_
      refine l_iaload (n := 20) rfl rfl (by omega) (by omega) (by unfold rg; omega) ?_
      have w7 : -1 ≤ (Xi S 885 (((Xi S 882 3)).toNat)) ∧ (Xi S 885 (((Xi S 882 3)).toNat)) ≤ 7 := hH.c _ _
      refine l_iconst rfl ?_
      refine l_icmp_ne rfl rfl (by unfold rg; omega) (by unfold rg; omega) (fun w8 => ?_) (fun w9 => ?_)
      · refine l_iconst rfl ?_
        refine l_ireturn rfl rfl ?_
        exact ⟨hH, hF, _, rfl, ⟨by omega, by omega⟩, (by first | exact KCM.rf | exact hk1 | exact hk2), (by omega)⟩
      · refine l_iconst rfl ?_
        refine l_goto rfl rfl ?_
        refine l_ireturn rfl rfl ?_
        exact ⟨hH, hF, _, rfl, ⟨by omega, by omega⟩, (by first | exact KCM.rf | exact hk1 | exact hk2), (by omega)⟩
  · refine l_aload_n rfl rfl ?_
    refine l_gfr rfl rfl rfl rfl rfl (hH.r 882 6 885 rfl) ?_
    refine l_aload_n rfl rfl ?_
    refine l_gfi rfl rfl rfl rfl rfl ?_
    refine l_iaload (n := 20) rfl rfl (by omega) (by omega) (by unfold rg; omega) ?_
    have w10 : -1 ≤ (Xi S 885 (((Xi S 882 3)).toNat)) ∧ (Xi S 885 (((Xi S 882 3)).toNat)) ≤ 7 := hH.c _ _
    refine l_iconst rfl ?_
    refine l_icmp_ne rfl rfl (by unfold rg; omega) (by unfold rg; omega) (fun w11 => ?_) (fun w12 => ?_)
    · refine l_iload_n rfl rfl ?_
      refine l_bipush rfl rfl ?_
      refine l_icmp_ne rfl rfl (by unfold rg; omega) (by unfold rg; omega) (fun w13 => ?_) (fun w14 => ?_)
      · refine l_aload_n rfl rfl ?_
        refine l_gfr rfl rfl rfl rfl rfl (hH.r 882 1 1 rfl) ?_
        refine l_aload_n rfl rfl ?_
        refine l_gfr rfl rfl rfl rfl rfl (hH.r 882 9 888 rfl) ?_
        refine l_iconst rfl ?_
        refine l_aload_n rfl rfl ?_
        refine l_gfi rfl rfl rfl rfl rfl ?_
        have w15 : 0 ≤ (Xi S 882 10) ∧ (Xi S 882 10) ≤ 5000 := hH.c _ _
        refine l_callV rfl rfl rfl (t_vo_meaning hH 888 3 0 (Xi S 882 10) rfl ⟨by omega, by omega⟩ ⟨by omega, by omega⟩ ⟨by omega, by omega⟩ (by first | assumption | exact (LEX_FR hF rfl rfl (by assumption : LEX S))) _) ?_
        rintro _ _ ⟨rfl, z19, rfl, w19, w16, w17, w18⟩
        show Rl _ _ _ _ _ [iv z19] _ _
        have hmnz19 := mOK_n (z := z19) (by assumption)
        refine l_istore_n rfl rfl rfl ?_
        refine l_aload_n rfl rfl ?_
        refine l_gfr rfl rfl rfl rfl rfl (hH.r 882 7 886 rfl) ?_
        refine l_aload_n rfl rfl ?_
        refine l_gfi rfl rfl rfl rfl rfl ?_
        refine l_iload_n rfl rfl ?_
        refine l_sipush rfl rfl ?_
        refine l_iand255 rfl (by unfold rg; omega) ?_
        refine l_iastore (n := 20) rfl rfl (by omega) (by omega) (by unfold rg; omega) ?_
        obtain ⟨U1, eU1⟩ : ∃ T : sS, T = uI S 886 (((Xi S 882 3)).toNat) (Int32.ofInt (z19 % 256)) := ⟨_, rfl⟩
        rw [← eU1]
        have hHU1 : HI U1 := by rw [eU1]; exact HI_w hH (show -2 ≤ (z19 % 256) by omega) (show (z19 % 256) ≤ 255 by omega)
        have hFU1 : FR md_co_suits S U1 := by rw [eU1]; exact FR.wI hF (mdf_i (r := (886, 887, 0, 100000)) (List.mem_of_getElem? (i := 0) rfl) (inR_i (by omega) (by omega) (by omega) (by omega)))
        have w21 : Xi U1 886 (((Xi S 882 3)).toNat) = (z19 % 256) := by rw [eU1]; exact Xi_same (by unfold rg; omega)
        have hk2 : KCM S U1 := kcm_w6 eU1 KCM.rf (by omega) (by omega)
        have h85 : ∀ j, Xi U1 885 j = Xi S 885 j := fun j => ((FR_e eU1).cx 885 rfl j).1
        have h85c := h85 (Xi S 882 3).toNat
        refine l_iload_n rfl rfl ?_
        refine l_bipush rfl rfl ?_
        refine l_ishr8 rfl (by unfold rg; omega) ?_
        refine l_if_ne rfl rfl (by unfold rg; omega) (fun w23 => ?_) (fun w24 => ?_)
        · refine l_iconst rfl ?_
          refine l_ireturn rfl rfl ?_
          exact ⟨hHU1, hFU1, _, rfl, ⟨by omega, by omega⟩, (by first | exact KCM.rf | exact hk1 | exact hk2), (by omega)⟩
        · refine l_aload_n rfl rfl ?_
          refine l_gfr rfl rfl rfl rfl rfl (hHU1.r 882 1 1 rfl) ?_
          refine l_iload_n rfl rfl ?_
          refine l_sipush rfl rfl ?_
          refine l_iand255 rfl (by unfold rg; omega) ?_
          have w26 := fb0 hH (lx (z := z19) (by assumption) (by omega) (by omega))
          refine l_iload_n rfl rfl ?_
          refine l_callV rfl rfl rfl (t_vo_isKind hHU1 (z19 % 256) (Xi S 19 ((act).toNat)) ⟨by omega, by omega⟩ ⟨by omega, by omega⟩ _) ?_
          rintro _ _ ⟨rfl, z28, rfl, w28, w27⟩
          show Rl _ _ _ _ _ [iv z28] _ _
          refine l_if_eq rfl rfl (by unfold rg; omega) (fun w29 => ?_) (fun w30 => ?_)
          · refine l_iconst rfl ?_
            refine l_ireturn rfl rfl ?_
            exact ⟨hHU1, hFU1, _, rfl, ⟨by omega, by omega⟩, (by first | exact KCM.rf | exact hk1 | exact hk2), (by omega)⟩
          · refine l_iconst rfl ?_
            refine l_goto rfl rfl ?_
            refine l_ireturn rfl rfl ?_
            exact ⟨hHU1, hFU1, _, rfl, ⟨by omega, by omega⟩, (by first | exact KCM.rf | exact hk1 | exact hk2), (by omega)⟩
      · refine l_aload_n rfl rfl ?_
        refine l_gfr rfl rfl rfl rfl rfl (hH.r 882 7 886 rfl) ?_
        refine l_aload_n rfl rfl ?_
        refine l_gfi rfl rfl rfl rfl rfl ?_
        refine l_bipush rfl rfl ?_
        refine l_iastore (n := 20) rfl rfl (by omega) (by omega) (by unfold rg; omega) ?_
        obtain ⟨U2, eU2⟩ : ∃ T : sS, T = uI S 886 (((Xi S 882 3)).toNat) (Int32.ofInt (-2)) := ⟨_, rfl⟩
        rw [← eU2]
        have hHU2 : HI U2 := by rw [eU2]; exact HI_w hH (show -2 ≤ (-2) by omega) (show (-2) ≤ 255 by omega)
        have hFU2 : FR md_co_suits S U2 := by rw [eU2]; exact FR.wI hF (mdf_i (r := (886, 887, 0, 100000)) (List.mem_of_getElem? (i := 0) rfl) (inR_i (by omega) (by omega) (by omega) (by omega)))
        have w31 : Xi U2 886 (((Xi S 882 3)).toNat) = (-2) := by rw [eU2]; exact Xi_same (by unfold rg; omega)
        have hk1 : KCM S U2 := kcm_w6 eU2 KCM.rf (by omega) (by omega)
        have h85 : ∀ j, Xi U2 885 j = Xi S 885 j := fun j => ((FR_e eU2).cx 885 rfl j).1
        have h85c := h85 (Xi S 882 3).toNat
        refine l_aload_n rfl rfl ?_
        refine l_gfi rfl rfl rfl rfl rfl ?_
        have w32 : 0 ≤ (Xi U2 882 10) ∧ (Xi U2 882 10) ≤ 5000 := hHU2.c _ _
        refine l_iconst rfl ?_
        refine l_icmp_ne rfl rfl (by unfold rg; omega) (by unfold rg; omega) (fun w33 => ?_) (fun w34 => ?_)
        · refine l_iconst rfl ?_
          refine l_ireturn rfl rfl ?_
          exact ⟨hHU2, hFU2, _, rfl, ⟨by omega, by omega⟩, (by first | exact KCM.rf | exact hk1 | exact hk2), (by omega)⟩
        · refine l_aload_n rfl rfl ?_
          refine l_gfr rfl rfl rfl rfl rfl (hHU2.r 882 9 888 rfl) ?_
          refine l_iconst rfl ?_
          refine l_laload (n := 3) rfl rfl (by omega) (by omega) (by unfold rg; omega) ?_
          have w35 : -9223372036854775808 ≤ (Xj U2 888 ((0 : Int).toNat)) ∧ (Xj U2 888 ((0 : Int).toNat)) < 9223372036854775808 := Xj_rg
          refine l_ldcR (i := 35) rfl rfl ?_
          refine l_callS rfl rfl (by decide) rfl (t_vo_codeOf hHU2 35 _ rfl _) ?_
          rintro _ _ ⟨rfl, z36, rfl⟩
          show Rl _ _ _ _ _ [jw z36, jw (Xj U2 888 ((0 : Int).toNat))] _ _
          refine l_lcmpA rfl (fun c37 w37 => ?_)
          refine l_if_ne rfl rfl (by unfold rg; omega) (fun w38 => ?_) (fun w39 => ?_)
          · refine l_iconst rfl ?_
            refine l_ireturn rfl rfl ?_
            exact ⟨hHU2, hFU2, _, rfl, ⟨by omega, by omega⟩, (by first | exact KCM.rf | exact hk1 | exact hk2), (by omega)⟩
          · refine l_iconst rfl ?_
            refine l_goto rfl rfl ?_
            refine l_ireturn rfl rfl ?_
            exact ⟨hHU2, hFU2, _, rfl, ⟨by omega, by omega⟩, (by first | exact KCM.rf | exact hk1 | exact hk2), (by omega)⟩
    · refine l_iload_n rfl rfl ?_
      refine l_iconst rfl ?_
      refine l_icmp_ne rfl rfl (by unfold rg; omega) (by unfold rg; omega) (fun w40 => ?_) (fun w41 => ?_)
      · refine l_iconst rfl ?_
        refine l_ireturn rfl rfl ?_
        exact ⟨hH, hF, _, rfl, ⟨by omega, by omega⟩, (by first | exact KCM.rf | exact hk1 | exact hk2), (by omega)⟩
      · refine l_aload_n rfl rfl ?_
        refine l_gfr rfl rfl rfl rfl rfl (hH.r 882 6 885 rfl) ?_
        refine l_aload_n rfl rfl ?_
        refine l_gfi rfl rfl rfl rfl rfl ?_
        refine l_iaload (n := 20) rfl rfl (by omega) (by omega) (by unfold rg; omega) ?_
        refine l_iconst rfl ?_
        refine l_icmp_ne rfl rfl (by unfold rg; omega) (by unfold rg; omega) (fun w42 => ?_) (fun w43 => ?_)
        · refine l_iconst rfl ?_
          refine l_ireturn rfl rfl ?_
          exact ⟨hH, hF, _, rfl, ⟨by omega, by omega⟩, (by first | exact KCM.rf | exact hk1 | exact hk2), (by omega)⟩
        · refine l_iconst rfl ?_
          refine l_goto rfl rfl ?_
          refine l_ireturn rfl rfl ?_
          exact ⟨hH, hF, _, rfl, ⟨by omega, by omega⟩, (by first | exact KCM.rf | exact hk1 | exact hk2), (by omega)⟩

