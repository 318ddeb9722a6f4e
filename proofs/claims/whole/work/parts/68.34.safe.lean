/-! SAFETY of methods: printed by wip/safe (vc.py, decl.py) -/
def md_co_takeText__2 : List rec := [(882, 883, 10, 11), (884, 885, 0, 100000), (885, 886, 0, 100000), (886, 887, 0, 100000), (887, 888, 0, 100000), (888, 889, 0, 100000)]
abbrev Q_co_takeText__2 (S : sS) (t : Nat) (from_ : Int) (to : Int) : pst := fun r S1 => HI S1 ∧ FR md_co_takeText__2 S S1 ∧ (∃ z : Int, r = some (iv z) ∧ (0 ≤ z ∧ z ≤ 1) ∧ (KCM S S1))
set_option maxRecDepth 100000 in
theorem t_co_takeText__2 {S : sS} (hH : HI S) (t : Nat) (from_ : Int) (to : Int) (ht : tp t) (hfrom_ : 0 ≤ from_ ∧ from_ ≤ 5000) (hto : 0 ≤ to ∧ to ≤ 5000) (hc : Xi S 882 3 < 20) (d : Nat) : Mt lay0 (d + 4) m_co_takeText [.ref 882, .ref t, iv from_, iv to] S (Q_co_takeText__2 S t from_ to) := by
  refine Mt_R rfl rfl ?_
  have hF : FR md_co_takeText__2 S S := FR.rf
  have w1 : 0 ≤ Xi S 882 3 ∧ Xi S 882 3 ≤ 20 := hH.c _ _
  have h20 : 0 ≤ Xi S 882 3 ∧ Xi S 882 3 ≤ 20 := hH.c _ _
  have C26 : ∀ (n26 : Nat) (T1 : sS) (_ : HI T1) (_ : FR md_co_takeText__2 S T1) (v4 : Int) (v5 : Int), (0 ≤ v4 ∧ v4 ≤ 8) → (0 ≤ v5 ∧ v5 ≤ 5000) → (from_ ≤ v5) → (v5 ≤ to ∨ v5 = from_) → (0 ≤ v4 ∧ v4 ≤ 8) → (KCM S T1) → n26 = (5001 - v5).toNat → Rl lay0 (d + 3) m_co_takeText 26 [(0, .ref 882), (1, .ref t), (3, iv to), (4, iv v4), (5, iv v5)] [] T1 (Q_co_takeText__2 S t from_ to) := by
    intro n26
    induction n26 using Nat.strongRecOn with
    | ind n26 ih26 =>
      intro T1 hHT1 hFT1 v4 v5 w2 w3 w4 w5 w6 hk26 hm26
      have w7 : Xi T1 882 3 = Xi S 882 3 := hFT1.x _ _ rfl
      refine l_iload rfl rfl ?_
      refine l_iload_n rfl rfl ?_
      refine l_icmp_ge rfl rfl (by unfold rg; omega) (by unfold rg; omega) (fun w8 => ?_) (fun w9 => ?_)
      · refine l_aload_n rfl rfl ?_
        refine l_gfr rfl rfl rfl rfl rfl (hHT1.r 882 5 884 rfl) ?_
        refine l_aload_n rfl rfl ?_
        refine l_gfi rfl rfl rfl rfl rfl ?_
        refine l_iload rfl rfl ?_
        refine l_iastore (n := 20) rfl rfl (by omega) (by omega) (by unfold rg; omega) ?_
        obtain ⟨U2, eU2⟩ : ∃ T : sS, T = uI T1 884 (((Xi T1 882 3)).toNat) (Int32.ofInt v4) := ⟨_, rfl⟩
        rw [← eU2]
        have hHU2 : HI U2 := by rw [eU2]; exact HI_w hHT1 (show 0 ≤ v4 by omega) (show v4 ≤ 8 by omega)
        have hFU2 : FR md_co_takeText__2 S U2 := by rw [eU2]; exact FR.wI hFT1 (mdf_i (r := (884, 885, 0, 100000)) (List.mem_of_getElem? (i := 1) rfl) (inR_i (by omega) (by omega) (by omega) (by omega)))
        have w10 : Xi U2 884 (((Xi T1 882 3)).toNat) = v4 := by rw [eU2]; exact Xi_same (by unfold rg; omega)
        have hk209 : KCM S U2 := kcm_f (FR_e eU2) rfl hk26
        refine l_iload rfl rfl ?_
        refine l_if_le rfl rfl (by unfold rg; omega) (fun w11 => ?_) (fun w12 => ?_)
        · refine l_iconst rfl ?_
          refine l_ireturn rfl rfl ?_
          exact ⟨hHU2, hFU2, _, rfl, ⟨by omega, by omega⟩, (by first | exact hk209 | exact hk105 | exact hk144 | exact hk26)⟩
        · refine l_iconst rfl ?_
          refine l_goto rfl rfl ?_
          refine l_ireturn rfl rfl ?_
          exact ⟨hHU2, hFU2, _, rfl, ⟨by omega, by omega⟩, (by first | exact hk209 | exact hk105 | exact hk144 | exact hk26)⟩
      · refine l_aload_n rfl rfl ?_
        refine l_iload rfl rfl ?_
        refine l_baload (n := 5000) rfl (tp_sv (by assumption)) (lay_tp (by assumption)) (by decide) (by omega) (by omega) (by unfold rg; omega) ?_
        have w13 : -128 ≤ (Xi T1 t ((v5).toNat)) ∧ (Xi T1 t ((v5).toNat)) ≤ 127 := tpc hHT1 (by assumption)
        refine l_bipush rfl rfl ?_
        refine l_icmp_ne rfl rfl (by unfold rg; omega) (by unfold rg; omega) (fun w14 => ?_) (fun w15 => ?_)
        · refine l_iload rfl rfl ?_
          refine l_bipush rfl rfl ?_
          refine l_icmp_eq rfl rfl (by unfold rg; omega) (by unfold rg; omega) (fun w16 => ?_) (fun w17 => ?_)
          · refine l_iconst rfl ?_
            refine l_ireturn rfl rfl ?_
            exact ⟨hHT1, hFT1, _, rfl, ⟨by omega, by omega⟩, (by first | exact hk209 | exact hk105 | exact hk144 | exact hk26)⟩
          · refine l_aload_n rfl rfl ?_
            refine l_iload rfl rfl ?_
            refine l_baload (n := 5000) rfl (tp_sv (by assumption)) (lay_tp (by assumption)) (by decide) (by omega) (by omega) (by unfold rg; omega) ?_
            refine l_bipush rfl rfl ?_
            refine l_icmp_ne rfl rfl (by unfold rg; omega) (by unfold rg; omega) (fun w18 => ?_) (fun w19 => ?_)
            · refine l_aload_n rfl rfl ?_
              refine l_iload rfl rfl ?_
              refine l_baload (n := 5000) rfl (tp_sv (by assumption)) (lay_tp (by assumption)) (by decide) (by omega) (by omega) (by unfold rg; omega) ?_
              refine l_bipush rfl rfl ?_
              refine l_icmp_ne rfl rfl (by unfold rg; omega) (by unfold rg; omega) (fun w20 => ?_) (fun w21 => ?_)
              · refine l_aload_n rfl rfl ?_
                refine l_iload rfl rfl ?_
                refine l_iload_n rfl rfl ?_
                refine l_callS rfl rfl (by decide) rfl (t_co_wordEnd hHT1 t v5 to ht ⟨by omega, by omega⟩ ⟨by omega, by omega⟩ _) ?_
                rintro _ _ ⟨rfl, z23, rfl, w23, w22⟩
                show Rl _ _ _ _ _ [iv z23] _ _
                refine l_istore rfl rfl rfl ?_
                refine l_aload_n rfl rfl ?_
                refine l_gfr rfl rfl rfl rfl rfl (hHT1.r 882 8 887 rfl) ?_
                refine l_aload_n rfl rfl ?_
                refine l_gfi rfl rfl rfl rfl rfl ?_
                refine l_bipush rfl rfl ?_
                refine l_imul rfl ?_
                refine l_iload rfl rfl ?_
                refine l_iadd rfl ?_
                refine l_aload_n rfl rfl ?_
                refine l_iload rfl rfl ?_
                refine l_iload rfl rfl ?_
                refine l_callS rfl rfl (by decide) rfl (t_co_codeOf hHT1 t v5 z23 ht ⟨by omega, by omega⟩ ⟨by omega, by omega⟩ _) ?_
                rintro _ _ ⟨rfl, z24, rfl⟩
                show Rl _ _ _ _ _ [jw z24, iv (((Xi T1 882 3) * 8) + v4), .ref 887] _ _
                refine l_lastore (n := 160) rfl rfl (by omega) (by omega) (by unfold rg; omega) ?_
                obtain ⟨U3, eU3⟩ : ∃ T : sS, T = uJ T1 887 (((((Xi T1 882 3) * 8) + v4)).toNat) (Int64.ofInt z24) := ⟨_, rfl⟩
                rw [← eU3]
                have hHU3 : HI U3 := by rw [eU3]; exact HI_J hHT1
                have hFU3 : FR md_co_takeText__2 S U3 := by rw [eU3]; exact FR.wJ hFT1 (mdf_i (r := (887, 888, 0, 100000)) (List.mem_of_getElem? (i := 4) rfl) (inR_i (by omega) (by omega) (by omega) (by omega)))
                have hk144 : KCM S U3 := kcm_f (FR_J eU3) rfl hk26
                refine l_iload rfl rfl ?_
                refine l_iload rfl rfl ?_
                refine l_icmp_le rfl rfl (by unfold rg; omega) (by unfold rg; omega) (fun w25 => ?_) (fun w26 => ?_)
                · refine l_iconst rfl ?_
                  refine l_istore rfl rfl rfl ?_
                  refine l_iload rfl rfl ?_
                  refine l_iconst rfl ?_
                  refine l_icmp_eq rfl rfl (by unfold rg; omega) (by unfold rg; omega) (fun w27 => ?_) (fun w28 => absurd w28 (by omega))
                  · refine l_iconst rfl ?_
                    refine l_ireturn rfl rfl ?_
                    exact ⟨hHU3, hFU3, _, rfl, ⟨by omega, by omega⟩, (by first | exact hk209 | exact hk105 | exact hk144 | exact hk26)⟩
                · refine l_iload rfl rfl ?_
                  refine l_iload rfl rfl ?_
                  refine l_isub rfl ?_
                  refine l_bipush rfl rfl ?_
                  refine l_icmp_gt rfl rfl (by unfold rg; omega) (by unfold rg; omega) (fun w29 => ?_) (fun w30 => ?_)
                  · refine l_iconst rfl ?_
                    refine l_istore rfl rfl rfl ?_
                    refine l_iload rfl rfl ?_
                    refine l_iconst rfl ?_
                    refine l_icmp_eq rfl rfl (by unfold rg; omega) (by unfold rg; omega) (fun w31 => ?_) (fun w32 => absurd w32 (by omega))
                    · refine l_iconst rfl ?_
                      refine l_ireturn rfl rfl ?_
                      exact ⟨hHU3, hFU3, _, rfl, ⟨by omega, by omega⟩, (by first | exact hk209 | exact hk105 | exact hk144 | exact hk26)⟩
                  · refine l_iload rfl rfl ?_
                    refine l_goto rfl rfl ?_
                    refine l_istore rfl rfl rfl ?_
                    refine l_iload rfl rfl ?_
                    refine l_iconst rfl ?_
                    refine l_icmp_eq rfl rfl (by unfold rg; omega) (by unfold rg; omega) (fun w33 => ?_) (fun w34 => ?_)
                    · refine l_iconst rfl ?_
                      refine l_ireturn rfl rfl ?_
                      exact ⟨hHU3, hFU3, _, rfl, ⟨by omega, by omega⟩, (by first | exact hk209 | exact hk105 | exact hk144 | exact hk26)⟩
                    · refine l_iload rfl rfl ?_
                      refine l_iload_n rfl rfl ?_
                      refine l_icmp_ge rfl rfl (by unfold rg; omega) (by unfold rg; omega) (fun w35 => ?_) (fun w36 => ?_)
                      · refine l_iinc rfl rfl rfl rfl ?_
                        refine l_goto rfl rfl ?_
                        exact Rl_weak (ih26 _ (by omega) U3 hHU3 hFU3 ((v4 + 1)) (z23) (by omega) (by omega) (by omega) (by omega) (by omega) (by first | exact hk105 | exact hk144 | exact hk26 | exact hk25) rfl) (And.intro rfl (And.intro rfl (And.intro rfl (And.intro rfl (And.intro rfl (True.intro))))))
                      · refine l_aload_n rfl rfl ?_
                        refine l_iload rfl rfl ?_
                        refine l_baload (n := 5000) rfl (tp_sv (by assumption)) (lay_tp (by assumption)) (by decide) (by omega) (by omega) (by unfold rg; omega) ?_
                        have w37 : -128 ≤ (Xi U3 t ((z23).toNat)) ∧ (Xi U3 t ((z23).toNat)) ≤ 127 := tpc hHU3 (by assumption)
                        refine l_bipush rfl rfl ?_
                        refine l_icmp_eq rfl rfl (by unfold rg; omega) (by unfold rg; omega) (fun w38 => ?_) (fun w39 => ?_)
                        · refine l_iinc rfl rfl rfl rfl ?_
                          refine l_goto rfl rfl ?_
                          exact Rl_weak (ih26 _ (by omega) U3 hHU3 hFU3 ((v4 + 1)) (z23) (by omega) (by omega) (by omega) (by omega) (by omega) (by first | exact hk105 | exact hk144 | exact hk26 | exact hk25) rfl) (And.intro rfl (And.intro rfl (And.intro rfl (And.intro rfl (And.intro rfl (True.intro))))))
                        · refine l_iconst rfl ?_
                          refine l_ireturn rfl rfl ?_
                          exact ⟨hHU3, hFU3, _, rfl, ⟨by omega, by omega⟩, (by first | exact hk209 | exact hk105 | exact hk144 | exact hk26)⟩
              · refine l_aload_n rfl rfl ?_
                refine l_gfr rfl rfl rfl rfl rfl (hHT1.r 882 6 885 rfl) ?_
                refine l_aload_n rfl rfl ?_
                refine l_gfi rfl rfl rfl rfl rfl ?_
                refine l_iload rfl rfl ?_
                refine l_iastore (n := 20) rfl rfl (by omega) (by omega) (by unfold rg; omega) ?_
                obtain ⟨U4, eU4⟩ : ∃ T : sS, T = uI T1 885 (((Xi T1 882 3)).toNat) (Int32.ofInt v4) := ⟨_, rfl⟩
                rw [← eU4]
                have hHU4 : HI U4 := by rw [eU4]; exact HI_w hHT1 (show -1 ≤ v4 by omega) (show v4 ≤ 7 by omega)
                have hFU4 : FR md_co_takeText__2 S U4 := by rw [eU4]; exact FR.wI hFT1 (mdf_i (r := (885, 886, 0, 100000)) (List.mem_of_getElem? (i := 2) rfl) (inR_i (by omega) (by omega) (by omega) (by omega)))
                have w40 : Xi U4 885 (((Xi T1 882 3)).toNat) = v4 := by rw [eU4]; exact Xi_same (by unfold rg; omega)
                have hk97 : KCM S U4 := kcm_w5 eU4 hk26 (by omega) (by omega)
                refine l_aload_n rfl rfl ?_
                refine l_aload_n rfl rfl ?_
                refine l_iload rfl rfl ?_
                refine l_iconst rfl ?_
                refine l_iadd rfl ?_
                refine l_iload_n rfl rfl ?_
                refine l_callV rfl rfl rfl (t_co_takeGap hHU4 t (v5 + 1) to ht ⟨by omega, by omega⟩ ⟨by omega, by omega⟩ _) ?_
                rintro _ T5 ⟨hHT5, w43, z42, rfl, w42, w41⟩
                have hFT5 : FR md_co_takeText__2 S T5 := FR.tr hFU4 w43 rfl
                show Rl _ _ _ _ _ [iv z42] _ _
                have hk105 : KCM S T5 := kcm_f (by assumption : FR md_co_takeGap U4 T5) rfl hk97
                refine l_istore rfl rfl rfl ?_
                refine l_goto rfl rfl ?_
                refine l_iload rfl rfl ?_
                refine l_iconst rfl ?_
                refine l_icmp_eq rfl rfl (by unfold rg; omega) (by unfold rg; omega) (fun w44 => ?_) (fun w45 => ?_)
                · refine l_iconst rfl ?_
                  refine l_ireturn rfl rfl ?_
                  exact ⟨hHT5, hFT5, _, rfl, ⟨by omega, by omega⟩, (by first | exact hk209 | exact hk105 | exact hk144 | exact hk26)⟩
                · refine l_iload rfl rfl ?_
                  refine l_iload_n rfl rfl ?_
                  refine l_icmp_ge rfl rfl (by unfold rg; omega) (by unfold rg; omega) (fun w46 => ?_) (fun w47 => ?_)
                  · refine l_iinc rfl rfl rfl rfl ?_
                    refine l_goto rfl rfl ?_
                    exact Rl_weak (ih26 _ (by omega) T5 hHT5 hFT5 ((v4 + 1)) (z42) (by omega) (by omega) (by omega) (by omega) (by omega) (by first | exact hk105 | exact hk144 | exact hk26 | exact hk25) rfl) (And.intro rfl (And.intro rfl (And.intro rfl (And.intro rfl (And.intro rfl (True.intro))))))
                  · refine l_aload_n rfl rfl ?_
                    refine l_iload rfl rfl ?_
                    refine l_baload (n := 5000) rfl (tp_sv (by assumption)) (lay_tp (by assumption)) (by decide) (by omega) (by omega) (by unfold rg; omega) ?_
                    have w48 : -128 ≤ (Xi T5 t ((z42).toNat)) ∧ (Xi T5 t ((z42).toNat)) ≤ 127 := tpc hHT5 (by assumption)
                    refine l_bipush rfl rfl ?_
                    refine l_icmp_eq rfl rfl (by unfold rg; omega) (by unfold rg; omega) (fun w49 => ?_) (fun w50 => ?_)
                    · refine l_iinc rfl rfl rfl rfl ?_
                      refine l_goto rfl rfl ?_
                      exact Rl_weak (ih26 _ (by omega) T5 hHT5 hFT5 ((v4 + 1)) (z42) (by omega) (by omega) (by omega) (by omega) (by omega) (by first | exact hk105 | exact hk144 | exact hk26 | exact hk25) rfl) (And.intro rfl (And.intro rfl (And.intro rfl (And.intro rfl (And.intro rfl (True.intro))))))
                    · refine l_iconst rfl ?_
                      refine l_ireturn rfl rfl ?_
                      exact ⟨hHT5, hFT5, _, rfl, ⟨by omega, by omega⟩, (by first | exact hk209 | exact hk105 | exact hk144 | exact hk26)⟩
            · refine l_aload_n rfl rfl ?_
              refine l_gfr rfl rfl rfl rfl rfl (hHT1.r 882 6 885 rfl) ?_
              refine l_aload_n rfl rfl ?_
              refine l_gfi rfl rfl rfl rfl rfl ?_
              refine l_iaload (n := 20) rfl rfl (by omega) (by omega) (by unfold rg; omega) ?_
              have w51 : -1 ≤ (Xi T1 885 (((Xi T1 882 3)).toNat)) ∧ (Xi T1 885 (((Xi T1 882 3)).toNat)) ≤ 7 := hHT1.c _ _
              refine l_iconst rfl ?_
              refine l_icmp_eq rfl rfl (by unfold rg; omega) (by unfold rg; omega) (fun w52 => ?_) (fun w53 => ?_)
              · refine l_aload_n rfl rfl ?_
                refine l_iload rfl rfl ?_
                refine l_baload (n := 5000) rfl (tp_sv (by assumption)) (lay_tp (by assumption)) (by decide) (by omega) (by omega) (by unfold rg; omega) ?_
                refine l_bipush rfl rfl ?_
                refine l_icmp_ne rfl rfl (by unfold rg; omega) (by unfold rg; omega) (fun w54 => ?_) (fun w55 => ?_)
                · refine l_aload_n rfl rfl ?_
                  refine l_iload rfl rfl ?_
                  refine l_iload_n rfl rfl ?_
                  refine l_callS rfl rfl (by decide) rfl (t_co_wordEnd hHT1 t v5 to ht ⟨by omega, by omega⟩ ⟨by omega, by omega⟩ _) ?_
                  rintro _ _ ⟨rfl, z57, rfl, w57, w56⟩
                  show Rl _ _ _ _ _ [iv z57] _ _
                  refine l_istore rfl rfl rfl ?_
                  refine l_aload_n rfl rfl ?_
                  refine l_gfr rfl rfl rfl rfl rfl (hHT1.r 882 8 887 rfl) ?_
                  refine l_aload_n rfl rfl ?_
                  refine l_gfi rfl rfl rfl rfl rfl ?_
                  refine l_bipush rfl rfl ?_
                  refine l_imul rfl ?_
                  refine l_iload rfl rfl ?_
                  refine l_iadd rfl ?_
                  refine l_aload_n rfl rfl ?_
                  refine l_iload rfl rfl ?_
                  refine l_iload rfl rfl ?_
                  refine l_callS rfl rfl (by decide) rfl (t_co_codeOf hHT1 t v5 z57 ht ⟨by omega, by omega⟩ ⟨by omega, by omega⟩ _) ?_
                  rintro _ _ ⟨rfl, z58, rfl⟩
                  show Rl _ _ _ _ _ [jw z58, iv (((Xi T1 882 3) * 8) + v4), .ref 887] _ _
                  refine l_lastore (n := 160) rfl rfl (by omega) (by omega) (by unfold rg; omega) ?_
                  obtain ⟨U6, eU6⟩ : ∃ T : sS, T = uJ T1 887 (((((Xi T1 882 3) * 8) + v4)).toNat) (Int64.ofInt z58) := ⟨_, rfl⟩
                  rw [← eU6]
                  have hHU6 : HI U6 := by rw [eU6]; exact HI_J hHT1
                  have hFU6 : FR md_co_takeText__2 S U6 := by rw [eU6]; exact FR.wJ hFT1 (mdf_i (r := (887, 888, 0, 100000)) (List.mem_of_getElem? (i := 4) rfl) (inR_i (by omega) (by omega) (by omega) (by omega)))
                  have hk144 : KCM S U6 := kcm_f (FR_J eU6) rfl hk26
                  refine l_iload rfl rfl ?_
                  refine l_iload rfl rfl ?_
                  refine l_icmp_le rfl rfl (by unfold rg; omega) (by unfold rg; omega) (fun w59 => ?_) (fun w60 => ?_)
                  · refine l_iconst rfl ?_
                    refine l_istore rfl rfl rfl ?_
                    refine l_iload rfl rfl ?_
                    refine l_iconst rfl ?_
                    refine l_icmp_eq rfl rfl (by unfold rg; omega) (by unfold rg; omega) (fun w61 => ?_) (fun w62 => absurd w62 (by omega))
                    · refine l_iconst rfl ?_
                      refine l_ireturn rfl rfl ?_
                      exact ⟨hHU6, hFU6, _, rfl, ⟨by omega, by omega⟩, (by first | exact hk209 | exact hk105 | exact hk144 | exact hk26)⟩
                  · refine l_iload rfl rfl ?_
                    refine l_iload rfl rfl ?_
                    refine l_isub rfl ?_
                    refine l_bipush rfl rfl ?_
                    refine l_icmp_gt rfl rfl (by unfold rg; omega) (by unfold rg; omega) (fun w63 => ?_) (fun w64 => ?_)
                    · refine l_iconst rfl ?_
                      refine l_istore rfl rfl rfl ?_
                      refine l_iload rfl rfl ?_
                      refine l_iconst rfl ?_
                      refine l_icmp_eq rfl rfl (by unfold rg; omega) (by unfold rg; omega) (fun w65 => ?_) (fun w66 => absurd w66 (by omega))
                      · refine l_iconst rfl ?_
                        refine l_ireturn rfl rfl ?_
                        exact ⟨hHU6, hFU6, _, rfl, ⟨by omega, by omega⟩, (by first | exact hk209 | exact hk105 | exact hk144 | exact hk26)⟩
                    · refine l_iload rfl rfl ?_
                      refine l_goto rfl rfl ?_
                      refine l_istore rfl rfl rfl ?_
                      refine l_iload rfl rfl ?_
                      refine l_iconst rfl ?_
                      refine l_icmp_eq rfl rfl (by unfold rg; omega) (by unfold rg; omega) (fun w67 => ?_) (fun w68 => ?_)
                      · refine l_iconst rfl ?_
                        refine l_ireturn rfl rfl ?_
                        exact ⟨hHU6, hFU6, _, rfl, ⟨by omega, by omega⟩, (by first | exact hk209 | exact hk105 | exact hk144 | exact hk26)⟩
                      · refine l_iload rfl rfl ?_
                        refine l_iload_n rfl rfl ?_
                        refine l_icmp_ge rfl rfl (by unfold rg; omega) (by unfold rg; omega) (fun w69 => ?_) (fun w70 => ?_)
                        · refine l_iinc rfl rfl rfl rfl ?_
                          refine l_goto rfl rfl ?_
                          exact Rl_weak (ih26 _ (by omega) U6 hHU6 hFU6 ((v4 + 1)) (z57) (by omega) (by omega) (by omega) (by omega) (by omega) (by first | exact hk105 | exact hk144 | exact hk26 | exact hk25) rfl) (And.intro rfl (And.intro rfl (And.intro rfl (And.intro rfl (And.intro rfl (True.intro))))))
                        · refine l_aload_n rfl rfl ?_
                          refine l_iload rfl rfl ?_
                          refine l_baload (n := 5000) rfl (tp_sv (by assumption)) (lay_tp (by assumption)) (by decide) (by omega) (by omega) (by unfold rg; omega) ?_
                          have w71 : -128 ≤ (Xi U6 t ((z57).toNat)) ∧ (Xi U6 t ((z57).toNat)) ≤ 127 := tpc hHU6 (by assumption)
                          refine l_bipush rfl rfl ?_
                          refine l_icmp_eq rfl rfl (by unfold rg; omega) (by unfold rg; omega) (fun w72 => ?_) (fun w73 => ?_)
                          · refine l_iinc rfl rfl rfl rfl ?_
                            refine l_goto rfl rfl ?_
                            exact Rl_weak (ih26 _ (by omega) U6 hHU6 hFU6 ((v4 + 1)) (z57) (by omega) (by omega) (by omega) (by omega) (by omega) (by first | exact hk105 | exact hk144 | exact hk26 | exact hk25) rfl) (And.intro rfl (And.intro rfl (And.intro rfl (And.intro rfl (And.intro rfl (True.intro))))))
                          · refine l_iconst rfl ?_
                            refine l_ireturn rfl rfl ?_
                            exact ⟨hHU6, hFU6, _, rfl, ⟨by omega, by omega⟩, (by first | exact hk209 | exact hk105 | exact hk144 | exact hk26)⟩
                · refine l_aload_n rfl rfl ?_
                  refine l_gfr rfl rfl rfl rfl rfl (hHT1.r 882 6 885 rfl) ?_
                  refine l_aload_n rfl rfl ?_
                  refine l_gfi rfl rfl rfl rfl rfl ?_
                  refine l_iload rfl rfl ?_
                  refine l_iastore (n := 20) rfl rfl (by omega) (by omega) (by unfold rg; omega) ?_
                  obtain ⟨U7, eU7⟩ : ∃ T : sS, T = uI T1 885 (((Xi T1 882 3)).toNat) (Int32.ofInt v4) := ⟨_, rfl⟩
                  rw [← eU7]
                  have hHU7 : HI U7 := by rw [eU7]; exact HI_w hHT1 (show -1 ≤ v4 by omega) (show v4 ≤ 7 by omega)
                  have hFU7 : FR md_co_takeText__2 S U7 := by rw [eU7]; exact FR.wI hFT1 (mdf_i (r := (885, 886, 0, 100000)) (List.mem_of_getElem? (i := 2) rfl) (inR_i (by omega) (by omega) (by omega) (by omega)))
                  have w74 : Xi U7 885 (((Xi T1 882 3)).toNat) = v4 := by rw [eU7]; exact Xi_same (by unfold rg; omega)
                  have hk97 : KCM S U7 := kcm_w5 eU7 hk26 (by omega) (by omega)
                  refine l_aload_n rfl rfl ?_
                  refine l_aload_n rfl rfl ?_
                  refine l_iload rfl rfl ?_
                  refine l_iconst rfl ?_
                  refine l_iadd rfl ?_
                  refine l_iload_n rfl rfl ?_
                  refine l_callV rfl rfl rfl (t_co_takeGap hHU7 t (v5 + 1) to ht ⟨by omega, by omega⟩ ⟨by omega, by omega⟩ _) ?_
                  rintro _ T8 ⟨hHT8, w77, z76, rfl, w76, w75⟩
                  have hFT8 : FR md_co_takeText__2 S T8 := FR.tr hFU7 w77 rfl
                  show Rl _ _ _ _ _ [iv z76] _ _
                  have hk105 : KCM S T8 := kcm_f (by assumption : FR md_co_takeGap U7 T8) rfl hk97
                  refine l_istore rfl rfl rfl ?_
                  refine l_goto rfl rfl ?_
                  refine l_iload rfl rfl ?_
                  refine l_iconst rfl ?_
                  refine l_icmp_eq rfl rfl (by unfold rg; omega) (by unfold rg; omega) (fun w78 => ?_) (fun w79 => ?_)
                  · refine l_iconst rfl ?_
                    refine l_ireturn rfl rfl ?_
                    exact ⟨hHT8, hFT8, _, rfl, ⟨by omega, by omega⟩, (by first | exact hk209 | exact hk105 | exact hk144 | exact hk26)⟩
                  · refine l_iload rfl rfl ?_
                    refine l_iload_n rfl rfl ?_
                    refine l_icmp_ge rfl rfl (by unfold rg; omega) (by unfold rg; omega) (fun w80 => ?_) (fun w81 => ?_)
                    · refine l_iinc rfl rfl rfl rfl ?_
                      refine l_goto rfl rfl ?_
                      exact Rl_weak (ih26 _ (by omega) T8 hHT8 hFT8 ((v4 + 1)) (z76) (by omega) (by omega) (by omega) (by omega) (by omega) (by first | exact hk105 | exact hk144 | exact hk26 | exact hk25) rfl) (And.intro rfl (And.intro rfl (And.intro rfl (And.intro rfl (And.intro rfl (True.intro))))))
                    · refine l_aload_n rfl rfl ?_
                      refine l_iload rfl rfl ?_
                      refine l_baload (n := 5000) rfl (tp_sv (by assumption)) (lay_tp (by assumption)) (by decide) (by omega) (by omega) (by unfold rg; omega) ?_
                      have w82 : -128 ≤ (Xi T8 t ((z76).toNat)) ∧ (Xi T8 t ((z76).toNat)) ≤ 127 := tpc hHT8 (by assumption)
                      refine l_bipush rfl rfl ?_
                      refine l_icmp_eq rfl rfl (by unfold rg; omega) (by unfold rg; omega) (fun w83 => ?_) (fun w84 => ?_)
                      · refine l_iinc rfl rfl rfl rfl ?_
                        refine l_goto rfl rfl ?_
                        exact Rl_weak (ih26 _ (by omega) T8 hHT8 hFT8 ((v4 + 1)) (z76) (by omega) (by omega) (by omega) (by omega) (by omega) (by first | exact hk105 | exact hk144 | exact hk26 | exact hk25) rfl) (And.intro rfl (And.intro rfl (And.intro rfl (And.intro rfl (And.intro rfl (True.intro))))))
                      · refine l_iconst rfl ?_
                        refine l_ireturn rfl rfl ?_
                        exact ⟨hHT8, hFT8, _, rfl, ⟨by omega, by omega⟩, (by first | exact hk209 | exact hk105 | exact hk144 | exact hk26)⟩
              · refine l_iconst rfl ?_
                refine l_ireturn rfl rfl ?_
                exact ⟨hHT1, hFT1, _, rfl, ⟨by omega, by omega⟩, (by first | exact hk209 | exact hk105 | exact hk144 | exact hk26)⟩
        · refine l_iinc rfl rfl rfl rfl ?_
          refine l_goto rfl rfl ?_
          exact Rl_weak (ih26 _ (by omega) T1 hHT1 hFT1 (v4) ((v5 + 1)) (by omega) (by omega) (by omega) (by omega) (by omega) (by first | exact hk105 | exact hk144 | exact hk26 | exact hk25) rfl) (And.intro rfl (And.intro rfl (And.intro rfl (And.intro rfl (And.intro rfl (True.intro))))))
  refine l_iconst rfl ?_
  refine l_istore rfl rfl rfl ?_
  refine l_iload_n rfl rfl ?_
  refine l_istore rfl rfl rfl ?_
  refine l_aload_n rfl rfl ?_
  refine l_gfr rfl rfl rfl rfl rfl (hH.r 882 6 885 rfl) ?_
  refine l_aload_n rfl rfl ?_
  refine l_gfi rfl rfl rfl rfl rfl ?_
  refine l_iconst rfl ?_
  refine l_iastore (n := 20) rfl rfl (by omega) (by omega) (by unfold rg; omega) ?_
  obtain ⟨U9, eU9⟩ : ∃ T : sS, T = uI S 885 (((Xi S 882 3)).toNat) (Int32.ofInt (-1)) := ⟨_, rfl⟩
  rw [← eU9]
  have hHU9 : HI U9 := by rw [eU9]; exact HI_w hH (show -1 ≤ (-1) by omega) (show (-1) ≤ 7 by omega)
  have hFU9 : FR md_co_takeText__2 S U9 := by rw [eU9]; exact FR.wI hF (mdf_i (r := (885, 886, 0, 100000)) (List.mem_of_getElem? (i := 2) rfl) (inR_i (by omega) (by omega) (by omega) (by omega)))
  have w85 : Xi U9 885 (((Xi S 882 3)).toNat) = (-1) := by rw [eU9]; exact Xi_same (by unfold rg; omega)
  have hk15 : KCM S U9 := kcm_w5 eU9 KCM.rf (by omega) (by omega)
  refine l_aload_n rfl rfl ?_
  refine l_gfr rfl rfl rfl rfl rfl (hHU9.r 882 7 886 rfl) ?_
  refine l_aload_n rfl rfl ?_
  refine l_gfi rfl rfl rfl rfl rfl ?_
  have w86 : (Xi U9 882 3) = (Xi S 882 3) := (show Xi U9 882 3 = Xi S 882 3 from by rw [eU9]; exact Xi_ne (by omega))
  rw [w86]
  refine l_iconst rfl ?_
  refine l_iastore (n := 20) rfl rfl (by omega) (by omega) (by unfold rg; omega) ?_
  obtain ⟨U10, eU10⟩ : ∃ T : sS, T = uI U9 886 (((Xi S 882 3)).toNat) (Int32.ofInt (-1)) := ⟨_, rfl⟩
  rw [← eU10]
  have hHU10 : HI U10 := by rw [eU10]; exact HI_w hHU9 (show -2 ≤ (-1) by omega) (show (-1) ≤ 255 by omega)
  have hFU10 : FR md_co_takeText__2 S U10 := by rw [eU10]; exact FR.wI hFU9 (mdf_i (r := (886, 887, 0, 100000)) (List.mem_of_getElem? (i := 3) rfl) (inR_i (by omega) (by omega) (by omega) (by omega)))
  have w87 : Xi U10 886 (((Xi S 882 3)).toNat) = (-1) := by rw [eU10]; exact Xi_same (by unfold rg; omega)
  have hk25 : KCM S U10 := kcm_w6 eU10 hk15 (by omega) (by omega)
  exact Rl_weak (C26 _ U10 hHU10 hFU10 (0) (from_) (by omega) (by omega) (by omega) (by omega) (by omega) (by first | exact hk105 | exact hk144 | exact hk26 | exact hk25) rfl) (And.intro rfl (And.intro rfl (And.intro rfl (And.intro rfl (And.intro rfl (True.intro))))))
def md_co_addAs__2 : List rec := [(882, 883, 3, 4), (883, 884, 0, 100000)]
abbrev Q_co_addAs__2 (S : sS) (act : Int) : pst := fun r S1 => HI S1 ∧ FR md_co_addAs__2 S S1 ∧ (r = none ∧ (Xi S1 882 3 = Xi S 882 3 + 1) ∧ (Xi S1 883 (Xi S 882 3).toNat = act) ∧ (∀ i : Nat, (i : Int) < Xi S 882 3 → Xi S1 883 i = Xi S 883 i))
set_option maxRecDepth 100000 in
theorem t_co_addAs__2 {S : sS} (hH : HI S) (act : Int) (hact : 0 ≤ act ∧ act ≤ 11) (hc : Xi S 882 3 < 20) (d : Nat) : Mt lay0 (d + 1) m_co_addAs [.ref 882, iv act] S (Q_co_addAs__2 S act) := by
  refine Mt_R rfl rfl ?_
  have hF : FR md_co_addAs__2 S S := FR.rf
  have w1 : 0 ≤ Xi S 882 3 ∧ Xi S 882 3 ≤ 20 := hH.c _ _
  have h20 : 0 ≤ Xi S 882 3 ∧ Xi S 882 3 ≤ 20 := hH.c _ _
  refine l_aload_n rfl rfl ?_
  refine l_gfr rfl rfl rfl rfl rfl (hH.r 882 4 883 rfl) ?_
  refine l_aload_n rfl rfl ?_
  refine l_gfi rfl rfl rfl rfl rfl ?_
  refine l_iload_n rfl rfl ?_
  refine l_iastore (n := 20) rfl rfl (by omega) (by omega) (by unfold rg; omega) ?_
  obtain ⟨U1, eU1⟩ : ∃ T : sS, T = uI S 883 (((Xi S 882 3)).toNat) (Int32.ofInt act) := ⟨_, rfl⟩
  rw [← eU1]
  have hHU1 : HI U1 := by rw [eU1]; exact HI_w hH (show 0 ≤ act by omega) (show act ≤ 11 by omega)
  have hFU1 : FR md_co_addAs__2 S U1 := by rw [eU1]; exact FR.wI hF (mdf_i (r := (883, 884, 0, 100000)) (List.mem_of_getElem? (i := 1) rfl) (inR_i (by omega) (by omega) (by omega) (by omega)))
  have w2 : Xi U1 883 (((Xi S 882 3)).toNat) = act := by rw [eU1]; exact Xi_same (by unfold rg; omega)
  refine l_aload_n rfl rfl ?_
  refine l_dup rfl rfl ?_
  refine l_gfi rfl rfl rfl rfl rfl ?_
  have w3 : (Xi U1 882 3) = (Xi S 882 3) := (show Xi U1 882 3 = Xi S 882 3 from by rw [eU1]; exact Xi_ne (by omega))
  rw [w3]
  refine l_iconst rfl ?_
  refine l_iadd rfl ?_
  refine l_pfi rfl rfl rfl rfl ?_
  obtain ⟨U2, eU2⟩ : ∃ T : sS, T = uI U1 882 3 (Int32.ofInt ((Xi S 882 3) + 1)) := ⟨_, rfl⟩
  rw [← eU2]
  have hHU2 : HI U2 := by rw [eU2]; exact HI_w hHU1 (show 0 ≤ ((Xi S 882 3) + 1) by omega) (show ((Xi S 882 3) + 1) ≤ 20 by omega)
  have hFU2 : FR md_co_addAs__2 S U2 := by rw [eU2]; exact FR.wI hFU1 (mdf_i (r := (882, 883, 3, 4)) (List.mem_of_getElem? (i := 0) rfl) (inR_i (by omega) (by omega) (by omega) (by omega)))
  have w4 : Xi U2 882 3 = ((Xi S 882 3) + 1) := by rw [eU2]; exact Xi_same (by unfold rg; omega)
  refine l_return rfl rfl ?_
  have w5 : 0 ≤ Xi U2 882 3 ∧ Xi U2 882 3 ≤ 20 := hHU2.c _ _
  exact ⟨hHU2, hFU2, rfl, (by omega), (by rw [eU2, Xi_ne (by omega)]; omega), (fun i hi => by rw [eU2, Xi_ne (by omega), eU1, Xi_ne (by omega)])⟩
def md_co_suits : List rec := [(886, 887, 0, 100000)]
abbrev Q_co_suits (S : sS) (act : Int) : pst := fun r S1 => HI S1 ∧ FR md_co_suits S S1 ∧ (∃ z : Int, r = some (iv z) ∧ (0 ≤ z ∧ z ≤ 1) ∧ (KCM S S1) ∧ (z = 1 → (Xi S1 885 (Xi S 882 3).toNat = -1 → Xi S 19 act.toNat = -1) ∧ (Xi S 19 act.toNat = -2 → Xi S1 886 (Xi S 882 3).toNat = -2)))
set_option maxRecDepth 100000 in
theorem t_co_suits {S : sS} (hH : HI S) (act : Int) (hact : 0 ≤ act ∧ act ≤ 11) (hL : LEX S) (hc : Xi S 882 3 < 20) (d : Nat) : Mt lay0 (d + 5) m_co_suits [.ref 882, iv act] S (Q_co_suits S act) := by
  refine Mt_R rfl rfl ?_
  have hF : FR md_co_suits S S := FR.rf
  have w1 : 0 ≤ Xi S 882 3 ∧ Xi S 882 3 ≤ 20 := hH.c _ _
  have h20 : 0 ≤ Xi S 882 3 ∧ Xi S 882 3 ≤ 20 := hH.c _ _
  refine l_aload_n rfl rfl ?_
  refine l_gfr rfl rfl rfl rfl rfl (hH.r 882 1 1 rfl) ?_
  refine l_gfr rfl rfl rfl rfl rfl (hH.r 1 18 19 rfl) ?_
  refine l_iload_n rfl rfl ?_
  refine l_iaload (n := 12) rfl rfl (by omega) (by omega) (by unfold rg; omega) ?_
  have w2 : -2 ≤ (Xi S 19 ((act).toNat)) ∧ (Xi S 19 ((act).toNat)) ≤ 15 := hH.c _ _
  refine l_istore_n rfl rfl rfl ?_
  refine l_iload_n rfl rfl ?_
  refine l_iconst rfl ?_
  refine l_icmp_eq rfl rfl (by unfold rg; omega) (by unfold rg; omega) (fun w3 => ?_) (fun w4 => ?_)
  · refine l_iload_n rfl rfl ?_
    refine l_iconst rfl ?_
    refine l_icmp_ne rfl rfl (by unfold rg; omega) (by unfold rg; omega) (fun w5 => ?_) (fun w6 => ?_)
    · refine l_iconst rfl ?_
      refine l_ireturn rfl rfl ?_
      exact ⟨hH, hF, _, rfl, ⟨by omega, by omega⟩, (by first | exact KCM.rf | exact hk1 | exact hk2), (by omega)⟩
    · refine l_aload_n rfl rfl ?_
      refine l_gfr rfl rfl rfl rfl rfl (hH.r 882 6 885 rfl) ?_
      refine l_aload_n rfl rfl ?_
      refine l_gfi rfl rfl rfl rfl rfl ?_
      refine l_iaload (n := 20) rfl rfl (by omega) (by omega) (by unfold rg; omega) ?_
      have w7 : -1 ≤ (Xi S 885 (((Xi S 882 3)).toNat)) ∧ (Xi S 885 (((Xi S 882 3)).toNat)) ≤ 7 := hH.c _ _
      refine l_iconst rfl ?_
      refine l_icmp_ne rfl rfl (by unfold rg; omega) (by unfold rg; omega) (fun w8 => ?_) (fun w9 => ?_)
      · refine l_iconst rfl ?_
        refine l_ireturn rfl rfl ?_
        exact ⟨hH, hF, _, rfl, ⟨by omega, by omega⟩, (by first | exact KCM.rf | exact hk1 | exact hk2), (by omega)⟩
      · refine l_iconst rfl ?_
        refine l_goto rfl rfl ?_
        refine l_ireturn rfl rfl ?_
        exact ⟨hH, hF, _, rfl, ⟨by omega, by omega⟩, (by first | exact KCM.rf | exact hk1 | exact hk2), (by omega)⟩
  · refine l_aload_n rfl rfl ?_
    refine l_gfr rfl rfl rfl rfl rfl (hH.r 882 6 885 rfl) ?_
    refine l_aload_n rfl rfl ?_
    refine l_gfi rfl rfl rfl rfl rfl ?_
    refine l_iaload (n := 20) rfl rfl (by omega) (by omega) (by unfold rg; omega) ?_
    have w10 : -1 ≤ (Xi S 885 (((Xi S 882 3)).toNat)) ∧ (Xi S 885 (((Xi S 882 3)).toNat)) ≤ 7 := hH.c _ _
    refine l_iconst rfl ?_
    refine l_icmp_ne rfl rfl (by unfold rg; omega) (by unfold rg; omega) (fun w11 => ?_) (fun w12 => ?_)
    · refine l_iload_n rfl rfl ?_
      refine l_bipush rfl rfl ?_
      refine l_icmp_ne rfl rfl (by unfold rg; omega) (by unfold rg; omega) (fun w13 => ?_) (fun w14 => ?_)
      · refine l_aload_n rfl rfl ?_
        refine l_gfr rfl rfl rfl rfl rfl (hH.r 882 1 1 rfl) ?_
        refine l_aload_n rfl rfl ?_
        refine l_gfr rfl rfl rfl rfl rfl (hH.r 882 9 888 rfl) ?_
        refine l_iconst rfl ?_
        refine l_aload_n rfl rfl ?_
        refine l_gfi rfl rfl rfl rfl rfl ?_
        have w15 : 0 ≤ (Xi S 882 10) ∧ (Xi S 882 10) ≤ 5000 := hH.c _ _
        refine l_callV rfl rfl rfl (t_vo_meaning hH 888 3 0 (Xi S 882 10) rfl ⟨by omega, by omega⟩ ⟨by omega, by omega⟩ ⟨by omega, by omega⟩ (by first | assumption | exact (LEX_FR hF rfl rfl (by assumption : LEX S))) _) ?_
        rintro _ _ ⟨rfl, z19, rfl, w19, w16, w17, w18⟩
        show Rl _ _ _ _ _ [iv z19] _ _
        have hmnz19 := mOK_n (z := z19) (by assumption)
        refine l_istore_n rfl rfl rfl ?_
        refine l_aload_n rfl rfl ?_
        refine l_gfr rfl rfl rfl rfl rfl (hH.r 882 7 886 rfl) ?_
        refine l_aload_n rfl rfl ?_
        refine l_gfi rfl rfl rfl rfl rfl ?_
        refine l_iload_n rfl rfl ?_
        refine l_sipush rfl rfl ?_
        refine l_iand255 rfl (by unfold rg; omega) ?_
        refine l_iastore (n := 20) rfl rfl (by omega) (by omega) (by unfold rg; omega) ?_
        obtain ⟨U1, eU1⟩ : ∃ T : sS, T = uI S 886 (((Xi S 882 3)).toNat) (Int32.ofInt (z19 % 256)) := ⟨_, rfl⟩
        rw [← eU1]
        have hHU1 : HI U1 := by rw [eU1]; exact HI_w hH (show -2 ≤ (z19 % 256) by omega) (show (z19 % 256) ≤ 255 by omega)
        have hFU1 : FR md_co_suits S U1 := by rw [eU1]; exact FR.wI hF (mdf_i (r := (886, 887, 0, 100000)) (List.mem_of_getElem? (i := 0) rfl) (inR_i (by omega) (by omega) (by omega) (by omega)))
        have w21 : Xi U1 886 (((Xi S 882 3)).toNat) = (z19 % 256) := by rw [eU1]; exact Xi_same (by unfold rg; omega)
        have hk2 : KCM S U1 := kcm_w6 eU1 KCM.rf (by omega) (by omega)
        have h85 : ∀ j, Xi U1 885 j = Xi S 885 j := fun j => ((FR_e eU1).cx 885 rfl j).1
        have h85c := h85 (Xi S 882 3).toNat
        refine l_iload_n rfl rfl ?_
        refine l_bipush rfl rfl ?_
        refine l_ishr8 rfl (by unfold rg; omega) ?_
        refine l_if_ne rfl rfl (by unfold rg; omega) (fun w23 => ?_) (fun w24 => ?_)
        · refine l_iconst rfl ?_
          refine l_ireturn rfl rfl ?_
          exact ⟨hHU1, hFU1, _, rfl, ⟨by omega, by omega⟩, (by first | exact KCM.rf | exact hk1 | exact hk2), (by omega)⟩
        · refine l_aload_n rfl rfl ?_
          refine l_gfr rfl rfl rfl rfl rfl (hHU1.r 882 1 1 rfl) ?_
          refine l_iload_n rfl rfl ?_
          refine l_sipush rfl rfl ?_
          refine l_iand255 rfl (by unfold rg; omega) ?_
          have w26 := fb0 hH (lx (z := z19) (by assumption) (by omega) (by omega))
          refine l_iload_n rfl rfl ?_
          refine l_callV rfl rfl rfl (t_vo_isKind hHU1 (z19 % 256) (Xi S 19 ((act).toNat)) ⟨by omega, by omega⟩ ⟨by omega, by omega⟩ _) ?_
          rintro _ _ ⟨rfl, z28, rfl, w28, w27⟩
          show Rl _ _ _ _ _ [iv z28] _ _
          refine l_if_eq rfl rfl (by unfold rg; omega) (fun w29 => ?_) (fun w30 => ?_)
          · refine l_iconst rfl ?_
            refine l_ireturn rfl rfl ?_
            exact ⟨hHU1, hFU1, _, rfl, ⟨by omega, by omega⟩, (by first | exact KCM.rf | exact hk1 | exact hk2), (by omega)⟩
          · refine l_iconst rfl ?_
            refine l_goto rfl rfl ?_
            refine l_ireturn rfl rfl ?_
            exact ⟨hHU1, hFU1, _, rfl, ⟨by omega, by omega⟩, (by first | exact KCM.rf | exact hk1 | exact hk2), (by omega)⟩
      · refine l_aload_n rfl rfl ?_
        refine l_gfr rfl rfl rfl rfl rfl (hH.r 882 7 886 rfl) ?_
        refine l_aload_n rfl rfl ?_
        refine l_gfi rfl rfl rfl rfl rfl ?_
        refine l_bipush rfl rfl ?_
        refine l_iastore (n := 20) rfl rfl (by omega) (by omega) (by unfold rg; omega) ?_
        obtain ⟨U2, eU2⟩ : ∃ T : sS, T = uI S 886 (((Xi S 882 3)).toNat) (Int32.ofInt (-2)) := ⟨_, rfl⟩
        rw [← eU2]
        have hHU2 : HI U2 := by rw [eU2]; exact HI_w hH (show -2 ≤ (-2) by omega) (show (-2) ≤ 255 by omega)
        have hFU2 : FR md_co_suits S U2 := by rw [eU2]; exact FR.wI hF (mdf_i (r := (886, 887, 0, 100000)) (List.mem_of_getElem? (i := 0) rfl) (inR_i (by omega) (by omega) (by omega) (by omega)))
        have w31 : Xi U2 886 (((Xi S 882 3)).toNat) = (-2) := by rw [eU2]; exact Xi_same (by unfold rg; omega)
        have hk1 : KCM S U2 := kcm_w6 eU2 KCM.rf (by omega) (by omega)
        have h85 : ∀ j, Xi U2 885 j = Xi S 885 j := fun j => ((FR_e eU2).cx 885 rfl j).1
        have h85c := h85 (Xi S 882 3).toNat
        refine l_aload_n rfl rfl ?_
        refine l_gfi rfl rfl rfl rfl rfl ?_
        have w32 : 0 ≤ (Xi U2 882 10) ∧ (Xi U2 882 10) ≤ 5000 := hHU2.c _ _
        refine l_iconst rfl ?_
        refine l_icmp_ne rfl rfl (by unfold rg; omega) (by unfold rg; omega) (fun w33 => ?_) (fun w34 => ?_)
        · refine l_iconst rfl ?_
          refine l_ireturn rfl rfl ?_
          exact ⟨hHU2, hFU2, _, rfl, ⟨by omega, by omega⟩, (by first | exact KCM.rf | exact hk1 | exact hk2), (by omega)⟩
        · refine l_aload_n rfl rfl ?_
          refine l_gfr rfl rfl rfl rfl rfl (hHU2.r 882 9 888 rfl) ?_
          refine l_iconst rfl ?_
          refine l_laload (n := 3) rfl rfl (by omega) (by omega) (by unfold rg; omega) ?_
          have w35 : -9223372036854775808 ≤ (Xj U2 888 ((0 : Int).toNat)) ∧ (Xj U2 888 ((0 : Int).toNat)) < 9223372036854775808 := Xj_rg
          refine l_ldcR (i := 35) rfl rfl ?_
          refine l_callS rfl rfl (by decide) rfl (t_vo_codeOf hHU2 35 _ rfl _) ?_
          rintro _ _ ⟨rfl, z36, rfl⟩
          show Rl _ _ _ _ _ [jw z36, jw (Xj U2 888 ((0 : Int).toNat))] _ _
          refine l_lcmpA rfl (fun c37 w37 => ?_)
          refine l_if_ne rfl rfl (by unfold rg; omega) (fun w38 => ?_) (fun w39 => ?_)
          · refine l_iconst rfl ?_
            refine l_ireturn rfl rfl ?_
            exact ⟨hHU2, hFU2, _, rfl, ⟨by omega, by omega⟩, (by first | exact KCM.rf | exact hk1 | exact hk2), (by omega)⟩
          · refine l_iconst rfl ?_
            refine l_goto rfl rfl ?_
            refine l_ireturn rfl rfl ?_
            exact ⟨hHU2, hFU2, _, rfl, ⟨by omega, by omega⟩, (by first | exact KCM.rf | exact hk1 | exact hk2), (by omega)⟩
    · refine l_iload_n rfl rfl ?_
      refine l_iconst rfl ?_
      refine l_icmp_ne rfl rfl (by unfold rg; omega) (by unfold rg; omega) (fun w40 => ?_) (fun w41 => ?_)
      · refine l_iconst rfl ?_
        refine l_ireturn rfl rfl ?_
        exact ⟨hH, hF, _, rfl, ⟨by omega, by omega⟩, (by first | exact KCM.rf | exact hk1 | exact hk2), (by omega)⟩
      · refine l_aload_n rfl rfl ?_
        refine l_gfr rfl rfl rfl rfl rfl (hH.r 882 6 885 rfl) ?_
        refine l_aload_n rfl rfl ?_
        refine l_gfi rfl rfl rfl rfl rfl ?_
        refine l_iaload (n := 20) rfl rfl (by omega) (by omega) (by unfold rg; omega) ?_
        refine l_iconst rfl ?_
        refine l_icmp_ne rfl rfl (by unfold rg; omega) (by unfold rg; omega) (fun w42 => ?_) (fun w43 => ?_)
        · refine l_iconst rfl ?_
          refine l_ireturn rfl rfl ?_
          exact ⟨hH, hF, _, rfl, ⟨by omega, by omega⟩, (by first | exact KCM.rf | exact hk1 | exact hk2), (by omega)⟩
        · refine l_iconst rfl ?_
          refine l_goto rfl rfl ?_
          refine l_ireturn rfl rfl ?_
          exact ⟨hH, hF, _, rfl, ⟨by omega, by omega⟩, (by first | exact KCM.rf | exact hk1 | exact hk2), (by omega)⟩
/-! SAFETY: commands understood, more -/
theorem kcm_tr {S T U : sS} (h1 : KCM S T) (h2 : KCM T U) (e : Xi T 882 3 = Xi S 882 3) : KCM S U := fun i hi => by
  obtain ⟨a, b⟩ := h1 i hi
  obtain ⟨c, d⟩ := h2 i (by omega)
  exact ⟨c.trans a, d.trans b⟩
/-! SAFETY of methods: printed by wip/safe (vc.py, decl.py) -/
def md_re_understand : List rec := [(876, 877, 8, 9), (876, 877, 9, 10), (882, 883, 3, 4), (882, 883, 10, 11), (883, 884, 0, 100000), (884, 885, 0, 100000), (885, 886, 0, 100000), (886, 887, 0, 100000), (887, 888, 0, 100000), (888, 889, 0, 100000)]
abbrev Q_re_understand (S : sS) : pst := fun r S1 => HI S1 ∧ FR md_re_understand S S1 ∧ (∃ z : Int, r = some (iv z) ∧ (0 ≤ z ∧ z ≤ 1) ∧ (z = 1 → WI S1) ∧ (z = 0 → Xi S1 876 8 ≠ 0))
set_option maxRecDepth 100000 in
theorem t_re_understand {S : sS} (hH : HI S) (hW : WI S) (hT : TOK S) (hsr : SRC S) (h1 : Xi S 877 (1 : Int).toNat = 102 ∧ 1 < Xi S 876 7) (d : Nat) : Mt lay0 (d + 6) m_re_understand [.ref 891] S (Q_re_understand S) := by
  refine Mt_R rfl rfl ?_
  have hF : FR md_re_understand S S := FR.rf
  have w1 : 0 ≤ Xi S 876 7 ∧ Xi S 876 7 ≤ 5125 := hH.c _ _
  have hL := hW.1
  have hX := hW.2.1
  have htk := hT 1 (by omega) h1.1
  have e78 : Xi S 878 (1 : Int).toNat = Xi S 878 1 := rfl
  have e79 : Xj S 879 (1 : Int).toNat = Xj S 879 1 := rfl
  have he5 : 0 ≤ Xi S 876 5 ∧ Xi S 876 5 ≤ 5000 := hH.c _ _
  have h78r : 0 ≤ Xi S 878 1 ∧ Xi S 878 1 ≤ 5000 := hH.c _ _
  have h20 : 0 ≤ Xi S 882 3 ∧ Xi S 882 3 ≤ 20 := hH.c _ _
  refine l_aload_n rfl rfl ?_
  refine l_gfr rfl rfl rfl rfl rfl (hH.r 891 4 895 rfl) ?_
  refine l_bipush rfl rfl ?_
  refine l_iconst rfl ?_
  refine l_aload_n rfl rfl ?_
  refine l_gfr rfl rfl rfl rfl rfl (hH.r 891 0 876 rfl) ?_
  refine l_iconst rfl ?_
  refine l_callV rfl rfl rfl (t_to_runEnd hH 3 ⟨by omega, by omega⟩ _) ?_
  rintro _ _ ⟨rfl, z11, rfl, w11, w4, w5, w6, w7, w8, w9, w10⟩
  clear w6 w7 w8 w9
  show Rl _ _ _ _ _ [iv z11, iv 3, iv 8, .ref 895] _ _
  have w12 : 0 ≤ Xi S 882 3 ∧ Xi S 882 3 ≤ 20 := hH.c _ _
  refine l_callV rfl rfl rfl (t_me_find hH 8 3 z11 ⟨by omega, by omega⟩ ⟨by omega, by omega⟩ ⟨by omega, by omega⟩ (by first | assumption | exact (LEX_FR hF rfl rfl (by assumption : LEX S))) _) ?_
  rintro _ _ ⟨rfl, z16, rfl, w16, w13, w14, w15⟩
  have w17 : z16 ≠ -1 → _ := fun h => fb8 hH (w13 h)
  clear w14
  show Rl _ _ _ _ _ [iv z16] _ _
  refine l_istore_n rfl rfl rfl ?_
  refine l_aload_n rfl rfl ?_
  refine l_gfr rfl rfl rfl rfl rfl (hH.r 891 0 876 rfl) ?_
  refine l_iconst rfl ?_
  refine l_callV rfl rfl rfl (t_to_placeAt hH 1 ⟨by omega, by omega⟩ _) ?_
  rintro _ _ ⟨rfl, z21, rfl, w21, w20⟩
  show Rl _ _ _ _ _ [iv z21] _ _
  refine l_iconst rfl ?_
  refine l_iadd rfl ?_
  refine l_istore_n rfl rfl rfl ?_
  refine l_aload_n rfl rfl ?_
  refine l_gfr rfl rfl rfl rfl rfl (hH.r 891 6 882 rfl) ?_
  refine l_gfi rfl rfl rfl rfl rfl ?_
  have w22 : 0 ≤ (Xi S 882 3) ∧ (Xi S 882 3) ≤ 20 := hH.c _ _
  refine l_bipush rfl rfl ?_
  refine l_icmp_lt rfl rfl (by unfold rg; omega) (by unfold rg; omega) (fun w23 => ?_) (fun w24 => ?_)
  · refine l_aload_n rfl rfl ?_
    refine l_gfr rfl rfl rfl rfl rfl (hH.r 891 6 882 rfl) ?_
    refine l_aload_n rfl rfl ?_
    refine l_gfr rfl rfl rfl rfl rfl (hH.r 891 0 876 rfl) ?_
    obtain ⟨tw25, w25, w25b⟩ := SRC_fr hF rfl hsr
    refine l_gfr rfl rfl rfl rfl rfl w25 ?_
    refine l_iload_n rfl rfl ?_
    refine l_iload_n rfl rfl ?_
    refine l_aload_n rfl rfl ?_
    refine l_gfr rfl rfl rfl rfl rfl (hH.r 891 0 876 rfl) ?_
    refine l_iconst rfl ?_
    refine l_callV rfl rfl rfl (t_to_valueAt hH 1 ⟨by omega, by omega⟩ _) ?_
    rintro _ _ ⟨rfl, z29, rfl, w29, w28⟩
    show Rl _ _ _ _ _ [iv z29, iv (z21 + 1), iv (z21 + 1), .ref tw25, .ref 882] _ _
    refine l_iadd rfl ?_
    refine l_callV rfl rfl rfl (t_co_takeText__2 hH tw25 (z21 + 1) ((z21 + 1) + z29) w25b ⟨by omega, by omega⟩ ⟨by omega, by omega⟩ (by first | assumption | omega) _) ?_
    rintro _ T1 ⟨hHT1, w33, z32, rfl, w32, w31⟩
    have hFT1 : FR md_re_understand S T1 := FR.tr hF w33 rfl
    show Rl _ _ _ _ _ [iv z32] _ _
    have hk75 : KCM S T1 := by assumption
    have h883a : ∀ i, Xi T1 883 i = Xi S 883 i := fun i => ((by assumption : FR md_co_takeText__2 S T1).cx 883 rfl i).1
    have h19a : ∀ i, Xi T1 19 i = Xi S 19 i := fun i => ((by assumption : FR md_co_takeText__2 S T1).cx 19 rfl i).1
    have h3a : Xi T1 882 3 = Xi S 882 3 := (by assumption : FR md_co_takeText__2 S T1).x 882 3 rfl
    refine l_if_eq rfl rfl (by unfold rg; omega) (fun w34 => ?_) (fun w35 => ?_)
    · refine l_aload_n rfl rfl ?_
      refine l_gfr rfl rfl rfl rfl rfl (hHT1.r 891 0 876 rfl) ?_
      refine l_bipush rfl rfl ?_
      refine l_iconst rfl ?_
      refine l_callV rfl rfl rfl (t_to_wrong hHT1 8 1 ⟨by omega, by omega⟩ ⟨by omega, by omega⟩ _) ?_
      rintro _ T2 ⟨hHT2, w41, z40, rfl, w40, w38, w39⟩
      have hFT2 : FR md_re_understand S T2 := FR.tr hFT1 w41 rfl
      show Rl _ _ _ _ _ [iv z40] _ _
      refine l_ireturn rfl (retI_z (by omega)) ?_
      have w42 : 0 ≤ Xi T2 876 8 ∧ Xi T2 876 8 ≤ 9 := hHT2.c _ _
      exact ⟨hHT2, hFT2, _, rfl, ⟨by omega, by omega⟩, (by first | (intro hz; omega) | (intro _; assumption) | (intro hz; apply_assumption; omega) | (intro _; exact (WI_FR hHT1 w41 rfl rfl rfl rfl rfl rfl rfl rfl rfl (by assumption : WI T1)))), (by omega)⟩
    · refine l_iload_n rfl rfl ?_
      refine l_iconst rfl ?_
      refine l_icmp_eq rfl rfl (by unfold rg; omega) (by unfold rg; omega) (fun w45 => ?_) (fun w46 => ?_)
      · refine l_iload_n rfl rfl ?_
        refine l_iconst rfl ?_
        refine l_icmp_ne rfl rfl (by unfold rg; omega) (by unfold rg; omega) (fun w47 => ?_) (fun w48 => ?_)
        · refine l_aload_n rfl rfl ?_
          refine l_gfr rfl rfl rfl rfl rfl (hHT1.r 891 6 882 rfl) ?_
          refine l_iload_n rfl rfl ?_
          have w49 : Xi T1 882 3 = Xi S 882 3 := (show Xi T1 882 3 = Xi S 882 3 from w33.x _ _ rfl)
          refine l_callV rfl rfl rfl (t_co_addAs__2 hHT1 z16 ⟨by omega, by omega⟩ (by first | assumption | omega) _) ?_
          rintro _ T3 ⟨hHT3, w55, rfl, w51, w52, w53⟩
          have hFT3 : FR md_re_understand S T3 := FR.tr hFT1 w55 rfl
          show Rl _ _ _ _ _ [] _ _
          have hCu : CMD T3 := by first | exact CMD_add hH hW.2.2.2.2.1 hk91 (by omega) h883b (fun j => (hFT3.cx 5 rfl j).1) (fun j => (hFT3.cx 19 rfl j).1) (fun j => ((by assumption : FR md_co_addAs__2 T1 T3).cx 885 rfl j).1) (fun j => ((by assumption : FR md_co_addAs__2 T1 T3).cx 886 rfl j).1) (by omega) (by assumption) (by assumption) (by omega) (hp91 (by omega)).1 (hp91 (by omega)).2 | (exfalso; omega)
          have hWe : WI T3 := WI_c hH hFT3 rfl rfl rfl rfl rfl rfl rfl rfl hCu hW
          refine l_iconst rfl ?_
          refine l_ireturn rfl rfl ?_
          have w56 : Xi T3 876 8 = Xi S 876 8 := (show Xi T3 876 8 = Xi T1 876 8 from w55.x _ _ rfl).trans ((show Xi T1 876 8 = Xi S 876 8 from w33.x _ _ rfl))
          have w57 : 0 ≤ Xi S 876 8 ∧ Xi S 876 8 ≤ 9 := hH.c _ _
          exact ⟨hHT3, hFT3, _, rfl, ⟨by omega, by omega⟩, (by first | (intro hz; omega) | (intro _; assumption) | (intro hz; apply_assumption; omega) | (intro _; exact (by assumption : WI T3))), (by omega)⟩
        · refine l_aload_n rfl rfl ?_
          refine l_gfr rfl rfl rfl rfl rfl (hHT1.r 891 0 876 rfl) ?_
          refine l_iconst rfl ?_
          refine l_iconst rfl ?_
          refine l_callV rfl rfl rfl (t_to_wrong hHT1 4 3 ⟨by omega, by omega⟩ ⟨by omega, by omega⟩ _) ?_
          rintro _ T4 ⟨hHT4, w64, z63, rfl, w63, w61, w62⟩
          have hFT4 : FR md_re_understand S T4 := FR.tr hFT1 w64 rfl
          show Rl _ _ _ _ _ [iv z63] _ _
          refine l_ireturn rfl (retI_z (by omega)) ?_
          have w65 : 0 ≤ Xi T4 876 8 ∧ Xi T4 876 8 ≤ 9 := hHT4.c _ _
          exact ⟨hHT4, hFT4, _, rfl, ⟨by omega, by omega⟩, (by first | (intro hz; omega) | (intro _; assumption) | (intro hz; apply_assumption; omega) | (intro _; exact (WI_FR hHT1 w64 rfl rfl rfl rfl rfl rfl rfl rfl rfl (by assumption : WI T1)))), (by omega)⟩
      · refine l_aload_n rfl rfl ?_
        refine l_gfr rfl rfl rfl rfl rfl (hHT1.r 891 6 882 rfl) ?_
        refine l_iload_n rfl rfl ?_
        have w68 : Xi T1 882 3 = Xi S 882 3 := (show Xi T1 882 3 = Xi S 882 3 from w33.x _ _ rfl)
        refine l_callV rfl rfl rfl (t_co_suits hHT1 z16 ⟨by omega, by omega⟩ (by first | assumption | exact (LEX_FR hFT1 rfl rfl (by assumption : LEX S))) (by first | assumption | omega) _) ?_
        rintro _ T5 ⟨hHT5, w73, z72, rfl, w72, w70, w71⟩
        have hFT5 : FR md_re_understand S T5 := FR.tr hFT1 w73 rfl
        show Rl _ _ _ _ _ [iv z72] _ _
        have h3b : Xi T5 882 3 = Xi T1 882 3 := (by assumption : FR md_co_suits T1 T5).x 882 3 rfl
        have hk91 : KCM S T5 := kcm_tr hk75 (by assumption) h3a
        have h883b : ∀ i, Xi T5 883 i = Xi S 883 i := fun i => (((by assumption : FR md_co_suits T1 T5).cx 883 rfl i).1).trans (h883a i)
        have hp91 : z72 = 1 → (Xi T5 885 (Xi T5 882 3).toNat = -1 → Xi S 19 (z16).toNat = -1) ∧ (Xi S 19 (z16).toNat = -2 → Xi T5 886 (Xi T5 882 3).toNat = -2) := fun q => by have t := (by assumption : z72 = 1 → (Xi T5 885 (Xi T1 882 3).toNat = -1 → Xi T1 19 (z16).toNat = -1) ∧ (Xi T1 19 (z16).toNat = -2 → Xi T5 886 (Xi T1 882 3).toNat = -2)) q; rw [← h3b, h19a] at t; exact t
        refine l_if_ne rfl rfl (by unfold rg; omega) (fun w74 => ?_) (fun w75 => ?_)
        · refine l_iload_n rfl rfl ?_
          refine l_iconst rfl ?_
          refine l_icmp_ne rfl rfl (by unfold rg; omega) (by unfold rg; omega) (fun w76 => ?_) (fun w77 => ?_)
          · refine l_aload_n rfl rfl ?_
            refine l_gfr rfl rfl rfl rfl rfl (hHT5.r 891 6 882 rfl) ?_
            refine l_iload_n rfl rfl ?_
            have w78 : Xi T5 882 3 = Xi S 882 3 := (show Xi T5 882 3 = Xi T1 882 3 from w73.x _ _ rfl).trans ((show Xi T1 882 3 = Xi S 882 3 from w33.x _ _ rfl))
            refine l_callV rfl rfl rfl (t_co_addAs__2 hHT5 z16 ⟨by omega, by omega⟩ (by first | assumption | omega) _) ?_
            rintro _ T6 ⟨hHT6, w84, rfl, w80, w81, w82⟩
            have hFT6 : FR md_re_understand S T6 := FR.tr hFT5 w84 rfl
            show Rl _ _ _ _ _ [] _ _
            have hCu : CMD T6 := by first | exact CMD_add hH hW.2.2.2.2.1 hk91 (by omega) h883b (fun j => (hFT6.cx 5 rfl j).1) (fun j => (hFT6.cx 19 rfl j).1) (fun j => ((by assumption : FR md_co_addAs__2 T5 T6).cx 885 rfl j).1) (fun j => ((by assumption : FR md_co_addAs__2 T5 T6).cx 886 rfl j).1) (by omega) (by assumption) (by assumption) (by omega) (hp91 (by omega)).1 (hp91 (by omega)).2 | (exfalso; omega)
            have hWe : WI T6 := WI_c hH hFT6 rfl rfl rfl rfl rfl rfl rfl rfl hCu hW
            refine l_iconst rfl ?_
            refine l_ireturn rfl rfl ?_
            have w85 : Xi T6 876 8 = Xi S 876 8 := (show Xi T6 876 8 = Xi T5 876 8 from w84.x _ _ rfl).trans ( (show Xi T5 876 8 = Xi T1 876 8 from w73.x _ _ rfl).trans ((show Xi T1 876 8 = Xi S 876 8 from w33.x _ _ rfl)))
            have w86 : 0 ≤ Xi S 876 8 ∧ Xi S 876 8 ≤ 9 := hH.c _ _
            exact ⟨hHT6, hFT6, _, rfl, ⟨by omega, by omega⟩, (by first | (intro hz; omega) | (intro _; assumption) | (intro hz; apply_assumption; omega) | (intro _; exact (by assumption : WI T6))), (by omega)⟩
          · refine l_aload_n rfl rfl ?_
            refine l_gfr rfl rfl rfl rfl rfl (hHT5.r 891 0 876 rfl) ?_
            refine l_iconst rfl ?_
            refine l_iconst rfl ?_
            refine l_callV rfl rfl rfl (t_to_wrong hHT5 4 3 ⟨by omega, by omega⟩ ⟨by omega, by omega⟩ _) ?_
            rintro _ T7 ⟨hHT7, w93, z92, rfl, w92, w90, w91⟩
            have hFT7 : FR md_re_understand S T7 := FR.tr hFT5 w93 rfl
            show Rl _ _ _ _ _ [iv z92] _ _
            refine l_ireturn rfl (retI_z (by omega)) ?_
            have w94 : 0 ≤ Xi T7 876 8 ∧ Xi T7 876 8 ≤ 9 := hHT7.c _ _
            exact ⟨hHT7, hFT7, _, rfl, ⟨by omega, by omega⟩, (by first | (intro hz; omega) | (intro _; assumption) | (intro hz; apply_assumption; omega) | (intro _; exact (WI_FR hHT5 w93 rfl rfl rfl rfl rfl rfl rfl rfl rfl (by assumption : WI T5)))), (by omega)⟩
        · refine l_aload_n rfl rfl ?_
          refine l_gfr rfl rfl rfl rfl rfl (hHT5.r 891 0 876 rfl) ?_
          refine l_bipush rfl rfl ?_
          refine l_iconst rfl ?_
          refine l_callV rfl rfl rfl (t_to_wrong hHT5 8 1 ⟨by omega, by omega⟩ ⟨by omega, by omega⟩ _) ?_
          rintro _ T8 ⟨hHT8, w102, z101, rfl, w101, w99, w100⟩
          have hFT8 : FR md_re_understand S T8 := FR.tr hFT5 w102 rfl
          show Rl _ _ _ _ _ [iv z101] _ _
          refine l_ireturn rfl (retI_z (by omega)) ?_
          have w103 : 0 ≤ Xi T8 876 8 ∧ Xi T8 876 8 ≤ 9 := hHT8.c _ _
          exact ⟨hHT8, hFT8, _, rfl, ⟨by omega, by omega⟩, (by first | (intro hz; omega) | (intro _; assumption) | (intro hz; apply_assumption; omega) | (intro _; exact (WI_FR hHT5 w102 rfl rfl rfl rfl rfl rfl rfl rfl rfl (by assumption : WI T5)))), (by omega)⟩
  · refine l_aload_n rfl rfl ?_
    refine l_gfr rfl rfl rfl rfl rfl (hH.r 891 0 876 rfl) ?_
    refine l_bipush rfl rfl ?_
    refine l_iconst rfl ?_
    refine l_callV rfl rfl rfl (t_to_wrong hH 9 1 ⟨by omega, by omega⟩ ⟨by omega, by omega⟩ _) ?_
    rintro _ T9 ⟨hHT9, w110, z109, rfl, w109, w107, w108⟩
    have hFT9 : FR md_re_understand S T9 := FR.tr hF w110 rfl
    show Rl _ _ _ _ _ [iv z109] _ _
    refine l_ireturn rfl (retI_z (by omega)) ?_
    have w111 : 0 ≤ Xi T9 876 8 ∧ Xi T9 876 8 ≤ 9 := hHT9.c _ _
    exact ⟨hHT9, hFT9, _, rfl, ⟨by omega, by omega⟩, (by first | (intro hz; omega) | (intro _; assumption) | (intro hz; apply_assumption; omega) | (intro _; exact (WI_FR hH w110 rfl rfl rfl rfl rfl rfl rfl rfl rfl (by assumption : WI S)))), (by omega)⟩
/-! SAFETY of methods: printed by wip/safe (vc.py, decl.py) -/
def md_vo_startKind : List rec := [(1, 2, 3, 4), (2, 3, 0, 100000), (3, 4, 0, 100000), (4, 5, 0, 100000), (5, 6, 0, 100000), (6, 7, 0, 100000), (7, 8, 0, 100000)]
abbrev Q_vo_startKind (S : sS) (i : Nat) (xi : String × Nat × String × List Int32) (k : Nat) (xk : String × Nat × String × List Int32) (above : Int) : pst := fun r S1 => HI S1 ∧ FR md_vo_startKind S S1 ∧ (r = none ∧ (LEX S1) ∧ (Xi S1 5 0 = Xi S 5 0 + 1) ∧ (∀ j, j ≠ 0 → Xi S1 5 j = Xi S 5 j))
set_option maxRecDepth 100000 in
theorem t_vo_startKind {S : sS} (hH : HI S) (i : Nat) (xi : String × Nat × String × List Int32) (k : Nat) (xk : String × Nat × String × List Int32) (above : Int) (hi : strT[i]? = some xi) (hk : strT[k]? = some xk) (habove : -1 ≤ above ∧ above ≤ 15) (hL : LEX S) (hc : Xi S 5 0 < 16) (d : Nat) : Mt lay0 (d + 6) m_vo_startKind [.ref 1, .ref (SB + i), .ref (SB + k), iv above] S (Q_vo_startKind S i xi k xk above) := by
  refine Mt_R rfl rfl ?_
  have hF : FR md_vo_startKind S S := FR.rf
  have hsli := str_sm hi
  have hslk := str_sm hk
  have w1 : 0 ≤ Xi S 5 0 ∧ Xi S 5 0 ≤ 16 := hH.c _ _
  refine l_aload_n rfl rfl ?_
  refine l_iconst rfl ?_
  refine l_aload_n rfl rfl ?_
  have w2 : 0 ≤ Xi S 1 3 ∧ Xi S 1 3 ≤ 200 := hH.c _ _
  refine l_callV rfl rfl rfl (t_vo_addFirst hH 0 i xi ⟨by omega, by omega⟩ hi (by first | assumption | exact (by first | assumption | exact (by assumption : WI S).1 : LEX S)) (show Xi S 5 0 + 1 ≤ 16 by first | omega | (have hz : Xi S 5 0 = Xi S 5 (0 : Int).toNat := rfl; omega)) _) ?_
  rintro _ T1 ⟨hHT1, w10, z9, rfl, w9, w4, w5, w6, w7, w8⟩
  have hFT1 : FR md_vo_startKind S T1 := FR.tr hF w10 rfl
  show Rl _ _ _ _ _ [iv z9] _ _
  have hz0 : z9 = Xi S 5 0 := by have t := (by assumption : z9 = Xi S 5 (0 : Int).toNat); exact t
  have hc0a : Xi T1 5 0 = Xi S 5 0 + 1 := by have t := (by assumption : Xi T1 5 (0 : Int).toNat = Xi S 5 (0 : Int).toNat + 1); exact t
  have ho0a : ∀ j, j ≠ 0 → Xi T1 5 j = Xi S 5 j := by have t := (by assumption : ∀ j, j ≠ (0 : Int).toNat → Xi T1 5 j = Xi S 5 j); exact t
  refine l_istore rfl rfl rfl ?_
  refine l_aload_n rfl rfl ?_
  refine l_bipush rfl rfl ?_
  refine l_iload rfl rfl ?_
  refine l_aload_n rfl rfl ?_
  refine l_callS rfl rfl (by decide) rfl (t_vo_codeOf hHT1 k xk hk _) ?_
  rintro _ _ ⟨rfl, z12, rfl⟩
  show Rl _ _ _ _ _ [jw z12, iv z9, iv 11, .ref 1] _ _
  have w13 : 0 ≤ Xi T1 1 3 ∧ Xi T1 1 3 ≤ 200 := hHT1.c _ _
  have w14 : 0 ≤ Xi T1 5 0 ∧ Xi T1 5 0 ≤ 16 := hHT1.c _ _
  refine l_callV rfl rfl rfl (t_vo_addEntry hHT1 11 z9 z12 ⟨by omega, by omega⟩ ⟨by omega, by omega⟩ (by first | assumption | exact (by first | assumption | exact (by assumption : WI T1).1 : LEX T1)) (by unfold lexB; omega) _) ?_
  rintro _ T2 ⟨hHT2, w19, rfl, w15, w16, w17⟩
  have hFT2 : FR md_vo_startKind S T2 := FR.tr hFT1 w19 rfl
  show Rl _ _ _ _ _ [] _ _
  refine l_aload_n rfl rfl ?_
  refine l_gfr rfl rfl rfl rfl rfl (hHT2.r 1 5 6 rfl) ?_
  refine l_iload rfl rfl ?_
  refine l_iload_n rfl rfl ?_
  refine l_iastore (n := 16) rfl rfl (by omega) (by omega) (by unfold rg; omega) ?_
  obtain ⟨U3, eU3⟩ : ∃ T : sS, T = uI T2 6 ((z9).toNat) (Int32.ofInt above) := ⟨_, rfl⟩
  rw [← eU3]
  have hHU3 : HI U3 := by rw [eU3]; exact HI_w hHT2 (show -1 ≤ above by omega) (show above ≤ 15 by omega)
  have hFU3 : FR md_vo_startKind S U3 := by rw [eU3]; exact FR.wI hFT2 (mdf_i (r := (6, 7, 0, 100000)) (List.mem_of_getElem? (i := 5) rfl) (inR_i (by omega) (by omega) (by omega) (by omega)))
  have w20 : Xi U3 6 ((z9).toNat) = above := by rw [eU3]; exact Xi_same (by unfold rg; omega)
  refine l_aload_n rfl rfl ?_
  refine l_gfr rfl rfl rfl rfl rfl (hHU3.r 1 6 7 rfl) ?_
  refine l_iload rfl rfl ?_
  refine l_iconst rfl ?_
  refine l_iastore (n := 16) rfl rfl (by omega) (by omega) (by unfold rg; omega) ?_
  obtain ⟨U4, eU4⟩ : ∃ T : sS, T = uI U3 7 ((z9).toNat) (Int32.ofInt 0) := ⟨_, rfl⟩
  rw [← eU4]
  have hHU4 : HI U4 := by rw [eU4]; exact HI_any hHU3 (rfl)
  have hFU4 : FR md_vo_startKind S U4 := by rw [eU4]; exact FR.wI hFU3 (mdf_i (r := (7, 8, 0, 100000)) (List.mem_of_getElem? (i := 6) rfl) (inR_i (by omega) (by omega) (by omega) (by omega)))
  have w21 : Xi U4 7 ((z9).toNat) = 0 := by rw [eU4]; exact Xi_same (by unfold rg; omega)
  refine l_return rfl rfl ?_
  have w22 : Xi U4 5 0 = Xi T1 5 0 := (show Xi U4 5 0 = Xi U3 5 0 from by rw [eU4]; exact Xi_ne (by omega)).trans ( (show Xi U3 5 0 = Xi T2 5 0 from by rw [eU3]; exact Xi_ne (by omega)).trans ((show Xi T2 5 0 = Xi T1 5 0 from w19.x _ _ rfl)))
  exact ⟨hHU4, hFU4, rfl, (by first | assumption | exact (LEX_FR (FR_e eU4) rfl rfl (LEX_FR (FR_e eU3) rfl rfl (by first | assumption | exact (by assumption : WI T2).1 : LEX T2)))), (by omega), (fun j hj => (((FR_e eU4).cx 5 rfl j).1.trans (((FR_e eU3).cx 5 rfl j).1)).trans ((((by assumption : FR md_vo_addEntry _ _).cx 5 rfl j).1).trans (ho0a j hj)))⟩
def md_vo_startKinds : List rec := [(1, 2, 3, 4), (2, 3, 0, 100000), (3, 4, 0, 100000), (4, 5, 0, 100000), (5, 6, 0, 100000), (6, 7, 0, 100000), (7, 8, 0, 100000)]
abbrev Q_vo_startKinds (S : sS) : pst := fun r S1 => HI S1 ∧ FR md_vo_startKinds S S1 ∧ (r = none ∧ (LEX S1) ∧ (Xi S1 5 0 = 5) ∧ (∀ j, j ≠ 0 → Xi S1 5 j = Xi S 5 j))
set_option maxRecDepth 100000 in
theorem t_vo_startKinds {S : sS} (hH : HI S) (hL : LEX S) (hc : Xi S 5 0 = 0) (d : Nat) : Mt lay0 (d + 7) m_vo_startKinds [.ref 1] S (Q_vo_startKinds S) := by
  refine Mt_R rfl rfl ?_
  have hF : FR md_vo_startKinds S S := FR.rf
  have w1 : 0 ≤ Xi S 5 0 ∧ Xi S 5 0 ≤ 16 := hH.c _ _
  refine l_aload_n rfl rfl ?_
  refine l_ldcR (i := 1) rfl rfl ?_
  refine l_ldcR (i := 2) rfl rfl ?_
  refine l_iconst rfl ?_
  refine l_callV rfl rfl rfl (t_vo_startKind hH 1 _ 2 _ (-1) rfl rfl ⟨by omega, by omega⟩ (by first | assumption | exact (by first | assumption | exact (by assumption : WI S).1 : LEX S)) (by first | assumption | omega) _) ?_
  rintro _ T1 ⟨hHT1, w7, rfl, w3, w4, w5⟩
  have hFT1 : FR md_vo_startKinds S T1 := FR.tr hF w7 rfl
  show Rl _ _ _ _ _ [] _ _
  have ho6 : ∀ j, j ≠ 0 → Xi T1 5 j = Xi S 5 j := by assumption
  refine l_aload_n rfl rfl ?_
  refine l_ldcR (i := 3) rfl rfl ?_
  refine l_ldcR (i := 4) rfl rfl ?_
  refine l_iconst rfl ?_
  have w8 : 0 ≤ Xi T1 5 0 ∧ Xi T1 5 0 ≤ 16 := hHT1.c _ _
  refine l_callV rfl rfl rfl (t_vo_startKind hHT1 3 _ 4 _ (-1) rfl rfl ⟨by omega, by omega⟩ (by first | assumption | exact (by first | assumption | exact (by assumption : WI T1).1 : LEX T1)) (by first | assumption | omega) _) ?_
  rintro _ T2 ⟨hHT2, w13, rfl, w9, w10, w11⟩
  have hFT2 : FR md_vo_startKinds S T2 := FR.tr hFT1 w13 rfl
  show Rl _ _ _ _ _ [] _ _
  have ho15 : ∀ j, j ≠ 0 → Xi T2 5 j = Xi S 5 j := fun j hj => ((by assumption : ∀ j, j ≠ 0 → Xi T2 5 j = Xi T1 5 j) j hj).trans (ho6 j hj)
  refine l_aload_n rfl rfl ?_
  refine l_ldcR (i := 5) rfl rfl ?_
  refine l_ldcR (i := 6) rfl rfl ?_
  refine l_iconst rfl ?_
  have w14 : 0 ≤ Xi T2 5 0 ∧ Xi T2 5 0 ≤ 16 := hHT2.c _ _
  refine l_callV rfl rfl rfl (t_vo_startKind hHT2 5 _ 6 _ 0 rfl rfl ⟨by omega, by omega⟩ (by first | assumption | exact (by first | assumption | exact (by assumption : WI T2).1 : LEX T2)) (by first | assumption | omega) _) ?_
  rintro _ T3 ⟨hHT3, w19, rfl, w15, w16, w17⟩
  have hFT3 : FR md_vo_startKinds S T3 := FR.tr hFT2 w19 rfl
  show Rl _ _ _ _ _ [] _ _
  have ho24 : ∀ j, j ≠ 0 → Xi T3 5 j = Xi S 5 j := fun j hj => ((by assumption : ∀ j, j ≠ 0 → Xi T3 5 j = Xi T2 5 j) j hj).trans (ho15 j hj)
  refine l_aload_n rfl rfl ?_
  refine l_ldcR (i := 7) rfl rfl ?_
  refine l_ldcR (i := 8) rfl rfl ?_
  refine l_iconst rfl ?_
  have w20 : 0 ≤ Xi T3 5 0 ∧ Xi T3 5 0 ≤ 16 := hHT3.c _ _
  refine l_callV rfl rfl rfl (t_vo_startKind hHT3 7 _ 8 _ 0 rfl rfl ⟨by omega, by omega⟩ (by first | assumption | exact (by first | assumption | exact (by assumption : WI T3).1 : LEX T3)) (by first | assumption | omega) _) ?_
  rintro _ T4 ⟨hHT4, w25, rfl, w21, w22, w23⟩
  have hFT4 : FR md_vo_startKinds S T4 := FR.tr hFT3 w25 rfl
  show Rl _ _ _ _ _ [] _ _
  have ho33 : ∀ j, j ≠ 0 → Xi T4 5 j = Xi S 5 j := fun j hj => ((by assumption : ∀ j, j ≠ 0 → Xi T4 5 j = Xi T3 5 j) j hj).trans (ho24 j hj)
  refine l_aload_n rfl rfl ?_
  refine l_ldcR (i := 9) rfl rfl ?_
  refine l_ldcR (i := 10) rfl rfl ?_
  refine l_iconst rfl ?_
  have w26 : 0 ≤ Xi T4 5 0 ∧ Xi T4 5 0 ≤ 16 := hHT4.c _ _
  refine l_callV rfl rfl rfl (t_vo_startKind hHT4 9 _ 10 _ 0 rfl rfl ⟨by omega, by omega⟩ (by first | assumption | exact (by first | assumption | exact (by assumption : WI T4).1 : LEX T4)) (by first | assumption | omega) _) ?_
  rintro _ T5 ⟨hHT5, w31, rfl, w27, w28, w29⟩
  have hFT5 : FR md_vo_startKinds S T5 := FR.tr hFT4 w31 rfl
  show Rl _ _ _ _ _ [] _ _
  have ho42 : ∀ j, j ≠ 0 → Xi T5 5 j = Xi S 5 j := fun j hj => ((by assumption : ∀ j, j ≠ 0 → Xi T5 5 j = Xi T4 5 j) j hj).trans (ho33 j hj)
  refine l_return rfl rfl ?_
  have w32 : 0 ≤ Xi T5 5 0 ∧ Xi T5 5 0 ≤ 16 := hHT5.c _ _
  exact ⟨hHT5, hFT5, rfl, (by first | assumption | exact (by first | assumption | exact (by assumption : WI T5).1 : LEX T5)), (by omega), (ho42)⟩
/-! SAFETY of methods: printed by wip/safe (vc.py, decl.py) -/
/-! SAFETY: as at first: nothing is known -/
def KN0 (S : sS) (n m : Int) : Prop := ∀ r p : Nat, r < 40 → p < 12 → ((r : Int) < n ∨ ((r : Int) = n ∧ (p : Int) < m)) → Xi S (66 + r) p = 0
theorem kn_0 {S : sS} : KN0 S 0 0 := fun r p _ _ h => by omega
theorem kn_w {S U : sS} {k j : Nat} {v : Int32} {n m : Int} (e : U = uI S k j v) (hk : k < 66 ∨ 106 ≤ k) (h : KN0 S n m) : KN0 U n m := fun r p h1 h2 h3 => by
  rw [e, Xi_ne (by omega)]; exact h r p h1 h2 h3
theorem kn_s {S U : sS} {n m : Int} (e : U = uI S (66 + n.toNat) m.toNat (Int32.ofInt 0)) (hn : 0 ≤ n) (hm : 0 ≤ m) (h : KN0 S n m) : KN0 U n (m + 1) := fun r p h1 h2 h3 => by
  rw [e]
  by_cases q : 66 + r = 66 + n.toNat ∧ p = m.toNat
  · rw [q.1, q.2]; exact Xi_same (by unfold rg; omega)
  · rw [Xi_ne q]; exact h r p h1 h2 (by omega)
theorem kn_n {S : sS} {n m : Int} (hm : 12 ≤ m) (h : KN0 S n m) : KN0 S (n + 1) 0 := fun r p h1 h2 h3 => h r p h1 h2 (by omega)
theorem kn_e {S : sS} {n m : Int} (hn : 40 ≤ n) (h : KN0 S n m) : KN0 S 40 0 := fun r p h1 h2 h3 => h r p h1 h2 (by omega)
theorem kn_f {l : List rec} {S T : sS} {n m : Int} (f : FR l S T) (e : kdis l [(66, 106)] = true) (h : KN0 S n m) : KN0 T n m := fun r p h1 h2 h3 => by
  have q := (f.smk e).x (66 + r) (by unfold inK; simp only [List.any_cons, List.any_nil, Bool.or_false, Bool.and_eq_true]; exact ⟨Nat.ble_eq_true_of_le (by omega), by unfold Nat.blt; exact Nat.ble_eq_true_of_le (by omega)⟩) p
  rw [q]; exact h r p h1 h2 h3
theorem TX_kn {S : sS} (h : KN0 S 40 0) : TX S := fun r p h1 h2 h3 => absurd (h r p h1 h2 (by omega)) h3
def md_wo_startAgain : List rec := [(1, 2, 3, 4), (2, 3, 0, 100000), (3, 4, 0, 100000), (4, 5, 0, 100000), (5, 6, 0, 100000), (20, 21, 12, 13), (21, 22, 0, 100000), (22, 23, 0, 100000), (23, 24, 0, 100000), (25, 65, 0, 100000), (66, 106, 0, 100000), (189, 195, 0, 100000), (196, 220, 0, 100000)]
abbrev Q_wo_startAgain (S : sS) : pst := fun r S1 => HI S1 ∧ FR md_wo_startAgain S S1 ∧ (r = none ∧ (LEX S1) ∧ (Xi S1 5 2 = 1) ∧ (∀ j, j ≠ 2 → Xi S1 5 j = Xi S 5 j) ∧ (KN0 S1 40 0))
set_option maxRecDepth 100000 in
theorem t_wo_startAgain {S : sS} (hH : HI S) (hL : LEX S) (hc : Xi S 5 2 = 0) (d : Nat) : Mt lay0 (d + 6) m_wo_startAgain [.ref 20] S (Q_wo_startAgain S) := by
  refine Mt_R rfl rfl ?_
  have hF : FR md_wo_startAgain S S := FR.rf
  have w1 : 0 ≤ Xi S 5 2 ∧ Xi S 5 2 ≤ 24 := hH.c _ _
  have C2 : ∀ (n2 : Nat) (T1 : sS) (_ : HI T1) (_ : FR md_wo_startAgain S T1) (v1 : Int), (0 ≤ v1 ∧ v1 ≤ 40) → (FR [(20, 900, 0, 100000)] S T1) → (KN0 T1 v1 0) → n2 = (41 - v1).toNat → Rl lay0 (d + 5) m_wo_startAgain 2 [(0, .ref 20), (1, iv v1)] [] T1 (Q_wo_startAgain S) := by
    intro n2
    induction n2 using Nat.strongRecOn with
    | ind n2 ih2 =>
      intro T1 hHT1 hFT1 v1 w2 hr2 hk2 hm2
      have C10 : ∀ (n10 : Nat) (T2 : sS) (_ : HI T2) (_ : FR md_wo_startAgain S T2) (v1 : Int) (v2 : Int), (0 ≤ v1 ∧ v1 ≤ 39) → (0 ≤ v2 ∧ v2 ≤ 24) → (FR [(20, 900, 0, 100000)] S T2) → (KN0 T2 v1 0) → ((41 - v1).toNat ≤ n2) → n10 = (25 - v2).toNat → Rl lay0 (d + 5) m_wo_startAgain 10 [(0, .ref 20), (1, iv v1), (2, iv v2)] [] T2 (Q_wo_startAgain S) := by
        intro n10
        induction n10 using Nat.strongRecOn with
        | ind n10 ih10 =>
          intro T2 hHT2 hFT2 v1 v2 w3 w4 hr10 hk10 w5 hm10
          have C33 : ∀ (n33 : Nat) (T3 : sS) (_ : HI T3) (_ : FR md_wo_startAgain S T3) (v1 : Int) (v2 : Int), (0 ≤ v1 ∧ v1 ≤ 39) → (0 ≤ v2 ∧ v2 ≤ 12) → (FR [(20, 900, 0, 100000)] S T3) → (KN0 T3 v1 v2) → ((41 - v1).toNat ≤ n2) → n33 = (13 - v2).toNat → Rl lay0 (d + 5) m_wo_startAgain 33 [(0, .ref 20), (1, iv v1), (2, iv v2)] [] T3 (Q_wo_startAgain S) := by
            intro n33
            induction n33 using Nat.strongRecOn with
            | ind n33 ih33 =>
              intro T3 hHT3 hFT3 v1 v2 w6 w7 hr33 hk33 w8 hm33
              refine l_iload_n rfl rfl ?_
              refine l_bipush rfl rfl ?_
              refine l_icmp_ge rfl rfl (by unfold rg; omega) (by unfold rg; omega) (fun w9 => ?_) (fun w10 => ?_)
              · refine l_iinc rfl rfl rfl rfl ?_
                refine l_goto rfl rfl ?_
                exact Rl_weak (ih2 _ (by omega) T3 hHT3 hFT3 ((v1 + 1)) (by omega) (by first | assumption | exact FR.rf) (by first | exact kn_n (by omega) (by assumption) | exact kn_0) rfl) (And.intro rfl (And.intro rfl (True.intro)))
              · refine l_aload_n rfl rfl ?_
                refine l_gfr rfl rfl rfl rfl rfl (hHT3.r 20 6 65 rfl) ?_
                refine l_iload_n rfl rfl ?_
                refine l_aaload (n := 40) (a := 66 + (v1).toNat) rfl rfl (by decide) (by omega) (by omega) (by unfold rg; omega) (RW_65 hHT3 (by omega)) ?_
                refine l_iload_n rfl rfl ?_
                refine l_iconst rfl ?_
                refine l_iastore (n := 12) rfl (lay_66 (by omega)) (by omega) (by omega) (by unfold rg; omega) ?_
                obtain ⟨U4, eU4⟩ : ∃ T : sS, T = uI T3 (66 + (v1).toNat) ((v2).toNat) (Int32.ofInt 0) := ⟨_, rfl⟩
                rw [← eU4]
                have hHU4 : HI U4 := by rw [eU4]; exact HI_any hHT3 (lh_row66 (by omega))
                have hFU4 : FR md_wo_startAgain S U4 := by rw [eU4]; exact FR.wI hFT3 (mdf_i (r := (66, 106, 0, 100000)) (List.mem_of_getElem? (i := 10) rfl) (inR_i (by omega) (by omega) (by omega) (by omega)))
                have w11 : Xi U4 (66 + (v1).toNat) ((v2).toNat) = 0 := by rw [eU4]; exact Xi_same (by unfold rg; omega)
                have hr0 : FR [(20, 900, 0, 100000)] S U4 := by rw [eU4]; exact FR.wI (by assumption) (mdf_i (r := (20, 900, 0, 100000)) List.mem_cons_self (inR_i (by omega) (by omega) (by omega) (by omega)))
                have hk0 := kn_s eU4 (by omega) (by omega) (by assumption)
                refine l_iinc rfl rfl rfl rfl ?_
                refine l_goto rfl rfl ?_
                exact Rl_weak (ih33 _ (by omega) U4 hHU4 hFU4 (v1) ((v2 + 1)) (by omega) (by omega) (by first | assumption | exact FR.rf) (by assumption) (by omega) rfl) (And.intro rfl (And.intro rfl (And.intro rfl (True.intro))))
          refine l_iload_n rfl rfl ?_
          refine l_bipush rfl rfl ?_
          refine l_icmp_ge rfl rfl (by unfold rg; omega) (by unfold rg; omega) (fun w12 => ?_) (fun w13 => ?_)
          · refine l_iconst rfl ?_
            refine l_istore_n rfl rfl rfl ?_
            exact Rl_weak (C33 _ T2 hHT2 hFT2 (v1) (0) (by omega) (by omega) (by first | assumption | exact FR.rf) (by assumption) (by omega) rfl) (And.intro rfl (And.intro rfl (And.intro rfl (True.intro))))
          · refine l_aload_n rfl rfl ?_
            refine l_gfr rfl rfl rfl rfl rfl (hHT2.r 20 5 24 rfl) ?_
            refine l_iload_n rfl rfl ?_
            refine l_aaload (n := 40) (a := 25 + (v1).toNat) rfl rfl (by decide) (by omega) (by omega) (by unfold rg; omega) (RW_24 hHT2 (by omega)) ?_
            refine l_iload_n rfl rfl ?_
            refine l_iconst rfl ?_
            refine l_iastore (n := 24) rfl (lay_25 (by omega)) (by omega) (by omega) (by unfold rg; omega) ?_
            obtain ⟨U5, eU5⟩ : ∃ T : sS, T = uI T2 (25 + (v1).toNat) ((v2).toNat) (Int32.ofInt 0) := ⟨_, rfl⟩
            rw [← eU5]
            have hHU5 : HI U5 := by rw [eU5]; exact HI_any hHT2 (lh_row25 (by omega))
            have hFU5 : FR md_wo_startAgain S U5 := by rw [eU5]; exact FR.wI hFT2 (mdf_i (r := (25, 65, 0, 100000)) (List.mem_of_getElem? (i := 9) rfl) (inR_i (by omega) (by omega) (by omega) (by omega)))
            have w14 : Xi U5 (25 + (v1).toNat) ((v2).toNat) = 0 := by rw [eU5]; exact Xi_same (by unfold rg; omega)
            have hr0 : FR [(20, 900, 0, 100000)] S U5 := by rw [eU5]; exact FR.wI (by assumption) (mdf_i (r := (20, 900, 0, 100000)) List.mem_cons_self (inR_i (by omega) (by omega) (by omega) (by omega)))
            have hk0 : KN0 U5 v1 0 := kn_w eU5 (by omega) (by assumption)
            refine l_iinc rfl rfl rfl rfl ?_
            refine l_goto rfl rfl ?_
            exact Rl_weak (ih10 _ (by omega) U5 hHU5 hFU5 (v1) ((v2 + 1)) (by omega) (by omega) (by first | assumption | exact FR.rf) (by assumption) (by omega) rfl) (And.intro rfl (And.intro rfl (And.intro rfl (True.intro))))
      have C62 : ∀ (n62 : Nat) (T6 : sS) (_ : HI T6) (_ : FR md_wo_startAgain S T6) (v1 : Int), (0 ≤ v1 ∧ v1 ≤ 24) → (FR [(20, 900, 0, 100000)] S T6) → (KN0 T6 40 0) → n62 = (25 - v1).toNat → Rl lay0 (d + 5) m_wo_startAgain 62 [(0, .ref 20), (1, iv v1)] [] T6 (Q_wo_startAgain S) := by
        intro n62
        induction n62 using Nat.strongRecOn with
        | ind n62 ih62 =>
          intro T6 hHT6 hFT6 v1 w15 hr62 hk62 hm62
          have C70 : ∀ (n70 : Nat) (T7 : sS) (_ : HI T7) (_ : FR md_wo_startAgain S T7) (v1 : Int) (v2 : Int), (0 ≤ v1 ∧ v1 ≤ 23) → (0 ≤ v2 ∧ v2 ≤ 6) → (FR [(20, 900, 0, 100000)] S T7) → (KN0 T7 40 0) → ((25 - v1).toNat ≤ n62) → n70 = (7 - v2).toNat → Rl lay0 (d + 5) m_wo_startAgain 70 [(0, .ref 20), (1, iv v1), (2, iv v2)] [] T7 (Q_wo_startAgain S) := by
            intro n70
            induction n70 using Nat.strongRecOn with
            | ind n70 ih70 =>
              intro T7 hHT7 hFT7 v1 v2 w16 w17 hr70 hk70 w18 hm70
              have C93 : ∀ (n93 : Nat) (T8 : sS) (_ : HI T8) (_ : FR md_wo_startAgain S T8) (v1 : Int) (v2 : Int), (0 ≤ v1 ∧ v1 ≤ 23) → (0 ≤ v2 ∧ v2 ≤ 6) → (FR [(20, 900, 0, 100000)] S T8) → (KN0 T8 40 0) → ((25 - v1).toNat ≤ n62) → n93 = (7 - v2).toNat → Rl lay0 (d + 5) m_wo_startAgain 93 [(0, .ref 20), (1, iv v1), (2, iv v2)] [] T8 (Q_wo_startAgain S) := by
                intro n93
                induction n93 using Nat.strongRecOn with
                | ind n93 ih93 =>
                  intro T8 hHT8 hFT8 v1 v2 w19 w20 hr93 hk93 w21 hm93
                  refine l_iload_n rfl rfl ?_
                  refine l_bipush rfl rfl ?_
                  refine l_icmp_ge rfl rfl (by unfold rg; omega) (by unfold rg; omega) (fun w22 => ?_) (fun w23 => ?_)
                  · refine l_iinc rfl rfl rfl rfl ?_
                    refine l_goto rfl rfl ?_
                    exact Rl_weak (ih62 _ (by omega) T8 hHT8 hFT8 ((v1 + 1)) (by omega) (by first | assumption | exact FR.rf) (by first | assumption | exact kn_e (by omega) (by assumption)) rfl) (And.intro rfl (And.intro rfl (True.intro)))
                  · refine l_aload_n rfl rfl ?_
                    refine l_gfr rfl rfl rfl rfl rfl (hHT8.r 20 10 195 rfl) ?_
                    refine l_iload_n rfl rfl ?_
                    refine l_aaload (n := 24) (a := 196 + (v1).toNat) rfl rfl (by decide) (by omega) (by omega) (by unfold rg; omega) (RW_195 hHT8 (by omega)) ?_
                    refine l_iload_n rfl rfl ?_
                    refine l_iconst rfl ?_
                    refine l_iastore (n := 6) rfl (lay_196 (by omega)) (by omega) (by omega) (by unfold rg; omega) ?_
                    obtain ⟨U9, eU9⟩ : ∃ T : sS, T = uI T8 (196 + (v1).toNat) ((v2).toNat) (Int32.ofInt (-1)) := ⟨_, rfl⟩
                    rw [← eU9]
                    have hHU9 : HI U9 := by rw [eU9]; exact HI_w hHT8 (by rw [lh_wy (by omega)]; omega) (by rw [lh_wy (by omega)]; omega)
                    have hFU9 : FR md_wo_startAgain S U9 := by rw [eU9]; exact FR.wI hFT8 (mdf_i (r := (196, 220, 0, 100000)) (List.mem_of_getElem? (i := 12) rfl) (inR_i (by omega) (by omega) (by omega) (by omega)))
                    have w24 : Xi U9 (196 + (v1).toNat) ((v2).toNat) = (-1) := by rw [eU9]; exact Xi_same (by unfold rg; omega)
                    have hr0 : FR [(20, 900, 0, 100000)] S U9 := by rw [eU9]; exact FR.wI (by assumption) (mdf_i (r := (20, 900, 0, 100000)) List.mem_cons_self (inR_i (by omega) (by omega) (by omega) (by omega)))
                    have hk0 : KN0 U9 40 0 := kn_w eU9 (by omega) (by assumption)
                    refine l_iinc rfl rfl rfl rfl ?_
                    refine l_goto rfl rfl ?_
                    exact Rl_weak (ih93 _ (by omega) U9 hHU9 hFU9 (v1) ((v2 + 1)) (by omega) (by omega) (by first | assumption | exact FR.rf) (by assumption) (by omega) rfl) (And.intro rfl (And.intro rfl (And.intro rfl (True.intro))))
              refine l_iload_n rfl rfl ?_
              refine l_bipush rfl rfl ?_
              refine l_icmp_ge rfl rfl (by unfold rg; omega) (by unfold rg; omega) (fun w25 => ?_) (fun w26 => ?_)
              · refine l_iconst rfl ?_
                refine l_istore_n rfl rfl rfl ?_
                exact Rl_weak (C93 _ T7 hHT7 hFT7 (v1) (0) (by omega) (by omega) (by first | assumption | exact FR.rf) (by assumption) (by omega) rfl) (And.intro rfl (And.intro rfl (And.intro rfl (True.intro))))
              · refine l_aload_n rfl rfl ?_
                refine l_gfr rfl rfl rfl rfl rfl (hHT7.r 20 9 188 rfl) ?_
                refine l_iload_n rfl rfl ?_
                refine l_aaload (n := 6) (a := 189 + (v2).toNat) rfl rfl (by decide) (by omega) (by omega) (by unfold rg; omega) (RW_188 hHT7 (by omega)) ?_
                refine l_iload_n rfl rfl ?_
                refine l_iconst rfl ?_
                refine l_iastore (n := 24) rfl (lay_189 (by omega)) (by omega) (by omega) (by unfold rg; omega) ?_
                obtain ⟨U10, eU10⟩ : ∃ T : sS, T = uI T7 (189 + (v2).toNat) ((v1).toNat) (Int32.ofInt 0) := ⟨_, rfl⟩
                rw [← eU10]
                have hHU10 : HI U10 := by rw [eU10]; exact HI_any hHT7 (lh_row189 (by omega))
                have hFU10 : FR md_wo_startAgain S U10 := by rw [eU10]; exact FR.wI hFT7 (mdf_i (r := (189, 195, 0, 100000)) (List.mem_of_getElem? (i := 11) rfl) (inR_i (by omega) (by omega) (by omega) (by omega)))
                have w27 : Xi U10 (189 + (v2).toNat) ((v1).toNat) = 0 := by rw [eU10]; exact Xi_same (by unfold rg; omega)
                have hr0 : FR [(20, 900, 0, 100000)] S U10 := by rw [eU10]; exact FR.wI (by assumption) (mdf_i (r := (20, 900, 0, 100000)) List.mem_cons_self (inR_i (by omega) (by omega) (by omega) (by omega)))
                have hk0 : KN0 U10 40 0 := kn_w eU10 (by omega) (by assumption)
                refine l_iinc rfl rfl rfl rfl ?_
                refine l_goto rfl rfl ?_
                exact Rl_weak (ih70 _ (by omega) U10 hHU10 hFU10 (v1) ((v2 + 1)) (by omega) (by omega) (by first | assumption | exact FR.rf) (by assumption) (by omega) rfl) (And.intro rfl (And.intro rfl (And.intro rfl (True.intro))))
          refine l_iload_n rfl rfl ?_
          refine l_bipush rfl rfl ?_
          refine l_icmp_ge rfl rfl (by unfold rg; omega) (by unfold rg; omega) (fun w28 => ?_) (fun w29 => ?_)
          · refine l_aload_n rfl rfl ?_
            refine l_iconst rfl ?_
            refine l_pfi rfl rfl rfl rfl ?_
            obtain ⟨U11, eU11⟩ : ∃ T : sS, T = uI T6 20 12 (Int32.ofInt 0) := ⟨_, rfl⟩
            rw [← eU11]
            have hHU11 : HI U11 := by rw [eU11]; exact HI_any hHT6 (rfl)
            have hFU11 : FR md_wo_startAgain S U11 := by rw [eU11]; exact FR.wI hFT6 (mdf_i (r := (20, 21, 12, 13)) (List.mem_of_getElem? (i := 5) rfl) (inR_i (by omega) (by omega) (by omega) (by omega)))
            have w30 : Xi U11 20 12 = 0 := by rw [eU11]; exact Xi_same (by unfold rg; omega)
            have hr0 : FR [(20, 900, 0, 100000)] S U11 := by rw [eU11]; exact FR.wI (by assumption) (mdf_i (r := (20, 900, 0, 100000)) List.mem_cons_self (inR_i (by omega) (by omega) (by omega) (by omega)))
            have hk0 : KN0 U11 40 0 := kn_w eU11 (by omega) (by assumption)
            have hl122 : LEX U11 := LEX_FR hr0 rfl rfl hL
            have h5w : ∀ j, Xi U11 5 j = Xi S 5 j := fun j => (hr0.cx 5 rfl j).1
            have h52 := h5w 2
            refine l_aload_n rfl rfl ?_
            refine l_aload_n rfl rfl ?_
            refine l_gfr rfl rfl rfl rfl rfl (hHU11.r 20 0 1 rfl) ?_
            refine l_iconst rfl ?_
            refine l_ldcR (i := 27) rfl rfl ?_
            have w31 : Xi U11 1 3 = Xi T6 1 3 := (show Xi U11 1 3 = Xi T6 1 3 from by rw [eU11]; exact Xi_ne (by omega))
            have w32 : 0 ≤ Xi T6 1 3 ∧ Xi T6 1 3 ≤ 200 := hHT6.c _ _
            refine l_callV rfl rfl rfl (t_vo_addFirst hHU11 2 27 _ ⟨by omega, by omega⟩ rfl (hl122) (show Xi U11 5 2 + 1 ≤ 24 by first | omega | (have hz : Xi U11 5 2 = Xi U11 5 (2 : Int).toNat := rfl; omega)) _) ?_
            rintro _ T12 ⟨hHT12, w39, z38, rfl, w38, w33, w34, w35, w36, w37⟩
            have hFT12 : FR md_wo_startAgain S T12 := FR.tr hFU11 w39 rfl
            show Rl _ _ _ _ _ [iv z38, .ref 20] _ _
            have hz2 : z38 = Xi U11 5 2 := by have t := (by assumption : z38 = Xi U11 5 (2 : Int).toNat); exact t
            have hc2a : Xi T12 5 2 = Xi U11 5 2 + 1 := by have t := (by assumption : Xi T12 5 (2 : Int).toNat = Xi U11 5 (2 : Int).toNat + 1); exact t
            have ho2a : ∀ j, j ≠ 2 → Xi T12 5 j = Xi U11 5 j := by have t := (by assumption : ∀ j, j ≠ (2 : Int).toNat → Xi T12 5 j = Xi U11 5 j); exact t
            have hl133 : LEX T12 := by assumption
            have hk133 : KN0 T12 40 0 := kn_f (by assumption : FR md_vo_addFirst U11 T12) rfl hk0
            refine l_iconst rfl ?_
            refine l_callV rfl rfl rfl (t_wo_makeObject hHT12 z38 4 ⟨by omega, by omega⟩ ⟨by omega, by omega⟩ _) ?_
            rintro _ T13 ⟨hHT13, w41, rfl⟩
            have hFT13 : FR md_wo_startAgain S T13 := FR.tr hFT12 w41 rfl
            show Rl _ _ _ _ _ [] _ _
            have h5x : ∀ j, Xi T13 5 j = Xi T12 5 j := fun j => ((by assumption : FR md_wo_makeObject T12 T13).cx 5 rfl j).1
            have h5x2 := h5x 2
            have hl137 : LEX T13 := LEX_FR (by assumption : FR md_wo_makeObject T12 T13) rfl rfl hl133
            have hk137 : KN0 T13 40 0 := kn_f (by assumption : FR md_wo_makeObject T12 T13) rfl hk133
            refine l_return rfl rfl ?_
            have w42 : Xi T13 5 2 = Xi T12 5 2 := (show Xi T13 5 2 = Xi T12 5 2 from w41.x _ _ rfl)
            have w43 : 0 ≤ Xi T12 5 2 ∧ Xi T12 5 2 ≤ 24 := hHT12.c _ _
            exact ⟨hHT13, hFT13, rfl, (hl137), (by omega), (fun j hj => (h5x j).trans ((ho2a j hj).trans (h5w j))), (hk137)⟩
          · refine l_iconst rfl ?_
            refine l_istore_n rfl rfl rfl ?_
            exact Rl_weak (C70 _ T6 hHT6 hFT6 (v1) (0) (by omega) (by omega) (by first | assumption | exact FR.rf) (by assumption) (by omega) rfl) (And.intro rfl (And.intro rfl (And.intro rfl (True.intro))))
      refine l_iload_n rfl rfl ?_
      refine l_bipush rfl rfl ?_
      refine l_icmp_ge rfl rfl (by unfold rg; omega) (by unfold rg; omega) (fun w44 => ?_) (fun w45 => ?_)
      · refine l_iconst rfl ?_
        refine l_istore_n rfl rfl rfl ?_
        exact Rl_weak (C62 _ T1 hHT1 hFT1 (0) (by omega) (by first | assumption | exact FR.rf) (by first | assumption | exact kn_e (by omega) (by assumption)) rfl) (And.intro rfl (And.intro rfl (True.intro)))
      · refine l_iconst rfl ?_
        refine l_istore_n rfl rfl rfl ?_
        exact Rl_weak (C10 _ T1 hHT1 hFT1 (v1) (0) (by omega) (by omega) (by first | assumption | exact FR.rf) (by assumption) (by omega) rfl) (And.intro rfl (And.intro rfl (And.intro rfl (True.intro))))
  refine l_iconst rfl ?_
  refine l_istore_n rfl rfl rfl ?_
  exact Rl_weak (C2 _ S hH hF (0) (by omega) (by first | assumption | exact FR.rf) (by first | exact kn_n (by omega) (by assumption) | exact kn_0) rfl) (And.intro rfl (And.intro rfl (True.intro)))
/-! SAFETY of methods: printed by wip/safe (vc.py, decl.py) -/
/-! SAFETY: as at first: counts -/
theorem cz_s {S U : sS} {v : Int} (e : U = uI S 5 v.toNat (Int32.ofInt 0)) (hv : 0 ≤ v) (h : ∀ j : Nat, (j : Int) < v → Xi S 5 j = 0) : ∀ j : Nat, (j : Int) < v + 1 → Xi U 5 j = 0 := fun j hj => by
  rw [e]
  by_cases q : j = v.toNat
  · rw [q]; exact Xi_same (by unfold rg; omega)
  · rw [Xi_ne (fun w => q w.2)]; exact h j (by omega)
theorem LEX_none {S : sS} (h : Xi S 1 3 = 0) : LEX S := fun i hi => by omega
theorem lh5u {j : Nat} : 0 ≤ (lh 5 j).2 := by
  have q : j = 0 ∨ j = 1 ∨ j = 2 ∨ j = 3 ∨ j = 4 ∨ j = 5 ∨ j = 6 ∨ j = 7 ∨ j = 8 ∨ 9 ≤ j := by omega
  rcases q with rfl | rfl | rfl | rfl | rfl | rfl | rfl | rfl | rfl | h
  all_goals first | decide | skip
  obtain ⟨i, rfl⟩ : ∃ i, j = i + 9 := ⟨j - 9, by omega⟩
  show (0 : Int) ≤ 2147483647
  decide
def md_vo_startAgain : List rec := [(1, 2, 3, 4), (2, 3, 0, 100000), (3, 4, 0, 100000), (4, 5, 0, 100000), (5, 6, 0, 100000), (6, 7, 0, 100000), (7, 8, 0, 100000), (9, 10, 0, 100000), (10, 11, 0, 100000), (11, 12, 0, 100000), (19, 20, 0, 100000)]
abbrev Q_vo_startAgain (S : sS) : pst := fun r S1 => HI S1 ∧ FR md_vo_startAgain S S1 ∧ (r = none ∧ (LEX S1) ∧ (Xi S1 5 0 = 5 ∧ Xi S1 5 1 = 2 ∧ Xi S1 5 2 = 0 ∧ Xi S1 5 3 = 2 ∧ Xi S1 5 4 = 0 ∧ Xi S1 5 5 = 1 ∧ Xi S1 5 6 = 0 ∧ Xi S1 5 7 = 0 ∧ Xi S1 5 8 = 5) ∧ (Xi S1 19 0 = -1 ∧ Xi S1 19 1 = 0 ∧ Xi S1 19 2 = 0 ∧ Xi S1 19 3 = 0 ∧ Xi S1 19 4 = -2) ∧ (Xi S1 11 0 = 1 ∧ Xi S1 11 1 = 0))
set_option maxRecDepth 100000 in
theorem c7_vo_startAgain {S : sS} (hH : HI S) (d : Nat) : ∀ (n7 : Nat) (T1 : sS) (_ : HI T1) (_ : FR md_vo_startAgain S T1) (v1 : Int), (0 ≤ v1 ∧ v1 ≤ 9) → (0 ≤ v1 ∧ v1 ≤ 9) → (Xi T1 1 3 = 0) → (∀ j : Nat, (j : Int) < v1 → Xi T1 5 j = 0) → n7 = (10 - v1).toNat → Rl lay0 (d + 7) m_vo_startAgain 7 [(0, .ref 1), (1, iv v1)] [] T1 (Q_vo_startAgain S) := by
  have hF : FR md_vo_startAgain S S := FR.rf
  have w1 : 0 ≤ Xi S 1 3 ∧ Xi S 1 3 ≤ 200 := hH.c _ _
  intro n7
  induction n7 using Nat.strongRecOn with
  | ind n7 ih7 =>
    intro T1 hHT1 hFT1 v1 w2 w3 he7 hz7 hm7
    have w4 : 0 ≤ Xi T1 1 3 ∧ Xi T1 1 3 ≤ 200 := hHT1.c _ _
    refine l_iload_n rfl rfl ?_
    refine l_aload_n rfl rfl ?_
    refine l_gfr rfl rfl rfl rfl rfl (hHT1.r 1 4 5 rfl) ?_
    refine l_alen (n := 9) (z := 9) rfl rfl rfl rfl rfl ?_
    refine l_icmp_ge rfl rfl (by unfold rg; omega) (by unfold rg; omega) (fun w5 => ?_) (fun w6 => ?_)
    · refine l_aload_n rfl rfl ?_
      have w7 : 0 ≤ Xi T1 5 0 ∧ Xi T1 5 0 ≤ 16 := hHT1.c _ _
      refine l_callV rfl rfl rfl (t_vo_startKinds hHT1 (by first | assumption | exact LEX_none he7) (hz7 0 (by omega)) _) ?_
      rintro _ T2 ⟨hHT2, w12, rfl, w8, w9, w10⟩
      have hFT2 : FR md_vo_startAgain S T2 := FR.tr hFT1 w12 rfl
      show Rl _ _ _ _ _ [] _ _
      have q30 : ∀ j, j ≠ 0 → Xi T2 5 j = Xi T1 5 j := by assumption
      have k30_0 : Xi T2 5 0 = 5 := by assumption
      have k30_1 : Xi T2 5 1 = 0 := (q30 1 (by decide)).trans (hz7 1 (by omega))
      have k30_2 : Xi T2 5 2 = 0 := (q30 2 (by decide)).trans (hz7 2 (by omega))
      have k30_3 : Xi T2 5 3 = 0 := (q30 3 (by decide)).trans (hz7 3 (by omega))
      have k30_4 : Xi T2 5 4 = 0 := (q30 4 (by decide)).trans (hz7 4 (by omega))
      have k30_5 : Xi T2 5 5 = 0 := (q30 5 (by decide)).trans (hz7 5 (by omega))
      have k30_6 : Xi T2 5 6 = 0 := (q30 6 (by decide)).trans (hz7 6 (by omega))
      have k30_7 : Xi T2 5 7 = 0 := (q30 7 (by decide)).trans (hz7 7 (by omega))
      have k30_8 : Xi T2 5 8 = 0 := (q30 8 (by decide)).trans (hz7 8 (by omega))
      have l30 : LEX T2 := by assumption
      refine l_aload_n rfl rfl ?_
      refine l_iconst rfl ?_
      refine l_ldcR (i := 11) rfl rfl ?_
      have w13 : 0 ≤ Xi T2 1 3 ∧ Xi T2 1 3 ≤ 200 := hHT2.c _ _
      refine l_callV rfl rfl rfl (t_vo_addFirst hHT2 1 11 _ ⟨by omega, by omega⟩ rfl (by first | assumption | exact LEX_none he7) (show Xi T2 5 1 + 1 ≤ 8 by first | omega | (have hz : Xi T2 5 1 = Xi T2 5 (1 : Int).toNat := rfl; omega)) _) ?_
      rintro _ T3 ⟨hHT3, w20, z19, rfl, w19, w14, w15, w16, w17, w18⟩
      have hFT3 : FR md_vo_startAgain S T3 := FR.tr hFT2 w20 rfl
      show Rl _ _ _ _ _ [iv z19] _ _
      have hz1 : z19 = Xi T2 5 1 := by have t := (by assumption : z19 = Xi T2 5 (1 : Int).toNat); exact t
      have hc1a : Xi T3 5 1 = Xi T2 5 1 + 1 := by have t := (by assumption : Xi T3 5 (1 : Int).toNat = Xi T2 5 (1 : Int).toNat + 1); exact t
      have ho1a : ∀ j, j ≠ 1 → Xi T3 5 j = Xi T2 5 j := by have t := (by assumption : ∀ j, j ≠ (1 : Int).toNat → Xi T3 5 j = Xi T2 5 j); exact t
      have k37_0 : Xi T3 5 0 = 5 := (ho1a 0 (by decide)).trans k30_0
      have k37_1 : Xi T3 5 1 = 1 := by omega
      have k37_2 : Xi T3 5 2 = 0 := (ho1a 2 (by decide)).trans k30_2
      have k37_3 : Xi T3 5 3 = 0 := (ho1a 3 (by decide)).trans k30_3
      have k37_4 : Xi T3 5 4 = 0 := (ho1a 4 (by decide)).trans k30_4
      have k37_5 : Xi T3 5 5 = 0 := (ho1a 5 (by decide)).trans k30_5
      have k37_6 : Xi T3 5 6 = 0 := (ho1a 6 (by decide)).trans k30_6
      have k37_7 : Xi T3 5 7 = 0 := (ho1a 7 (by decide)).trans k30_7
      have k37_8 : Xi T3 5 8 = 0 := (ho1a 8 (by decide)).trans k30_8
      have z37 : (z19).toNat = 0 := by omega
      have l37 : LEX T3 := by assumption
      refine l_pop rfl rfl ?_
      refine l_aload_n rfl rfl ?_
      refine l_iconst rfl ?_
      refine l_ldcR (i := 12) rfl rfl ?_
      have w21 : 0 ≤ Xi T3 1 3 ∧ Xi T3 1 3 ≤ 200 := hHT3.c _ _
      refine l_callV rfl rfl rfl (t_vo_addFirst hHT3 1 12 _ ⟨by omega, by omega⟩ rfl (by first | assumption | exact LEX_none he7) (show Xi T3 5 1 + 1 ≤ 8 by first | omega | (have hz : Xi T3 5 1 = Xi T3 5 (1 : Int).toNat := rfl; omega)) _) ?_
      rintro _ T4 ⟨hHT4, w28, z27, rfl, w27, w22, w23, w24, w25, w26⟩
      have hFT4 : FR md_vo_startAgain S T4 := FR.tr hFT3 w28 rfl
      show Rl _ _ _ _ _ [iv z27] _ _
      have hz1 : z27 = Xi T3 5 1 := by have t := (by assumption : z27 = Xi T3 5 (1 : Int).toNat); exact t
      have hc1a : Xi T4 5 1 = Xi T3 5 1 + 1 := by have t := (by assumption : Xi T4 5 (1 : Int).toNat = Xi T3 5 (1 : Int).toNat + 1); exact t
      have ho1a : ∀ j, j ≠ 1 → Xi T4 5 j = Xi T3 5 j := by have t := (by assumption : ∀ j, j ≠ (1 : Int).toNat → Xi T4 5 j = Xi T3 5 j); exact t
      have k45_0 : Xi T4 5 0 = 5 := (ho1a 0 (by decide)).trans k37_0
      have k45_1 : Xi T4 5 1 = 2 := by omega
      have k45_2 : Xi T4 5 2 = 0 := (ho1a 2 (by decide)).trans k37_2
      have k45_3 : Xi T4 5 3 = 0 := (ho1a 3 (by decide)).trans k37_3
      have k45_4 : Xi T4 5 4 = 0 := (ho1a 4 (by decide)).trans k37_4
      have k45_5 : Xi T4 5 5 = 0 := (ho1a 5 (by decide)).trans k37_5
      have k45_6 : Xi T4 5 6 = 0 := (ho1a 6 (by decide)).trans k37_6
      have k45_7 : Xi T4 5 7 = 0 := (ho1a 7 (by decide)).trans k37_7
      have k45_8 : Xi T4 5 8 = 0 := (ho1a 8 (by decide)).trans k37_8
      have z45 : (z27).toNat = 1 := by omega
      have l45 : LEX T4 := by assumption
      refine l_pop rfl rfl ?_
      refine l_aload_n rfl rfl ?_
      refine l_gfr rfl rfl rfl rfl rfl (hHT4.r 1 8 9 rfl) ?_
      refine l_aload_n rfl rfl ?_
      refine l_iconst rfl ?_
      refine l_ldcR (i := 13) rfl rfl ?_
      have w29 : 0 ≤ Xi T4 1 3 ∧ Xi T4 1 3 ≤ 200 := hHT4.c _ _
      refine l_callV rfl rfl rfl (t_vo_addFirst hHT4 5 13 _ ⟨by omega, by omega⟩ rfl (by first | assumption | exact LEX_none he7) (show Xi T4 5 5 + 1 ≤ 12 by first | omega | (have hz : Xi T4 5 5 = Xi T4 5 (5 : Int).toNat := rfl; omega)) _) ?_
      rintro _ T5 ⟨hHT5, w36, z35, rfl, w35, w30, w31, w32, w33, w34⟩
      have hFT5 : FR md_vo_startAgain S T5 := FR.tr hFT4 w36 rfl
      show Rl _ _ _ _ _ [iv z35, .ref 9] _ _
      have hz5 : z35 = Xi T4 5 5 := by have t := (by assumption : z35 = Xi T4 5 (5 : Int).toNat); exact t
      have hc5a : Xi T5 5 5 = Xi T4 5 5 + 1 := by have t := (by assumption : Xi T5 5 (5 : Int).toNat = Xi T4 5 (5 : Int).toNat + 1); exact t
      have ho5a : ∀ j, j ≠ 5 → Xi T5 5 j = Xi T4 5 j := by have t := (by assumption : ∀ j, j ≠ (5 : Int).toNat → Xi T5 5 j = Xi T4 5 j); exact t
      have k57_0 : Xi T5 5 0 = 5 := (ho5a 0 (by decide)).trans k45_0
      have k57_1 : Xi T5 5 1 = 2 := (ho5a 1 (by decide)).trans k45_1
      have k57_2 : Xi T5 5 2 = 0 := (ho5a 2 (by decide)).trans k45_2
      have k57_3 : Xi T5 5 3 = 0 := (ho5a 3 (by decide)).trans k45_3
      have k57_4 : Xi T5 5 4 = 0 := (ho5a 4 (by decide)).trans k45_4
      have k57_5 : Xi T5 5 5 = 1 := by omega
      have k57_6 : Xi T5 5 6 = 0 := (ho5a 6 (by decide)).trans k45_6
      have k57_7 : Xi T5 5 7 = 0 := (ho5a 7 (by decide)).trans k45_7
      have k57_8 : Xi T5 5 8 = 0 := (ho5a 8 (by decide)).trans k45_8
      have z57 : (z35).toNat = 0 := by omega
      have l57 : LEX T5 := by assumption
      refine l_iconst rfl ?_
      refine l_iastore (n := 12) rfl rfl (by omega) (by omega) (by unfold rg; omega) ?_
      obtain ⟨U6, eU6⟩ : ∃ T : sS, T = uI T5 9 ((z35).toNat) (Int32.ofInt 1) := ⟨_, rfl⟩
      rw [← eU6]
      have hHU6 : HI U6 := by rw [eU6]; exact HI_w hHT5 (show 0 ≤ 1 by omega) (show 1 ≤ 7 by omega)
      have hFU6 : FR md_vo_startAgain S U6 := by rw [eU6]; exact FR.wI hFT5 (mdf_i (r := (9, 10, 0, 100000)) (List.mem_of_getElem? (i := 7) rfl) (inR_i (by omega) (by omega) (by omega) (by omega)))
      have w37 : Xi U6 9 ((z35).toNat) = 1 := by rw [eU6]; exact Xi_same (by unfold rg; omega)
      have q61 : ∀ j, Xi U6 5 j = Xi T5 5 j := fun j => ((FR_e eU6).cx 5 rfl j).1
      have k61_0 : Xi U6 5 0 = 5 := (q61 0).trans k57_0
      have k61_1 : Xi U6 5 1 = 2 := (q61 1).trans k57_1
      have k61_2 : Xi U6 5 2 = 0 := (q61 2).trans k57_2
      have k61_3 : Xi U6 5 3 = 0 := (q61 3).trans k57_3
      have k61_4 : Xi U6 5 4 = 0 := (q61 4).trans k57_4
      have k61_5 : Xi U6 5 5 = 1 := (q61 5).trans k57_5
      have k61_6 : Xi U6 5 6 = 0 := (q61 6).trans k57_6
      have k61_7 : Xi U6 5 7 = 0 := (q61 7).trans k57_7
      have k61_8 : Xi U6 5 8 = 0 := (q61 8).trans k57_8
      have l61 : LEX U6 := LEX_FR (FR_e eU6) rfl rfl l57
      refine l_aload_n rfl rfl ?_
      refine l_gfr rfl rfl rfl rfl rfl (hHU6.r 1 6 7 rfl) ?_
      refine l_iconst rfl ?_
      refine l_iconst rfl ?_
      refine l_iastore (n := 16) rfl rfl (by omega) (by omega) (by unfold rg; omega) ?_
      obtain ⟨U7, eU7⟩ : ∃ T : sS, T = uI U6 7 ((0 : Int).toNat) (Int32.ofInt 1) := ⟨_, rfl⟩
      rw [← eU7]
      have hHU7 : HI U7 := by rw [eU7]; exact HI_any hHU6 (rfl)
      have hFU7 : FR md_vo_startAgain S U7 := by rw [eU7]; exact FR.wI hFU6 (mdf_i (r := (7, 8, 0, 100000)) (List.mem_of_getElem? (i := 6) rfl) (inR_i (by omega) (by omega) (by omega) (by omega)))
      have w38 : Xi U7 7 ((0 : Int).toNat) = 1 := by rw [eU7]; exact Xi_same (by unfold rg; omega)
      have q68 : ∀ j, Xi U7 5 j = Xi U6 5 j := fun j => ((FR_e eU7).cx 5 rfl j).1
      have k68_0 : Xi U7 5 0 = 5 := (q68 0).trans k61_0
      have k68_1 : Xi U7 5 1 = 2 := (q68 1).trans k61_1
      have k68_2 : Xi U7 5 2 = 0 := (q68 2).trans k61_2
      have k68_3 : Xi U7 5 3 = 0 := (q68 3).trans k61_3
      have k68_4 : Xi U7 5 4 = 0 := (q68 4).trans k61_4
      have k68_5 : Xi U7 5 5 = 1 := (q68 5).trans k61_5
      have k68_6 : Xi U7 5 6 = 0 := (q68 6).trans k61_6
      have k68_7 : Xi U7 5 7 = 0 := (q68 7).trans k61_7
      have k68_8 : Xi U7 5 8 = 0 := (q68 8).trans k61_8
      have l68 : LEX U7 := LEX_FR (FR_e eU7) rfl rfl l61
      refine l_aload_n rfl rfl ?_
      refine l_gfr rfl rfl rfl rfl rfl (hHU7.r 1 6 7 rfl) ?_
      refine l_iconst rfl ?_
      refine l_iconst rfl ?_
      refine l_iastore (n := 16) rfl rfl (by omega) (by omega) (by unfold rg; omega) ?_
      obtain ⟨U8, eU8⟩ : ∃ T : sS, T = uI U7 7 ((1 : Int).toNat) (Int32.ofInt 1) := ⟨_, rfl⟩
      rw [← eU8]
      have hHU8 : HI U8 := by rw [eU8]; exact HI_any hHU7 (rfl)
      have hFU8 : FR md_vo_startAgain S U8 := by rw [eU8]; exact FR.wI hFU7 (mdf_i (r := (7, 8, 0, 100000)) (List.mem_of_getElem? (i := 6) rfl) (inR_i (by omega) (by omega) (by omega) (by omega)))
      have w39 : Xi U8 7 ((1 : Int).toNat) = 1 := by rw [eU8]; exact Xi_same (by unfold rg; omega)
      have q75 : ∀ j, Xi U8 5 j = Xi U7 5 j := fun j => ((FR_e eU8).cx 5 rfl j).1
      have k75_0 : Xi U8 5 0 = 5 := (q75 0).trans k68_0
      have k75_1 : Xi U8 5 1 = 2 := (q75 1).trans k68_1
      have k75_2 : Xi U8 5 2 = 0 := (q75 2).trans k68_2
      have k75_3 : Xi U8 5 3 = 0 := (q75 3).trans k68_3
      have k75_4 : Xi U8 5 4 = 0 := (q75 4).trans k68_4
      have k75_5 : Xi U8 5 5 = 1 := (q75 5).trans k68_5
      have k75_6 : Xi U8 5 6 = 0 := (q75 6).trans k68_6
      have k75_7 : Xi U8 5 7 = 0 := (q75 7).trans k68_7
      have k75_8 : Xi U8 5 8 = 0 := (q75 8).trans k68_8
      have l75 : LEX U8 := LEX_FR (FR_e eU8) rfl rfl l68
      refine l_aload_n rfl rfl ?_
      refine l_iconst rfl ?_
      refine l_ldcR (i := 14) rfl rfl ?_
      have w40 : Xi U8 1 3 = Xi T5 1 3 := (show Xi U8 1 3 = Xi U7 1 3 from by rw [eU8]; exact Xi_ne (by omega)).trans ( (show Xi U7 1 3 = Xi U6 1 3 from by rw [eU7]; exact Xi_ne (by omega)).trans ((show Xi U6 1 3 = Xi T5 1 3 from by rw [eU6]; exact Xi_ne (by omega))))
      have w41 : 0 ≤ Xi T5 1 3 ∧ Xi T5 1 3 ≤ 200 := hHT5.c _ _
      refine l_callV rfl rfl rfl (t_vo_addFirst hHU8 3 14 _ ⟨by omega, by omega⟩ rfl (by first | assumption | exact LEX_none he7) (show Xi U8 5 3 + 1 ≤ 24 by first | omega | (have hz : Xi U8 5 3 = Xi U8 5 (3 : Int).toNat := rfl; omega)) _) ?_
      rintro _ T9 ⟨hHT9, w48, z47, rfl, w47, w42, w43, w44, w45, w46⟩
      have hFT9 : FR md_vo_startAgain S T9 := FR.tr hFU8 w48 rfl
      show Rl _ _ _ _ _ [iv z47] _ _
      have hz3 : z47 = Xi U8 5 3 := by have t := (by assumption : z47 = Xi U8 5 (3 : Int).toNat); exact t
      have hc3a : Xi T9 5 3 = Xi U8 5 3 + 1 := by have t := (by assumption : Xi T9 5 (3 : Int).toNat = Xi U8 5 (3 : Int).toNat + 1); exact t
      have ho3a : ∀ j, j ≠ 3 → Xi T9 5 j = Xi U8 5 j := by have t := (by assumption : ∀ j, j ≠ (3 : Int).toNat → Xi T9 5 j = Xi U8 5 j); exact t
      have k80_0 : Xi T9 5 0 = 5 := (ho3a 0 (by decide)).trans k75_0
      have k80_1 : Xi T9 5 1 = 2 := (ho3a 1 (by decide)).trans k75_1
      have k80_2 : Xi T9 5 2 = 0 := (ho3a 2 (by decide)).trans k75_2
      have k80_3 : Xi T9 5 3 = 1 := by omega
      have k80_4 : Xi T9 5 4 = 0 := (ho3a 4 (by decide)).trans k75_4
      have k80_5 : Xi T9 5 5 = 1 := (ho3a 5 (by decide)).trans k75_5
      have k80_6 : Xi T9 5 6 = 0 := (ho3a 6 (by decide)).trans k75_6
      have k80_7 : Xi T9 5 7 = 0 := (ho3a 7 (by decide)).trans k75_7
      have k80_8 : Xi T9 5 8 = 0 := (ho3a 8 (by decide)).trans k75_8
      have z80 : (z47).toNat = 0 := by omega
      have l80 : LEX T9 := by assumption
      refine l_pop rfl rfl ?_
      refine l_aload_n rfl rfl ?_
      refine l_iconst rfl ?_
      refine l_ldcR (i := 15) rfl rfl ?_
      have w49 : 0 ≤ Xi T9 1 3 ∧ Xi T9 1 3 ≤ 200 := hHT9.c _ _
      refine l_callV rfl rfl rfl (t_vo_addFirst hHT9 3 15 _ ⟨by omega, by omega⟩ rfl (by first | assumption | exact LEX_none he7) (show Xi T9 5 3 + 1 ≤ 24 by first | omega | (have hz : Xi T9 5 3 = Xi T9 5 (3 : Int).toNat := rfl; omega)) _) ?_
      rintro _ T10 ⟨hHT10, w56, z55, rfl, w55, w50, w51, w52, w53, w54⟩
      have hFT10 : FR md_vo_startAgain S T10 := FR.tr hFT9 w56 rfl
      show Rl _ _ _ _ _ [iv z55] _ _
      have hz3 : z55 = Xi T9 5 3 := by have t := (by assumption : z55 = Xi T9 5 (3 : Int).toNat); exact t
      have hc3a : Xi T10 5 3 = Xi T9 5 3 + 1 := by have t := (by assumption : Xi T10 5 (3 : Int).toNat = Xi T9 5 (3 : Int).toNat + 1); exact t
      have ho3a : ∀ j, j ≠ 3 → Xi T10 5 j = Xi T9 5 j := by have t := (by assumption : ∀ j, j ≠ (3 : Int).toNat → Xi T10 5 j = Xi T9 5 j); exact t
      have k88_0 : Xi T10 5 0 = 5 := (ho3a 0 (by decide)).trans k80_0
      have k88_1 : Xi T10 5 1 = 2 := (ho3a 1 (by decide)).trans k80_1
      have k88_2 : Xi T10 5 2 = 0 := (ho3a 2 (by decide)).trans k80_2
      have k88_3 : Xi T10 5 3 = 2 := by omega
      have k88_4 : Xi T10 5 4 = 0 := (ho3a 4 (by decide)).trans k80_4
      have k88_5 : Xi T10 5 5 = 1 := (ho3a 5 (by decide)).trans k80_5
      have k88_6 : Xi T10 5 6 = 0 := (ho3a 6 (by decide)).trans k80_6
      have k88_7 : Xi T10 5 7 = 0 := (ho3a 7 (by decide)).trans k80_7
      have k88_8 : Xi T10 5 8 = 0 := (ho3a 8 (by decide)).trans k80_8
      have z88 : (z55).toNat = 1 := by omega
      have l88 : LEX T10 := by assumption
      refine l_pop rfl rfl ?_
      refine l_aload_n rfl rfl ?_
      refine l_iconst rfl ?_
      refine l_iconst rfl ?_
      refine l_callV rfl rfl rfl (t_vo_makeContrary__2 hHT10 0 0 ⟨by omega, by omega⟩ ⟨by omega, by omega⟩ _) ?_
      rintro _ T11 ⟨hHT11, w60, rfl, w57, w58⟩
      have hFT11 : FR md_vo_startAgain S T11 := FR.tr hFT10 w60 rfl
      show Rl _ _ _ _ _ [] _ _
      have q95 : ∀ j, Xi T11 5 j = Xi T10 5 j := fun j => ((by assumption : FR md_vo_makeContrary__2 T10 T11).cx 5 rfl j).1
      have k95_0 : Xi T11 5 0 = 5 := (q95 0).trans k88_0
      have k95_1 : Xi T11 5 1 = 2 := (q95 1).trans k88_1
      have k95_2 : Xi T11 5 2 = 0 := (q95 2).trans k88_2
      have k95_3 : Xi T11 5 3 = 2 := (q95 3).trans k88_3
      have k95_4 : Xi T11 5 4 = 0 := (q95 4).trans k88_4
      have k95_5 : Xi T11 5 5 = 1 := (q95 5).trans k88_5
      have k95_6 : Xi T11 5 6 = 0 := (q95 6).trans k88_6
      have k95_7 : Xi T11 5 7 = 0 := (q95 7).trans k88_7
      have k95_8 : Xi T11 5 8 = 0 := (q95 8).trans k88_8
      have c95 : Xi T11 11 0 = 1 ∧ Xi T11 11 1 = 0 := by have t := (by assumption : Xi T11 11 (0 : Int).toNat = 0 + 1 ∧ Xi T11 11 (0 + 1 : Int).toNat = 0); exact t
      have l95 : LEX T11 := LEX_FR (by assumption : FR md_vo_makeContrary__2 T10 T11) rfl rfl l88
      refine l_aload_n rfl rfl ?_
      refine l_gfr rfl rfl rfl rfl rfl (hHT11.r 1 18 19 rfl) ?_
      refine l_aload_n rfl rfl ?_
      refine l_bipush rfl rfl ?_
      refine l_ldcR (i := 16) rfl rfl ?_
      have w61 : Xi T11 1 3 = Xi T10 1 3 := (show Xi T11 1 3 = Xi T10 1 3 from w60.x _ _ rfl)
      have w62 : 0 ≤ Xi T10 1 3 ∧ Xi T10 1 3 ≤ 200 := hHT10.c _ _
      refine l_callV rfl rfl rfl (t_vo_addFirst hHT11 8 16 _ ⟨by omega, by omega⟩ rfl (by first | assumption | exact LEX_none he7) (show Xi T11 5 8 + 1 ≤ 12 by first | omega | (have hz : Xi T11 5 8 = Xi T11 5 (8 : Int).toNat := rfl; omega)) _) ?_
      rintro _ T12 ⟨hHT12, w69, z68, rfl, w68, w63, w64, w65, w66, w67⟩
      have hFT12 : FR md_vo_startAgain S T12 := FR.tr hFT11 w69 rfl
      show Rl _ _ _ _ _ [iv z68, .ref 19] _ _
      have hz8 : z68 = Xi T11 5 8 := by have t := (by assumption : z68 = Xi T11 5 (8 : Int).toNat); exact t
      have hc8a : Xi T12 5 8 = Xi T11 5 8 + 1 := by have t := (by assumption : Xi T12 5 (8 : Int).toNat = Xi T11 5 (8 : Int).toNat + 1); exact t
      have ho8a : ∀ j, j ≠ 8 → Xi T12 5 j = Xi T11 5 j := by have t := (by assumption : ∀ j, j ≠ (8 : Int).toNat → Xi T12 5 j = Xi T11 5 j); exact t
      have k107_0 : Xi T12 5 0 = 5 := (ho8a 0 (by decide)).trans k95_0
      have k107_1 : Xi T12 5 1 = 2 := (ho8a 1 (by decide)).trans k95_1
      have k107_2 : Xi T12 5 2 = 0 := (ho8a 2 (by decide)).trans k95_2
      have k107_3 : Xi T12 5 3 = 2 := (ho8a 3 (by decide)).trans k95_3
      have k107_4 : Xi T12 5 4 = 0 := (ho8a 4 (by decide)).trans k95_4
      have k107_5 : Xi T12 5 5 = 1 := (ho8a 5 (by decide)).trans k95_5
      have k107_6 : Xi T12 5 6 = 0 := (ho8a 6 (by decide)).trans k95_6
      have k107_7 : Xi T12 5 7 = 0 := (ho8a 7 (by decide)).trans k95_7
      have k107_8 : Xi T12 5 8 = 1 := by omega
      have z107 : (z68).toNat = 0 := by omega
      have qc107 : ∀ j, Xi T12 11 j = Xi T11 11 j := fun j => ((by assumption : FR md_vo_addFirst T11 T12).cx 11 rfl j).1
      have c107 : Xi T12 11 0 = 1 ∧ Xi T12 11 1 = 0 := ⟨(qc107 0).trans c95.1, (qc107 1).trans c95.2⟩
      have l107 : LEX T12 := by assumption
      refine l_iconst rfl ?_
      refine l_iastore (n := 12) rfl rfl (by omega) (by omega) (by unfold rg; omega) ?_
      obtain ⟨U13, eU13⟩ : ∃ T : sS, T = uI T12 19 ((z68).toNat) (Int32.ofInt (-1)) := ⟨_, rfl⟩
      rw [← eU13]
      have hHU13 : HI U13 := by rw [eU13]; exact HI_w hHT12 (show -2 ≤ (-1) by omega) (show (-1) ≤ 15 by omega)
      have hFU13 : FR md_vo_startAgain S U13 := by rw [eU13]; exact FR.wI hFT12 (mdf_i (r := (19, 20, 0, 100000)) (List.mem_of_getElem? (i := 10) rfl) (inR_i (by omega) (by omega) (by omega) (by omega)))
      have w70 : Xi U13 19 ((z68).toNat) = (-1) := by rw [eU13]; exact Xi_same (by unfold rg; omega)
      have q111 : ∀ j, Xi U13 5 j = Xi T12 5 j := fun j => ((FR_e eU13).cx 5 rfl j).1
      have k111_0 : Xi U13 5 0 = 5 := (q111 0).trans k107_0
      have k111_1 : Xi U13 5 1 = 2 := (q111 1).trans k107_1
      have k111_2 : Xi U13 5 2 = 0 := (q111 2).trans k107_2
      have k111_3 : Xi U13 5 3 = 2 := (q111 3).trans k107_3
      have k111_4 : Xi U13 5 4 = 0 := (q111 4).trans k107_4
      have k111_5 : Xi U13 5 5 = 1 := (q111 5).trans k107_5
      have k111_6 : Xi U13 5 6 = 0 := (q111 6).trans k107_6
      have k111_7 : Xi U13 5 7 = 0 := (q111 7).trans k107_7
      have k111_8 : Xi U13 5 8 = 1 := (q111 8).trans k107_8
      have a111_0 : Xi U13 19 0 = -1 := by rw [eU13, z107]; exact Xi_same (by unfold rg; omega)
      have qc111 : ∀ j, Xi U13 11 j = Xi T12 11 j := fun j => ((FR_e eU13).cx 11 rfl j).1
      have c111 : Xi U13 11 0 = 1 ∧ Xi U13 11 1 = 0 := ⟨(qc111 0).trans c107.1, (qc111 1).trans c107.2⟩
      have l111 : LEX U13 := LEX_FR (FR_e eU13) rfl rfl l107
      refine l_aload_n rfl rfl ?_
      refine l_gfr rfl rfl rfl rfl rfl (hHU13.r 1 18 19 rfl) ?_
      refine l_aload_n rfl rfl ?_
      refine l_bipush rfl rfl ?_
      refine l_ldcR (i := 17) rfl rfl ?_
      have w71 : Xi U13 1 3 = Xi T12 1 3 := (show Xi U13 1 3 = Xi T12 1 3 from by rw [eU13]; exact Xi_ne (by omega))
      have w72 : 0 ≤ Xi T12 1 3 ∧ Xi T12 1 3 ≤ 200 := hHT12.c _ _
      refine l_callV rfl rfl rfl (t_vo_addFirst hHU13 8 17 _ ⟨by omega, by omega⟩ rfl (by first | assumption | exact LEX_none he7) (show Xi U13 5 8 + 1 ≤ 12 by first | omega | (have hz : Xi U13 5 8 = Xi U13 5 (8 : Int).toNat := rfl; omega)) _) ?_
      rintro _ T14 ⟨hHT14, w79, z78, rfl, w78, w73, w74, w75, w76, w77⟩
      have hFT14 : FR md_vo_startAgain S T14 := FR.tr hFU13 w79 rfl
      show Rl _ _ _ _ _ [iv z78, .ref 19] _ _
      have hz8 : z78 = Xi U13 5 8 := by have t := (by assumption : z78 = Xi U13 5 (8 : Int).toNat); exact t
      have hc8a : Xi T14 5 8 = Xi U13 5 8 + 1 := by have t := (by assumption : Xi T14 5 (8 : Int).toNat = Xi U13 5 (8 : Int).toNat + 1); exact t
      have ho8a : ∀ j, j ≠ 8 → Xi T14 5 j = Xi U13 5 j := by have t := (by assumption : ∀ j, j ≠ (8 : Int).toNat → Xi T14 5 j = Xi U13 5 j); exact t
      have k121_0 : Xi T14 5 0 = 5 := (ho8a 0 (by decide)).trans k111_0
      have k121_1 : Xi T14 5 1 = 2 := (ho8a 1 (by decide)).trans k111_1
      have k121_2 : Xi T14 5 2 = 0 := (ho8a 2 (by decide)).trans k111_2
      have k121_3 : Xi T14 5 3 = 2 := (ho8a 3 (by decide)).trans k111_3
      have k121_4 : Xi T14 5 4 = 0 := (ho8a 4 (by decide)).trans k111_4
      have k121_5 : Xi T14 5 5 = 1 := (ho8a 5 (by decide)).trans k111_5
      have k121_6 : Xi T14 5 6 = 0 := (ho8a 6 (by decide)).trans k111_6
      have k121_7 : Xi T14 5 7 = 0 := (ho8a 7 (by decide)).trans k111_7
      have k121_8 : Xi T14 5 8 = 2 := by omega
      have z121 : (z78).toNat = 1 := by omega
      have qa121 : ∀ j, Xi T14 19 j = Xi U13 19 j := fun j => ((by assumption : FR md_vo_addFirst U13 T14).cx 19 rfl j).1
      have a121_0 : Xi T14 19 0 = -1 := (qa121 0).trans a111_0
      have qc121 : ∀ j, Xi T14 11 j = Xi U13 11 j := fun j => ((by assumption : FR md_vo_addFirst U13 T14).cx 11 rfl j).1
      have c121 : Xi T14 11 0 = 1 ∧ Xi T14 11 1 = 0 := ⟨(qc121 0).trans c111.1, (qc121 1).trans c111.2⟩
      have l121 : LEX T14 := by assumption
      refine l_iconst rfl ?_
      refine l_iastore (n := 12) rfl rfl (by omega) (by omega) (by unfold rg; omega) ?_
      obtain ⟨U15, eU15⟩ : ∃ T : sS, T = uI T14 19 ((z78).toNat) (Int32.ofInt 0) := ⟨_, rfl⟩
      rw [← eU15]
      have hHU15 : HI U15 := by rw [eU15]; exact HI_w hHT14 (show -2 ≤ 0 by omega) (show 0 ≤ 15 by omega)
      have hFU15 : FR md_vo_startAgain S U15 := by rw [eU15]; exact FR.wI hFT14 (mdf_i (r := (19, 20, 0, 100000)) (List.mem_of_getElem? (i := 10) rfl) (inR_i (by omega) (by omega) (by omega) (by omega)))
      have w80 : Xi U15 19 ((z78).toNat) = 0 := by rw [eU15]; exact Xi_same (by unfold rg; omega)
      have q125 : ∀ j, Xi U15 5 j = Xi T14 5 j := fun j => ((FR_e eU15).cx 5 rfl j).1
      have k125_0 : Xi U15 5 0 = 5 := (q125 0).trans k121_0
      have k125_1 : Xi U15 5 1 = 2 := (q125 1).trans k121_1
      have k125_2 : Xi U15 5 2 = 0 := (q125 2).trans k121_2
      have k125_3 : Xi U15 5 3 = 2 := (q125 3).trans k121_3
      have k125_4 : Xi U15 5 4 = 0 := (q125 4).trans k121_4
      have k125_5 : Xi U15 5 5 = 1 := (q125 5).trans k121_5
      have k125_6 : Xi U15 5 6 = 0 := (q125 6).trans k121_6
      have k125_7 : Xi U15 5 7 = 0 := (q125 7).trans k121_7
      have k125_8 : Xi U15 5 8 = 2 := (q125 8).trans k121_8
      have a125_0 : Xi U15 19 0 = -1 := by rw [eU15, z121, Xi_ne (by omega)]; exact a121_0
      have a125_1 : Xi U15 19 1 = 0 := by rw [eU15, z121]; exact Xi_same (by unfold rg; omega)
      have qc125 : ∀ j, Xi U15 11 j = Xi T14 11 j := fun j => ((FR_e eU15).cx 11 rfl j).1
      have c125 : Xi U15 11 0 = 1 ∧ Xi U15 11 1 = 0 := ⟨(qc125 0).trans c121.1, (qc125 1).trans c121.2⟩
      have l125 : LEX U15 := LEX_FR (FR_e eU15) rfl rfl l121
      refine l_aload_n rfl rfl ?_
      refine l_gfr rfl rfl rfl rfl rfl (hHU15.r 1 18 19 rfl) ?_
      refine l_aload_n rfl rfl ?_
      refine l_bipush rfl rfl ?_
      refine l_ldcR (i := 18) rfl rfl ?_
      have w81 : Xi U15 1 3 = Xi T14 1 3 := (show Xi U15 1 3 = Xi T14 1 3 from by rw [eU15]; exact Xi_ne (by omega))
      have w82 : 0 ≤ Xi T14 1 3 ∧ Xi T14 1 3 ≤ 200 := hHT14.c _ _
      refine l_callV rfl rfl rfl (t_vo_addFirst hHU15 8 18 _ ⟨by omega, by omega⟩ rfl (by first | assumption | exact LEX_none he7) (show Xi U15 5 8 + 1 ≤ 12 by first | omega | (have hz : Xi U15 5 8 = Xi U15 5 (8 : Int).toNat := rfl; omega)) _) ?_
      rintro _ T16 ⟨hHT16, w89, z88, rfl, w88, w83, w84, w85, w86, w87⟩
      have hFT16 : FR md_vo_startAgain S T16 := FR.tr hFU15 w89 rfl
      show Rl _ _ _ _ _ [iv z88, .ref 19] _ _
      have hz8 : z88 = Xi U15 5 8 := by have t := (by assumption : z88 = Xi U15 5 (8 : Int).toNat); exact t
      have hc8a : Xi T16 5 8 = Xi U15 5 8 + 1 := by have t := (by assumption : Xi T16 5 (8 : Int).toNat = Xi U15 5 (8 : Int).toNat + 1); exact t
      have ho8a : ∀ j, j ≠ 8 → Xi T16 5 j = Xi U15 5 j := by have t := (by assumption : ∀ j, j ≠ (8 : Int).toNat → Xi T16 5 j = Xi U15 5 j); exact t
      have k135_0 : Xi T16 5 0 = 5 := (ho8a 0 (by decide)).trans k125_0
      have k135_1 : Xi T16 5 1 = 2 := (ho8a 1 (by decide)).trans k125_1
      have k135_2 : Xi T16 5 2 = 0 := (ho8a 2 (by decide)).trans k125_2
      have k135_3 : Xi T16 5 3 = 2 := (ho8a 3 (by decide)).trans k125_3
      have k135_4 : Xi T16 5 4 = 0 := (ho8a 4 (by decide)).trans k125_4
      have k135_5 : Xi T16 5 5 = 1 := (ho8a 5 (by decide)).trans k125_5
      have k135_6 : Xi T16 5 6 = 0 := (ho8a 6 (by decide)).trans k125_6
      have k135_7 : Xi T16 5 7 = 0 := (ho8a 7 (by decide)).trans k125_7
      have k135_8 : Xi T16 5 8 = 3 := by omega
      have z135 : (z88).toNat = 2 := by omega
      have qa135 : ∀ j, Xi T16 19 j = Xi U15 19 j := fun j => ((by assumption : FR md_vo_addFirst U15 T16).cx 19 rfl j).1
      have a135_0 : Xi T16 19 0 = -1 := (qa135 0).trans a125_0
      have a135_1 : Xi T16 19 1 = 0 := (qa135 1).trans a125_1
      have qc135 : ∀ j, Xi T16 11 j = Xi U15 11 j := fun j => ((by assumption : FR md_vo_addFirst U15 T16).cx 11 rfl j).1
      have c135 : Xi T16 11 0 = 1 ∧ Xi T16 11 1 = 0 := ⟨(qc135 0).trans c125.1, (qc135 1).trans c125.2⟩
      have l135 : LEX T16 := by assumption
      refine l_iconst rfl ?_
      refine l_iastore (n := 12) rfl rfl (by omega) (by omega) (by unfold rg; omega) ?_
      obtain ⟨U17, eU17⟩ : ∃ T : sS, T = uI T16 19 ((z88).toNat) (Int32.ofInt 0) := ⟨_, rfl⟩
      rw [← eU17]
      have hHU17 : HI U17 := by rw [eU17]; exact HI_w hHT16 (show -2 ≤ 0 by omega) (show 0 ≤ 15 by omega)
      have hFU17 : FR md_vo_startAgain S U17 := by rw [eU17]; exact FR.wI hFT16 (mdf_i (r := (19, 20, 0, 100000)) (List.mem_of_getElem? (i := 10) rfl) (inR_i (by omega) (by omega) (by omega) (by omega)))
      have w90 : Xi U17 19 ((z88).toNat) = 0 := by rw [eU17]; exact Xi_same (by unfold rg; omega)
      have q139 : ∀ j, Xi U17 5 j = Xi T16 5 j := fun j => ((FR_e eU17).cx 5 rfl j).1
      have k139_0 : Xi U17 5 0 = 5 := (q139 0).trans k135_0
      have k139_1 : Xi U17 5 1 = 2 := (q139 1).trans k135_1
      have k139_2 : Xi U17 5 2 = 0 := (q139 2).trans k135_2
      have k139_3 : Xi U17 5 3 = 2 := (q139 3).trans k135_3
      have k139_4 : Xi U17 5 4 = 0 := (q139 4).trans k135_4
      have k139_5 : Xi U17 5 5 = 1 := (q139 5).trans k135_5
      have k139_6 : Xi U17 5 6 = 0 := (q139 6).trans k135_6
      have k139_7 : Xi U17 5 7 = 0 := (q139 7).trans k135_7
      have k139_8 : Xi U17 5 8 = 3 := (q139 8).trans k135_8
      have a139_0 : Xi U17 19 0 = -1 := by rw [eU17, z135, Xi_ne (by omega)]; exact a135_0
      have a139_1 : Xi U17 19 1 = 0 := by rw [eU17, z135, Xi_ne (by omega)]; exact a135_1
      have a139_2 : Xi U17 19 2 = 0 := by rw [eU17, z135]; exact Xi_same (by unfold rg; omega)
      have qc139 : ∀ j, Xi U17 11 j = Xi T16 11 j := fun j => ((FR_e eU17).cx 11 rfl j).1
      have c139 : Xi U17 11 0 = 1 ∧ Xi U17 11 1 = 0 := ⟨(qc139 0).trans c135.1, (qc139 1).trans c135.2⟩
      have l139 : LEX U17 := LEX_FR (FR_e eU17) rfl rfl l135
      refine l_aload_n rfl rfl ?_
      refine l_gfr rfl rfl rfl rfl rfl (hHU17.r 1 18 19 rfl) ?_
      refine l_aload_n rfl rfl ?_
      refine l_bipush rfl rfl ?_
      refine l_ldcR (i := 19) rfl rfl ?_
      have w91 : Xi U17 1 3 = Xi T16 1 3 := (show Xi U17 1 3 = Xi T16 1 3 from by rw [eU17]; exact Xi_ne (by omega))
      have w92 : 0 ≤ Xi T16 1 3 ∧ Xi T16 1 3 ≤ 200 := hHT16.c _ _
      refine l_callV rfl rfl rfl (t_vo_addFirst hHU17 8 19 _ ⟨by omega, by omega⟩ rfl (by first | assumption | exact LEX_none he7) (show Xi U17 5 8 + 1 ≤ 12 by first | omega | (have hz : Xi U17 5 8 = Xi U17 5 (8 : Int).toNat := rfl; omega)) _) ?_
      rintro _ T18 ⟨hHT18, w99, z98, rfl, w98, w93, w94, w95, w96, w97⟩
      have hFT18 : FR md_vo_startAgain S T18 := FR.tr hFU17 w99 rfl
      show Rl _ _ _ _ _ [iv z98, .ref 19] _ _
      have hz8 : z98 = Xi U17 5 8 := by have t := (by assumption : z98 = Xi U17 5 (8 : Int).toNat); exact t
      have hc8a : Xi T18 5 8 = Xi U17 5 8 + 1 := by have t := (by assumption : Xi T18 5 (8 : Int).toNat = Xi U17 5 (8 : Int).toNat + 1); exact t
      have ho8a : ∀ j, j ≠ 8 → Xi T18 5 j = Xi U17 5 j := by have t := (by assumption : ∀ j, j ≠ (8 : Int).toNat → Xi T18 5 j = Xi U17 5 j); exact t
      have k149_0 : Xi T18 5 0 = 5 := (ho8a 0 (by decide)).trans k139_0
      have k149_1 : Xi T18 5 1 = 2 := (ho8a 1 (by decide)).trans k139_1
      have k149_2 : Xi T18 5 2 = 0 := (ho8a 2 (by decide)).trans k139_2
      have k149_3 : Xi T18 5 3 = 2 := (ho8a 3 (by decide)).trans k139_3
      have k149_4 : Xi T18 5 4 = 0 := (ho8a 4 (by decide)).trans k139_4
      have k149_5 : Xi T18 5 5 = 1 := (ho8a 5 (by decide)).trans k139_5
      have k149_6 : Xi T18 5 6 = 0 := (ho8a 6 (by decide)).trans k139_6
      have k149_7 : Xi T18 5 7 = 0 := (ho8a 7 (by decide)).trans k139_7
      have k149_8 : Xi T18 5 8 = 4 := by omega
      have z149 : (z98).toNat = 3 := by omega
      have qa149 : ∀ j, Xi T18 19 j = Xi U17 19 j := fun j => ((by assumption : FR md_vo_addFirst U17 T18).cx 19 rfl j).1
      have a149_0 : Xi T18 19 0 = -1 := (qa149 0).trans a139_0
      have a149_1 : Xi T18 19 1 = 0 := (qa149 1).trans a139_1
      have a149_2 : Xi T18 19 2 = 0 := (qa149 2).trans a139_2
      have qc149 : ∀ j, Xi T18 11 j = Xi U17 11 j := fun j => ((by assumption : FR md_vo_addFirst U17 T18).cx 11 rfl j).1
      have c149 : Xi T18 11 0 = 1 ∧ Xi T18 11 1 = 0 := ⟨(qc149 0).trans c139.1, (qc149 1).trans c139.2⟩
      have l149 : LEX T18 := by assumption
      refine l_iconst rfl ?_
      refine l_iastore (n := 12) rfl rfl (by omega) (by omega) (by unfold rg; omega) ?_
      obtain ⟨U19, eU19⟩ : ∃ T : sS, T = uI T18 19 ((z98).toNat) (Int32.ofInt 0) := ⟨_, rfl⟩
      rw [← eU19]
      have hHU19 : HI U19 := by rw [eU19]; exact HI_w hHT18 (show -2 ≤ 0 by omega) (show 0 ≤ 15 by omega)
      have hFU19 : FR md_vo_startAgain S U19 := by rw [eU19]; exact FR.wI hFT18 (mdf_i (r := (19, 20, 0, 100000)) (List.mem_of_getElem? (i := 10) rfl) (inR_i (by omega) (by omega) (by omega) (by omega)))
      have w100 : Xi U19 19 ((z98).toNat) = 0 := by rw [eU19]; exact Xi_same (by unfold rg; omega)
      have q153 : ∀ j, Xi U19 5 j = Xi T18 5 j := fun j => ((FR_e eU19).cx 5 rfl j).1
      have k153_0 : Xi U19 5 0 = 5 := (q153 0).trans k149_0
      have k153_1 : Xi U19 5 1 = 2 := (q153 1).trans k149_1
      have k153_2 : Xi U19 5 2 = 0 := (q153 2).trans k149_2
      have k153_3 : Xi U19 5 3 = 2 := (q153 3).trans k149_3
      have k153_4 : Xi U19 5 4 = 0 := (q153 4).trans k149_4
      have k153_5 : Xi U19 5 5 = 1 := (q153 5).trans k149_5
      have k153_6 : Xi U19 5 6 = 0 := (q153 6).trans k149_6
      have k153_7 : Xi U19 5 7 = 0 := (q153 7).trans k149_7
      have k153_8 : Xi U19 5 8 = 4 := (q153 8).trans k149_8
      have a153_0 : Xi U19 19 0 = -1 := by rw [eU19, z149, Xi_ne (by omega)]; exact a149_0
      have a153_1 : Xi U19 19 1 = 0 := by rw [eU19, z149, Xi_ne (by omega)]; exact a149_1
      have a153_2 : Xi U19 19 2 = 0 := by rw [eU19, z149, Xi_ne (by omega)]; exact a149_2
      have a153_3 : Xi U19 19 3 = 0 := by rw [eU19, z149]; exact Xi_same (by unfold rg; omega)
      have qc153 : ∀ j, Xi U19 11 j = Xi T18 11 j := fun j => ((FR_e eU19).cx 11 rfl j).1
      have c153 : Xi U19 11 0 = 1 ∧ Xi U19 11 1 = 0 := ⟨(qc153 0).trans c149.1, (qc153 1).trans c149.2⟩
      have l153 : LEX U19 := LEX_FR (FR_e eU19) rfl rfl l149
      refine l_aload_n rfl rfl ?_
      refine l_gfr rfl rfl rfl rfl rfl (hHU19.r 1 18 19 rfl) ?_
      refine l_aload_n rfl rfl ?_
      refine l_bipush rfl rfl ?_
      refine l_ldcR (i := 20) rfl rfl ?_
      have w101 : Xi U19 1 3 = Xi T18 1 3 := (show Xi U19 1 3 = Xi T18 1 3 from by rw [eU19]; exact Xi_ne (by omega))
      have w102 : 0 ≤ Xi T18 1 3 ∧ Xi T18 1 3 ≤ 200 := hHT18.c _ _
      refine l_callV rfl rfl rfl (t_vo_addFirst hHU19 8 20 _ ⟨by omega, by omega⟩ rfl (by first | assumption | exact LEX_none he7) (show Xi U19 5 8 + 1 ≤ 12 by first | omega | (have hz : Xi U19 5 8 = Xi U19 5 (8 : Int).toNat := rfl; omega)) _) ?_
      rintro _ T20 ⟨hHT20, w109, z108, rfl, w108, w103, w104, w105, w106, w107⟩
      have hFT20 : FR md_vo_startAgain S T20 := FR.tr hFU19 w109 rfl
      show Rl _ _ _ _ _ [iv z108, .ref 19] _ _
      have hz8 : z108 = Xi U19 5 8 := by have t := (by assumption : z108 = Xi U19 5 (8 : Int).toNat); exact t
      have hc8a : Xi T20 5 8 = Xi U19 5 8 + 1 := by have t := (by assumption : Xi T20 5 (8 : Int).toNat = Xi U19 5 (8 : Int).toNat + 1); exact t
      have ho8a : ∀ j, j ≠ 8 → Xi T20 5 j = Xi U19 5 j := by have t := (by assumption : ∀ j, j ≠ (8 : Int).toNat → Xi T20 5 j = Xi U19 5 j); exact t
      have k163_0 : Xi T20 5 0 = 5 := (ho8a 0 (by decide)).trans k153_0
      have k163_1 : Xi T20 5 1 = 2 := (ho8a 1 (by decide)).trans k153_1
      have k163_2 : Xi T20 5 2 = 0 := (ho8a 2 (by decide)).trans k153_2
      have k163_3 : Xi T20 5 3 = 2 := (ho8a 3 (by decide)).trans k153_3
      have k163_4 : Xi T20 5 4 = 0 := (ho8a 4 (by decide)).trans k153_4
      have k163_5 : Xi T20 5 5 = 1 := (ho8a 5 (by decide)).trans k153_5
      have k163_6 : Xi T20 5 6 = 0 := (ho8a 6 (by decide)).trans k153_6
      have k163_7 : Xi T20 5 7 = 0 := (ho8a 7 (by decide)).trans k153_7
      have k163_8 : Xi T20 5 8 = 5 := by omega
      have z163 : (z108).toNat = 4 := by omega
      have qa163 : ∀ j, Xi T20 19 j = Xi U19 19 j := fun j => ((by assumption : FR md_vo_addFirst U19 T20).cx 19 rfl j).1
      have a163_0 : Xi T20 19 0 = -1 := (qa163 0).trans a153_0
      have a163_1 : Xi T20 19 1 = 0 := (qa163 1).trans a153_1
      have a163_2 : Xi T20 19 2 = 0 := (qa163 2).trans a153_2
      have a163_3 : Xi T20 19 3 = 0 := (qa163 3).trans a153_3
      have qc163 : ∀ j, Xi T20 11 j = Xi U19 11 j := fun j => ((by assumption : FR md_vo_addFirst U19 T20).cx 11 rfl j).1
      have c163 : Xi T20 11 0 = 1 ∧ Xi T20 11 1 = 0 := ⟨(qc163 0).trans c153.1, (qc163 1).trans c153.2⟩
      have l163 : LEX T20 := by assumption
      refine l_bipush rfl rfl ?_
      refine l_iastore (n := 12) rfl rfl (by omega) (by omega) (by unfold rg; omega) ?_
      obtain ⟨U21, eU21⟩ : ∃ T : sS, T = uI T20 19 ((z108).toNat) (Int32.ofInt (-2)) := ⟨_, rfl⟩
      rw [← eU21]
      have hHU21 : HI U21 := by rw [eU21]; exact HI_w hHT20 (show -2 ≤ (-2) by omega) (show (-2) ≤ 15 by omega)
      have hFU21 : FR md_vo_startAgain S U21 := by rw [eU21]; exact FR.wI hFT20 (mdf_i (r := (19, 20, 0, 100000)) (List.mem_of_getElem? (i := 10) rfl) (inR_i (by omega) (by omega) (by omega) (by omega)))
      have w110 : Xi U21 19 ((z108).toNat) = (-2) := by rw [eU21]; exact Xi_same (by unfold rg; omega)
      have q168 : ∀ j, Xi U21 5 j = Xi T20 5 j := fun j => ((FR_e eU21).cx 5 rfl j).1
      have k168_0 : Xi U21 5 0 = 5 := (q168 0).trans k163_0
      have k168_1 : Xi U21 5 1 = 2 := (q168 1).trans k163_1
      have k168_2 : Xi U21 5 2 = 0 := (q168 2).trans k163_2
      have k168_3 : Xi U21 5 3 = 2 := (q168 3).trans k163_3
      have k168_4 : Xi U21 5 4 = 0 := (q168 4).trans k163_4
      have k168_5 : Xi U21 5 5 = 1 := (q168 5).trans k163_5
      have k168_6 : Xi U21 5 6 = 0 := (q168 6).trans k163_6
      have k168_7 : Xi U21 5 7 = 0 := (q168 7).trans k163_7
      have k168_8 : Xi U21 5 8 = 5 := (q168 8).trans k163_8
      have a168_0 : Xi U21 19 0 = -1 := by rw [eU21, z163, Xi_ne (by omega)]; exact a163_0
      have a168_1 : Xi U21 19 1 = 0 := by rw [eU21, z163, Xi_ne (by omega)]; exact a163_1
      have a168_2 : Xi U21 19 2 = 0 := by rw [eU21, z163, Xi_ne (by omega)]; exact a163_2
      have a168_3 : Xi U21 19 3 = 0 := by rw [eU21, z163, Xi_ne (by omega)]; exact a163_3
      have a168_4 : Xi U21 19 4 = -2 := by rw [eU21, z163]; exact Xi_same (by unfold rg; omega)
      have qc168 : ∀ j, Xi U21 11 j = Xi T20 11 j := fun j => ((FR_e eU21).cx 11 rfl j).1
      have c168 : Xi U21 11 0 = 1 ∧ Xi U21 11 1 = 0 := ⟨(qc168 0).trans c163.1, (qc168 1).trans c163.2⟩
      have l168 : LEX U21 := LEX_FR (FR_e eU21) rfl rfl l163
      refine l_aload_n rfl rfl ?_
      refine l_ldcR (i := 21) rfl rfl ?_
      refine l_iconst rfl ?_
      refine l_callV rfl rfl rfl (t_vo_addDirection hHU21 21 _ 0 rfl ⟨by omega, by omega⟩ (by first | assumption | exact LEX_none he7) _) ?_
      rintro _ T22 ⟨hHT22, w114, rfl, w111, w112⟩
      have hFT22 : FR md_vo_startAgain S T22 := FR.tr hFU21 w114 rfl
      show Rl _ _ _ _ _ [] _ _
      have q173 : ∀ j, Xi T22 5 j = Xi U21 5 j := fun j => ((by assumption : FR md_vo_addDirection U21 T22).cx 5 rfl j).1
      have k173_0 : Xi T22 5 0 = 5 := (q173 0).trans k168_0
      have k173_1 : Xi T22 5 1 = 2 := (q173 1).trans k168_1
      have k173_2 : Xi T22 5 2 = 0 := (q173 2).trans k168_2
      have k173_3 : Xi T22 5 3 = 2 := (q173 3).trans k168_3
      have k173_4 : Xi T22 5 4 = 0 := (q173 4).trans k168_4
      have k173_5 : Xi T22 5 5 = 1 := (q173 5).trans k168_5
      have k173_6 : Xi T22 5 6 = 0 := (q173 6).trans k168_6
      have k173_7 : Xi T22 5 7 = 0 := (q173 7).trans k168_7
      have k173_8 : Xi T22 5 8 = 5 := (q173 8).trans k168_8
      have qa173 : ∀ j, Xi T22 19 j = Xi U21 19 j := fun j => ((by assumption : FR md_vo_addDirection U21 T22).cx 19 rfl j).1
      have a173_0 : Xi T22 19 0 = -1 := (qa173 0).trans a168_0
      have a173_1 : Xi T22 19 1 = 0 := (qa173 1).trans a168_1
      have a173_2 : Xi T22 19 2 = 0 := (qa173 2).trans a168_2
      have a173_3 : Xi T22 19 3 = 0 := (qa173 3).trans a168_3
      have a173_4 : Xi T22 19 4 = -2 := (qa173 4).trans a168_4
      have qc173 : ∀ j, Xi T22 11 j = Xi U21 11 j := fun j => ((by assumption : FR md_vo_addDirection U21 T22).cx 11 rfl j).1
      have c173 : Xi T22 11 0 = 1 ∧ Xi T22 11 1 = 0 := ⟨(qc173 0).trans c168.1, (qc173 1).trans c168.2⟩
      have l173 : LEX T22 := by assumption
      refine l_aload_n rfl rfl ?_
      refine l_ldcR (i := 22) rfl rfl ?_
      refine l_iconst rfl ?_
      refine l_callV rfl rfl rfl (t_vo_addDirection hHT22 22 _ 1 rfl ⟨by omega, by omega⟩ (by first | assumption | exact LEX_none he7) _) ?_
      rintro _ T23 ⟨hHT23, w118, rfl, w115, w116⟩
      have hFT23 : FR md_vo_startAgain S T23 := FR.tr hFT22 w118 rfl
      show Rl _ _ _ _ _ [] _ _
      have q180 : ∀ j, Xi T23 5 j = Xi T22 5 j := fun j => ((by assumption : FR md_vo_addDirection T22 T23).cx 5 rfl j).1
      have k180_0 : Xi T23 5 0 = 5 := (q180 0).trans k173_0
      have k180_1 : Xi T23 5 1 = 2 := (q180 1).trans k173_1
      have k180_2 : Xi T23 5 2 = 0 := (q180 2).trans k173_2
      have k180_3 : Xi T23 5 3 = 2 := (q180 3).trans k173_3
      have k180_4 : Xi T23 5 4 = 0 := (q180 4).trans k173_4
      have k180_5 : Xi T23 5 5 = 1 := (q180 5).trans k173_5
      have k180_6 : Xi T23 5 6 = 0 := (q180 6).trans k173_6
      have k180_7 : Xi T23 5 7 = 0 := (q180 7).trans k173_7
      have k180_8 : Xi T23 5 8 = 5 := (q180 8).trans k173_8
      have qa180 : ∀ j, Xi T23 19 j = Xi T22 19 j := fun j => ((by assumption : FR md_vo_addDirection T22 T23).cx 19 rfl j).1
      have a180_0 : Xi T23 19 0 = -1 := (qa180 0).trans a173_0
      have a180_1 : Xi T23 19 1 = 0 := (qa180 1).trans a173_1
      have a180_2 : Xi T23 19 2 = 0 := (qa180 2).trans a173_2
      have a180_3 : Xi T23 19 3 = 0 := (qa180 3).trans a173_3
      have a180_4 : Xi T23 19 4 = -2 := (qa180 4).trans a173_4
      have qc180 : ∀ j, Xi T23 11 j = Xi T22 11 j := fun j => ((by assumption : FR md_vo_addDirection T22 T23).cx 11 rfl j).1
      have c180 : Xi T23 11 0 = 1 ∧ Xi T23 11 1 = 0 := ⟨(qc180 0).trans c173.1, (qc180 1).trans c173.2⟩
      have l180 : LEX T23 := by assumption
      refine l_aload_n rfl rfl ?_
      refine l_ldcR (i := 23) rfl rfl ?_
      refine l_iconst rfl ?_
      refine l_callV rfl rfl rfl (t_vo_addDirection hHT23 23 _ 2 rfl ⟨by omega, by omega⟩ (by first | assumption | exact LEX_none he7) _) ?_
      rintro _ T24 ⟨hHT24, w122, rfl, w119, w120⟩
      have hFT24 : FR md_vo_startAgain S T24 := FR.tr hFT23 w122 rfl
      show Rl _ _ _ _ _ [] _ _
      have q187 : ∀ j, Xi T24 5 j = Xi T23 5 j := fun j => ((by assumption : FR md_vo_addDirection T23 T24).cx 5 rfl j).1
      have k187_0 : Xi T24 5 0 = 5 := (q187 0).trans k180_0
      have k187_1 : Xi T24 5 1 = 2 := (q187 1).trans k180_1
      have k187_2 : Xi T24 5 2 = 0 := (q187 2).trans k180_2
      have k187_3 : Xi T24 5 3 = 2 := (q187 3).trans k180_3
      have k187_4 : Xi T24 5 4 = 0 := (q187 4).trans k180_4
      have k187_5 : Xi T24 5 5 = 1 := (q187 5).trans k180_5
      have k187_6 : Xi T24 5 6 = 0 := (q187 6).trans k180_6
      have k187_7 : Xi T24 5 7 = 0 := (q187 7).trans k180_7
      have k187_8 : Xi T24 5 8 = 5 := (q187 8).trans k180_8
      have qa187 : ∀ j, Xi T24 19 j = Xi T23 19 j := fun j => ((by assumption : FR md_vo_addDirection T23 T24).cx 19 rfl j).1
      have a187_0 : Xi T24 19 0 = -1 := (qa187 0).trans a180_0
      have a187_1 : Xi T24 19 1 = 0 := (qa187 1).trans a180_1
      have a187_2 : Xi T24 19 2 = 0 := (qa187 2).trans a180_2
      have a187_3 : Xi T24 19 3 = 0 := (qa187 3).trans a180_3
      have a187_4 : Xi T24 19 4 = -2 := (qa187 4).trans a180_4
      have qc187 : ∀ j, Xi T24 11 j = Xi T23 11 j := fun j => ((by assumption : FR md_vo_addDirection T23 T24).cx 11 rfl j).1
      have c187 : Xi T24 11 0 = 1 ∧ Xi T24 11 1 = 0 := ⟨(qc187 0).trans c180.1, (qc187 1).trans c180.2⟩
      have l187 : LEX T24 := by assumption
      refine l_aload_n rfl rfl ?_
      refine l_ldcR (i := 24) rfl rfl ?_
      refine l_iconst rfl ?_
      refine l_callV rfl rfl rfl (t_vo_addDirection hHT24 24 _ 3 rfl ⟨by omega, by omega⟩ (by first | assumption | exact LEX_none he7) _) ?_
      rintro _ T25 ⟨hHT25, w126, rfl, w123, w124⟩
      have hFT25 : FR md_vo_startAgain S T25 := FR.tr hFT24 w126 rfl
      show Rl _ _ _ _ _ [] _ _
      have q194 : ∀ j, Xi T25 5 j = Xi T24 5 j := fun j => ((by assumption : FR md_vo_addDirection T24 T25).cx 5 rfl j).1
      have k194_0 : Xi T25 5 0 = 5 := (q194 0).trans k187_0
      have k194_1 : Xi T25 5 1 = 2 := (q194 1).trans k187_1
      have k194_2 : Xi T25 5 2 = 0 := (q194 2).trans k187_2
      have k194_3 : Xi T25 5 3 = 2 := (q194 3).trans k187_3
      have k194_4 : Xi T25 5 4 = 0 := (q194 4).trans k187_4
      have k194_5 : Xi T25 5 5 = 1 := (q194 5).trans k187_5
      have k194_6 : Xi T25 5 6 = 0 := (q194 6).trans k187_6
      have k194_7 : Xi T25 5 7 = 0 := (q194 7).trans k187_7
      have k194_8 : Xi T25 5 8 = 5 := (q194 8).trans k187_8
      have qa194 : ∀ j, Xi T25 19 j = Xi T24 19 j := fun j => ((by assumption : FR md_vo_addDirection T24 T25).cx 19 rfl j).1
      have a194_0 : Xi T25 19 0 = -1 := (qa194 0).trans a187_0
      have a194_1 : Xi T25 19 1 = 0 := (qa194 1).trans a187_1
      have a194_2 : Xi T25 19 2 = 0 := (qa194 2).trans a187_2
      have a194_3 : Xi T25 19 3 = 0 := (qa194 3).trans a187_3
      have a194_4 : Xi T25 19 4 = -2 := (qa194 4).trans a187_4
      have qc194 : ∀ j, Xi T25 11 j = Xi T24 11 j := fun j => ((by assumption : FR md_vo_addDirection T24 T25).cx 11 rfl j).1
      have c194 : Xi T25 11 0 = 1 ∧ Xi T25 11 1 = 0 := ⟨(qc194 0).trans c187.1, (qc194 1).trans c187.2⟩
      have l194 : LEX T25 := by assumption
      refine l_aload_n rfl rfl ?_
      refine l_ldcR (i := 25) rfl rfl ?_
      refine l_iconst rfl ?_
      refine l_callV rfl rfl rfl (t_vo_addDirection hHT25 25 _ 4 rfl ⟨by omega, by omega⟩ (by first | assumption | exact LEX_none he7) _) ?_
      rintro _ T26 ⟨hHT26, w130, rfl, w127, w128⟩
      have hFT26 : FR md_vo_startAgain S T26 := FR.tr hFT25 w130 rfl
      show Rl _ _ _ _ _ [] _ _
      have q201 : ∀ j, Xi T26 5 j = Xi T25 5 j := fun j => ((by assumption : FR md_vo_addDirection T25 T26).cx 5 rfl j).1
      have k201_0 : Xi T26 5 0 = 5 := (q201 0).trans k194_0
      have k201_1 : Xi T26 5 1 = 2 := (q201 1).trans k194_1
      have k201_2 : Xi T26 5 2 = 0 := (q201 2).trans k194_2
      have k201_3 : Xi T26 5 3 = 2 := (q201 3).trans k194_3
      have k201_4 : Xi T26 5 4 = 0 := (q201 4).trans k194_4
      have k201_5 : Xi T26 5 5 = 1 := (q201 5).trans k194_5
      have k201_6 : Xi T26 5 6 = 0 := (q201 6).trans k194_6
      have k201_7 : Xi T26 5 7 = 0 := (q201 7).trans k194_7
      have k201_8 : Xi T26 5 8 = 5 := (q201 8).trans k194_8
      have qa201 : ∀ j, Xi T26 19 j = Xi T25 19 j := fun j => ((by assumption : FR md_vo_addDirection T25 T26).cx 19 rfl j).1
      have a201_0 : Xi T26 19 0 = -1 := (qa201 0).trans a194_0
      have a201_1 : Xi T26 19 1 = 0 := (qa201 1).trans a194_1
      have a201_2 : Xi T26 19 2 = 0 := (qa201 2).trans a194_2
      have a201_3 : Xi T26 19 3 = 0 := (qa201 3).trans a194_3
      have a201_4 : Xi T26 19 4 = -2 := (qa201 4).trans a194_4
      have qc201 : ∀ j, Xi T26 11 j = Xi T25 11 j := fun j => ((by assumption : FR md_vo_addDirection T25 T26).cx 11 rfl j).1
      have c201 : Xi T26 11 0 = 1 ∧ Xi T26 11 1 = 0 := ⟨(qc201 0).trans c194.1, (qc201 1).trans c194.2⟩
      have l201 : LEX T26 := by assumption
      refine l_aload_n rfl rfl ?_
      refine l_ldcR (i := 26) rfl rfl ?_
      refine l_iconst rfl ?_
      refine l_callV rfl rfl rfl (t_vo_addDirection hHT26 26 _ 5 rfl ⟨by omega, by omega⟩ (by first | assumption | exact LEX_none he7) _) ?_
      rintro _ T27 ⟨hHT27, w134, rfl, w131, w132⟩
      have hFT27 : FR md_vo_startAgain S T27 := FR.tr hFT26 w134 rfl
      show Rl _ _ _ _ _ [] _ _
      have q208 : ∀ j, Xi T27 5 j = Xi T26 5 j := fun j => ((by assumption : FR md_vo_addDirection T26 T27).cx 5 rfl j).1
      have k208_0 : Xi T27 5 0 = 5 := (q208 0).trans k201_0
      have k208_1 : Xi T27 5 1 = 2 := (q208 1).trans k201_1
      have k208_2 : Xi T27 5 2 = 0 := (q208 2).trans k201_2
      have k208_3 : Xi T27 5 3 = 2 := (q208 3).trans k201_3
      have k208_4 : Xi T27 5 4 = 0 := (q208 4).trans k201_4
      have k208_5 : Xi T27 5 5 = 1 := (q208 5).trans k201_5
      have k208_6 : Xi T27 5 6 = 0 := (q208 6).trans k201_6
      have k208_7 : Xi T27 5 7 = 0 := (q208 7).trans k201_7
      have k208_8 : Xi T27 5 8 = 5 := (q208 8).trans k201_8
      have qa208 : ∀ j, Xi T27 19 j = Xi T26 19 j := fun j => ((by assumption : FR md_vo_addDirection T26 T27).cx 19 rfl j).1
      have a208_0 : Xi T27 19 0 = -1 := (qa208 0).trans a201_0
      have a208_1 : Xi T27 19 1 = 0 := (qa208 1).trans a201_1
      have a208_2 : Xi T27 19 2 = 0 := (qa208 2).trans a201_2
      have a208_3 : Xi T27 19 3 = 0 := (qa208 3).trans a201_3
      have a208_4 : Xi T27 19 4 = -2 := (qa208 4).trans a201_4
      have qc208 : ∀ j, Xi T27 11 j = Xi T26 11 j := fun j => ((by assumption : FR md_vo_addDirection T26 T27).cx 11 rfl j).1
      have c208 : Xi T27 11 0 = 1 ∧ Xi T27 11 1 = 0 := ⟨(qc208 0).trans c201.1, (qc208 1).trans c201.2⟩
      have l208 : LEX T27 := by assumption
      refine l_return rfl rfl ?_
      have w135 : Xi T27 11 0 = Xi T11 11 0 := (show Xi T27 11 0 = Xi T26 11 0 from w134.x _ _ rfl).trans ( (show Xi T26 11 0 = Xi T25 11 0 from w130.x _ _ rfl).trans ( (show Xi T25 11 0 = Xi T24 11 0 from w126.x _ _ rfl).trans ( (show Xi T24 11 0 = Xi T23 11 0 from w122.x _ _ rfl).trans ( (show Xi T23 11 0 = Xi T22 11 0 from w118.x _ _ rfl).trans ( (show Xi T22 11 0 = Xi U21 11 0 from w114.x _ _ rfl).trans ( (show Xi U21 11 0 = Xi T20 11 0 from by rw [eU21]; exact Xi_ne (by omega)).trans ( (show Xi T20 11 0 = Xi U19 11 0 from w109.x _ _ rfl).trans ( (show Xi U19 11 0 = Xi T18 11 0 from by rw [eU19]; exact Xi_ne (by omega)).trans ( (show Xi T18 11 0 = Xi U17 11 0 from w99.x _ _ rfl).trans ( (show Xi U17 11 0 = Xi T16 11 0 from by rw [eU17]; exact Xi_ne (by omega)).trans ( (show Xi T16 11 0 = Xi U15 11 0 from w89.x _ _ rfl).trans ( (show Xi U15 11 0 = Xi T14 11 0 from by rw [eU15]; exact Xi_ne (by omega)).trans ( (show Xi T14 11 0 = Xi U13 11 0 from w79.x _ _ rfl).trans ( (show Xi U13 11 0 = Xi T12 11 0 from by rw [eU13]; exact Xi_ne (by omega)).trans ((show Xi T12 11 0 = Xi T11 11 0 from w69.x _ _ rfl))))))))))))))))
      have w136 : -1 ≤ Xi T11 11 0 ∧ Xi T11 11 0 ≤ 23 := hHT11.c _ _
      have w137 : Xi T27 11 1 = Xi T11 11 1 := (show Xi T27 11 1 = Xi T26 11 1 from w134.x _ _ rfl).trans ( (show Xi T26 11 1 = Xi T25 11 1 from w130.x _ _ rfl).trans ( (show Xi T25 11 1 = Xi T24 11 1 from w126.x _ _ rfl).trans ( (show Xi T24 11 1 = Xi T23 11 1 from w122.x _ _ rfl).trans ( (show Xi T23 11 1 = Xi T22 11 1 from w118.x _ _ rfl).trans ( (show Xi T22 11 1 = Xi U21 11 1 from w114.x _ _ rfl).trans ( (show Xi U21 11 1 = Xi T20 11 1 from by rw [eU21]; exact Xi_ne (by omega)).trans ( (show Xi T20 11 1 = Xi U19 11 1 from w109.x _ _ rfl).trans ( (show Xi U19 11 1 = Xi T18 11 1 from by rw [eU19]; exact Xi_ne (by omega)).trans ( (show Xi T18 11 1 = Xi U17 11 1 from w99.x _ _ rfl).trans ( (show Xi U17 11 1 = Xi T16 11 1 from by rw [eU17]; exact Xi_ne (by omega)).trans ( (show Xi T16 11 1 = Xi U15 11 1 from w89.x _ _ rfl).trans ( (show Xi U15 11 1 = Xi T14 11 1 from by rw [eU15]; exact Xi_ne (by omega)).trans ( (show Xi T14 11 1 = Xi U13 11 1 from w79.x _ _ rfl).trans ( (show Xi U13 11 1 = Xi T12 11 1 from by rw [eU13]; exact Xi_ne (by omega)).trans ((show Xi T12 11 1 = Xi T11 11 1 from w69.x _ _ rfl))))))))))))))))
      have w138 : -1 ≤ Xi T11 11 1 ∧ Xi T11 11 1 ≤ 23 := hHT11.c _ _
      have w139 : Xi T27 19 0 = Xi U21 19 0 := (show Xi T27 19 0 = Xi T26 19 0 from w134.x _ _ rfl).trans ( (show Xi T26 19 0 = Xi T25 19 0 from w130.x _ _ rfl).trans ( (show Xi T25 19 0 = Xi T24 19 0 from w126.x _ _ rfl).trans ( (show Xi T24 19 0 = Xi T23 19 0 from w122.x _ _ rfl).trans ( (show Xi T23 19 0 = Xi T22 19 0 from w118.x _ _ rfl).trans ((show Xi T22 19 0 = Xi U21 19 0 from w114.x _ _ rfl))))))
      have w140 : -2 ≤ Xi U21 19 0 ∧ Xi U21 19 0 ≤ 15 := hHU21.c _ _
      have w141 : Xi T27 19 1 = Xi U21 19 1 := (show Xi T27 19 1 = Xi T26 19 1 from w134.x _ _ rfl).trans ( (show Xi T26 19 1 = Xi T25 19 1 from w130.x _ _ rfl).trans ( (show Xi T25 19 1 = Xi T24 19 1 from w126.x _ _ rfl).trans ( (show Xi T24 19 1 = Xi T23 19 1 from w122.x _ _ rfl).trans ( (show Xi T23 19 1 = Xi T22 19 1 from w118.x _ _ rfl).trans ((show Xi T22 19 1 = Xi U21 19 1 from w114.x _ _ rfl))))))
      have w142 : -2 ≤ Xi U21 19 1 ∧ Xi U21 19 1 ≤ 15 := hHU21.c _ _
      have w143 : Xi T27 19 2 = Xi U21 19 2 := (show Xi T27 19 2 = Xi T26 19 2 from w134.x _ _ rfl).trans ( (show Xi T26 19 2 = Xi T25 19 2 from w130.x _ _ rfl).trans ( (show Xi T25 19 2 = Xi T24 19 2 from w126.x _ _ rfl).trans ( (show Xi T24 19 2 = Xi T23 19 2 from w122.x _ _ rfl).trans ( (show Xi T23 19 2 = Xi T22 19 2 from w118.x _ _ rfl).trans ((show Xi T22 19 2 = Xi U21 19 2 from w114.x _ _ rfl))))))
      have w144 : -2 ≤ Xi U21 19 2 ∧ Xi U21 19 2 ≤ 15 := hHU21.c _ _
      have w145 : Xi T27 19 3 = Xi U21 19 3 := (show Xi T27 19 3 = Xi T26 19 3 from w134.x _ _ rfl).trans ( (show Xi T26 19 3 = Xi T25 19 3 from w130.x _ _ rfl).trans ( (show Xi T25 19 3 = Xi T24 19 3 from w126.x _ _ rfl).trans ( (show Xi T24 19 3 = Xi T23 19 3 from w122.x _ _ rfl).trans ( (show Xi T23 19 3 = Xi T22 19 3 from w118.x _ _ rfl).trans ((show Xi T22 19 3 = Xi U21 19 3 from w114.x _ _ rfl))))))
      have w146 : -2 ≤ Xi U21 19 3 ∧ Xi U21 19 3 ≤ 15 := hHU21.c _ _
      have w147 : Xi T27 19 4 = Xi U21 19 4 := (show Xi T27 19 4 = Xi T26 19 4 from w134.x _ _ rfl).trans ( (show Xi T26 19 4 = Xi T25 19 4 from w130.x _ _ rfl).trans ( (show Xi T25 19 4 = Xi T24 19 4 from w126.x _ _ rfl).trans ( (show Xi T24 19 4 = Xi T23 19 4 from w122.x _ _ rfl).trans ( (show Xi T23 19 4 = Xi T22 19 4 from w118.x _ _ rfl).trans ((show Xi T22 19 4 = Xi U21 19 4 from w114.x _ _ rfl))))))
      have w148 : -2 ≤ Xi U21 19 4 ∧ Xi U21 19 4 ≤ 15 := hHU21.c _ _
      have w149 : Xi T27 5 0 = Xi T20 5 0 := (show Xi T27 5 0 = Xi T26 5 0 from w134.x _ _ rfl).trans ( (show Xi T26 5 0 = Xi T25 5 0 from w130.x _ _ rfl).trans ( (show Xi T25 5 0 = Xi T24 5 0 from w126.x _ _ rfl).trans ( (show Xi T24 5 0 = Xi T23 5 0 from w122.x _ _ rfl).trans ( (show Xi T23 5 0 = Xi T22 5 0 from w118.x _ _ rfl).trans ( (show Xi T22 5 0 = Xi U21 5 0 from w114.x _ _ rfl).trans ((show Xi U21 5 0 = Xi T20 5 0 from by rw [eU21]; exact Xi_ne (by omega))))))))
      have w150 : 0 ≤ Xi T20 5 0 ∧ Xi T20 5 0 ≤ 16 := hHT20.c _ _
      have w151 : Xi T27 5 1 = Xi T20 5 1 := (show Xi T27 5 1 = Xi T26 5 1 from w134.x _ _ rfl).trans ( (show Xi T26 5 1 = Xi T25 5 1 from w130.x _ _ rfl).trans ( (show Xi T25 5 1 = Xi T24 5 1 from w126.x _ _ rfl).trans ( (show Xi T24 5 1 = Xi T23 5 1 from w122.x _ _ rfl).trans ( (show Xi T23 5 1 = Xi T22 5 1 from w118.x _ _ rfl).trans ( (show Xi T22 5 1 = Xi U21 5 1 from w114.x _ _ rfl).trans ((show Xi U21 5 1 = Xi T20 5 1 from by rw [eU21]; exact Xi_ne (by omega))))))))
      have w152 : 0 ≤ Xi T20 5 1 ∧ Xi T20 5 1 ≤ 8 := hHT20.c _ _
      have w153 : Xi T27 5 2 = Xi T20 5 2 := (show Xi T27 5 2 = Xi T26 5 2 from w134.x _ _ rfl).trans ( (show Xi T26 5 2 = Xi T25 5 2 from w130.x _ _ rfl).trans ( (show Xi T25 5 2 = Xi T24 5 2 from w126.x _ _ rfl).trans ( (show Xi T24 5 2 = Xi T23 5 2 from w122.x _ _ rfl).trans ( (show Xi T23 5 2 = Xi T22 5 2 from w118.x _ _ rfl).trans ( (show Xi T22 5 2 = Xi U21 5 2 from w114.x _ _ rfl).trans ((show Xi U21 5 2 = Xi T20 5 2 from by rw [eU21]; exact Xi_ne (by omega))))))))
      have w154 : 0 ≤ Xi T20 5 2 ∧ Xi T20 5 2 ≤ 24 := hHT20.c _ _
      have w155 : Xi T27 5 3 = Xi T20 5 3 := (show Xi T27 5 3 = Xi T26 5 3 from w134.x _ _ rfl).trans ( (show Xi T26 5 3 = Xi T25 5 3 from w130.x _ _ rfl).trans ( (show Xi T25 5 3 = Xi T24 5 3 from w126.x _ _ rfl).trans ( (show Xi T24 5 3 = Xi T23 5 3 from w122.x _ _ rfl).trans ( (show Xi T23 5 3 = Xi T22 5 3 from w118.x _ _ rfl).trans ( (show Xi T22 5 3 = Xi U21 5 3 from w114.x _ _ rfl).trans ((show Xi U21 5 3 = Xi T20 5 3 from by rw [eU21]; exact Xi_ne (by omega))))))))
      have w156 : 0 ≤ Xi T20 5 3 ∧ Xi T20 5 3 ≤ 24 := hHT20.c _ _
      have w157 : Xi T27 5 4 = Xi T20 5 4 := (show Xi T27 5 4 = Xi T26 5 4 from w134.x _ _ rfl).trans ( (show Xi T26 5 4 = Xi T25 5 4 from w130.x _ _ rfl).trans ( (show Xi T25 5 4 = Xi T24 5 4 from w126.x _ _ rfl).trans ( (show Xi T24 5 4 = Xi T23 5 4 from w122.x _ _ rfl).trans ( (show Xi T23 5 4 = Xi T22 5 4 from w118.x _ _ rfl).trans ( (show Xi T22 5 4 = Xi U21 5 4 from w114.x _ _ rfl).trans ((show Xi U21 5 4 = Xi T20 5 4 from by rw [eU21]; exact Xi_ne (by omega))))))))
      have w158 : 0 ≤ Xi T20 5 4 ∧ Xi T20 5 4 ≤ 64 := hHT20.c _ _
      have w159 : Xi T27 5 5 = Xi T20 5 5 := (show Xi T27 5 5 = Xi T26 5 5 from w134.x _ _ rfl).trans ( (show Xi T26 5 5 = Xi T25 5 5 from w130.x _ _ rfl).trans ( (show Xi T25 5 5 = Xi T24 5 5 from w126.x _ _ rfl).trans ( (show Xi T24 5 5 = Xi T23 5 5 from w122.x _ _ rfl).trans ( (show Xi T23 5 5 = Xi T22 5 5 from w118.x _ _ rfl).trans ( (show Xi T22 5 5 = Xi U21 5 5 from w114.x _ _ rfl).trans ((show Xi U21 5 5 = Xi T20 5 5 from by rw [eU21]; exact Xi_ne (by omega))))))))
      have w160 : 0 ≤ Xi T20 5 5 ∧ Xi T20 5 5 ≤ 12 := hHT20.c _ _
      have w161 : Xi T27 5 6 = Xi T20 5 6 := (show Xi T27 5 6 = Xi T26 5 6 from w134.x _ _ rfl).trans ( (show Xi T26 5 6 = Xi T25 5 6 from w130.x _ _ rfl).trans ( (show Xi T25 5 6 = Xi T24 5 6 from w126.x _ _ rfl).trans ( (show Xi T24 5 6 = Xi T23 5 6 from w122.x _ _ rfl).trans ( (show Xi T23 5 6 = Xi T22 5 6 from w118.x _ _ rfl).trans ( (show Xi T22 5 6 = Xi U21 5 6 from w114.x _ _ rfl).trans ((show Xi U21 5 6 = Xi T20 5 6 from by rw [eU21]; exact Xi_ne (by omega))))))))
      have w162 : 0 ≤ Xi T20 5 6 ∧ Xi T20 5 6 ≤ 6 := hHT20.c _ _
      have w163 : Xi T27 5 7 = Xi T20 5 7 := (show Xi T27 5 7 = Xi T26 5 7 from w134.x _ _ rfl).trans ( (show Xi T26 5 7 = Xi T25 5 7 from w130.x _ _ rfl).trans ( (show Xi T25 5 7 = Xi T24 5 7 from w126.x _ _ rfl).trans ( (show Xi T24 5 7 = Xi T23 5 7 from w122.x _ _ rfl).trans ( (show Xi T23 5 7 = Xi T22 5 7 from w118.x _ _ rfl).trans ( (show Xi T22 5 7 = Xi U21 5 7 from w114.x _ _ rfl).trans ((show Xi U21 5 7 = Xi T20 5 7 from by rw [eU21]; exact Xi_ne (by omega))))))))
      have w164 : 0 ≤ Xi T20 5 7 ∧ Xi T20 5 7 ≤ 8 := hHT20.c _ _
      have w165 : Xi T27 5 8 = Xi T20 5 8 := (show Xi T27 5 8 = Xi T26 5 8 from w134.x _ _ rfl).trans ( (show Xi T26 5 8 = Xi T25 5 8 from w130.x _ _ rfl).trans ( (show Xi T25 5 8 = Xi T24 5 8 from w126.x _ _ rfl).trans ( (show Xi T24 5 8 = Xi T23 5 8 from w122.x _ _ rfl).trans ( (show Xi T23 5 8 = Xi T22 5 8 from w118.x _ _ rfl).trans ( (show Xi T22 5 8 = Xi U21 5 8 from w114.x _ _ rfl).trans ((show Xi U21 5 8 = Xi T20 5 8 from by rw [eU21]; exact Xi_ne (by omega))))))))
      have w166 : 0 ≤ Xi T20 5 8 ∧ Xi T20 5 8 ≤ 12 := hHT20.c _ _
      exact ⟨hHT27, hFT27, rfl, (l208), (⟨k208_0, k208_1, k208_2, k208_3, k208_4, k208_5, k208_6, k208_7, k208_8⟩), (⟨a208_0, a208_1, a208_2, a208_3, a208_4⟩), (c208)⟩
    · refine l_aload_n rfl rfl ?_
      refine l_gfr rfl rfl rfl rfl rfl (hHT1.r 1 4 5 rfl) ?_
      refine l_iload_n rfl rfl ?_
      refine l_iconst rfl ?_
      refine l_iastore (n := 9) rfl rfl (by omega) (by omega) (by unfold rg; omega) ?_
      obtain ⟨U28, eU28⟩ : ∃ T : sS, T = uI T1 5 ((v1).toNat) (Int32.ofInt 0) := ⟨_, rfl⟩
      rw [← eU28]
      have hHU28 : HI U28 := by rw [eU28]; exact HI_w hHT1 lh5 lh5u
      have hFU28 : FR md_vo_startAgain S U28 := by rw [eU28]; exact FR.wI hFT1 (mdf_i (r := (5, 6, 0, 100000)) (List.mem_of_getElem? (i := 4) rfl) (inR_i (by omega) (by omega) (by omega) (by omega)))
      have w167 : Xi U28 5 ((v1).toNat) = 0 := by rw [eU28]; exact Xi_same (by unfold rg; omega)
      have hz22 := cz_s eU28 (by omega) hz7
      have e22 : Xi U28 1 3 = 0 := by rw [eU28, Xi_ne (by omega)]; exact he7
      refine l_iinc rfl rfl rfl rfl ?_
      refine l_goto rfl rfl ?_
      have w168 : Xi U28 1 3 = Xi T1 1 3 := (show Xi U28 1 3 = Xi T1 1 3 from by rw [eU28]; exact Xi_ne (by omega))
      exact Rl_weak (ih7 _ (by omega) U28 hHU28 hFU28 ((v1 + 1)) (by omega) (by omega) (by first | exact e22 | exact e2) (by first | exact hz22 | exact fun j hj => by omega) rfl) (And.intro rfl (And.intro rfl (True.intro)))
set_option maxRecDepth 100000 in
theorem t_vo_startAgain {S : sS} (hH : HI S) (d : Nat) : Mt lay0 (d + 8) m_vo_startAgain [.ref 1] S (Q_vo_startAgain S) := by
  refine Mt_R rfl rfl ?_
  have C7 := c7_vo_startAgain hH  d 
  have hF : FR md_vo_startAgain S S := FR.rf
  have w1 : 0 ≤ Xi S 1 3 ∧ Xi S 1 3 ≤ 200 := hH.c _ _
  refine l_aload_n rfl rfl ?_
  refine l_iconst rfl ?_
  refine l_pfi rfl rfl rfl rfl ?_
  obtain ⟨U29, eU29⟩ : ∃ T : sS, T = uI S 1 3 (Int32.ofInt 0) := ⟨_, rfl⟩
  rw [← eU29]
  have hHU29 : HI U29 := by rw [eU29]; exact HI_w hH (show 0 ≤ 0 by omega) (show 0 ≤ 200 by omega)
  have hFU29 : FR md_vo_startAgain S U29 := by rw [eU29]; exact FR.wI hF (mdf_i (r := (1, 2, 3, 4)) (List.mem_of_getElem? (i := 0) rfl) (inR_i (by omega) (by omega) (by omega) (by omega)))
  have w170 : Xi U29 1 3 = 0 := by rw [eU29]; exact Xi_same (by unfold rg; omega)
  have e2 : Xi U29 1 3 = 0 := by rw [eU29]; exact Xi_same (by unfold rg; omega)
  refine l_iconst rfl ?_
  refine l_istore_n rfl rfl rfl ?_
  have w171 : 0 ≤ Xi U29 1 3 ∧ Xi U29 1 3 ≤ 200 := hHU29.c _ _
  exact Rl_weak (C7 _ U29 hHU29 hFU29 (0) (by omega) (by omega) (by first | exact e22 | exact e2) (by first | exact hz22 | exact fun j hj => by omega) rfl) (And.intro rfl (And.intro rfl (True.intro)))
