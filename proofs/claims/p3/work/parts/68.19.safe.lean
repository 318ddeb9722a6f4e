/-! SAFETY of methods: printed by wip/safe (vc.py, decl.py) -/
def md_re_doAdjective : List rec := [(25, 65, 0, 100000), (66, 106, 0, 100000), (107, 147, 0, 100000), (148, 188, 0, 100000), (876, 877, 8, 9), (876, 877, 9, 10), (891, 892, 10, 11), (895, 896, 8, 9), (895, 896, 9, 10)]
abbrev Q_re_doAdjective (S : sS) (at_ : Int) (to : Int) (nt : Int) : pst := fun r S1 => HI S1 ∧ FR md_re_doAdjective S S1 ∧ (∃ z : Int, r = some (iv z) ∧ (0 ≤ z ∧ z ≤ 1) ∧ (TX S1) ∧ (z = 0 → Xi S1 876 8 ≠ 0))
set_option maxRecDepth 100000 in
theorem t_re_doAdjective {S : sS} (hH : HI S) (at_ : Int) (to : Int) (nt : Int) (hat_ : 0 ≤ at_ ∧ at_ ≤ 5140) (hto : 0 ≤ to ∧ to ≤ 5140) (hnt : 0 ≤ nt ∧ nt ≤ 1) (hL : LEX S) (hX : TX S) (hs : ASU S at_ to nt (Xi S 890 3)) (d : Nat) : Mt lay0 (d + 4) m_re_doAdjective [.ref 891, iv at_, iv to, iv nt] S (Q_re_doAdjective S at_ to nt) := by
  refine Mt_R rfl rfl ?_
  have hF : FR md_re_doAdjective S S := FR.rf
  have w1 : -1 ≤ Xi S 890 3 ∧ Xi S 890 3 ≤ 5124 := hH.c _ _
  have C6 : ∀ (n6 : Nat) (T1 : sS) (_ : HI T1) (_ : FR md_re_doAdjective S T1) (v4 : Int) (v5 : Int), (-1 ≤ v4 ∧ v4 ≤ 23) → (0 ≤ v5 ∧ v5 ≤ 5124) → (TX T1) → n6 = (5125 - v5).toNat → Rl lay0 (d + 3) m_re_doAdjective 6 [(0, .ref 891), (1, iv at_), (2, iv to), (3, iv nt), (4, iv v4), (5, iv v5)] [] T1 (Q_re_doAdjective S at_ to nt) := by
    intro n6
    induction n6 using Nat.strongRecOn with
    | ind n6 ih6 =>
      intro T1 hHT1 hFT1 v4 v5 w2 w3 hX6 hm6
      have w4 : Xi T1 5 3 = Xi S 5 3 := hFT1.x _ _ rfl
      have w5 : Xi T1 876 7 = Xi S 876 7 := hFT1.x _ _ rfl
      have w6 : Xi T1 890 3 = Xi S 890 3 := hFT1.x _ _ rfl
      refine l_iload rfl rfl ?_
      refine l_aload_n rfl rfl ?_
      refine l_gfr rfl rfl rfl rfl rfl (hHT1.r 891 1 890 rfl) ?_
      refine l_gfi rfl rfl rfl rfl rfl ?_
      refine l_icmp_ge rfl rfl (by unfold rg; omega) (by unfold rg; omega) (fun w7 => ?_) (fun w8 => ?_)
      · refine l_aload_n rfl rfl ?_
        refine l_iload rfl rfl ?_
        refine l_pfi rfl rfl rfl rfl ?_
        obtain ⟨U2, eU2⟩ : ∃ T : sS, T = uI T1 891 10 (Int32.ofInt v4) := ⟨_, rfl⟩
        rw [← eU2]
        have hHU2 : HI U2 := by rw [eU2]; exact HI_w hHT1 (show -1 ≤ v4 by omega) (show v4 ≤ 23 by omega)
        have hFU2 : FR md_re_doAdjective S U2 := by rw [eU2]; exact FR.wI hFT1 (mdf_i (r := (891, 892, 10, 11)) (List.mem_of_getElem? (i := 6) rfl) (inR_i (by omega) (by omega) (by omega) (by omega)))
        have w9 : Xi U2 891 10 = v4 := by rw [eU2]; exact Xi_same (by unfold rg; omega)
        refine l_iconst rfl ?_
        refine l_ireturn rfl rfl ?_
        have w10 : Xi U2 876 8 = Xi T1 876 8 := (show Xi U2 876 8 = Xi T1 876 8 from by rw [eU2]; exact Xi_ne (by omega))
        have w11 : 0 ≤ Xi T1 876 8 ∧ Xi T1 876 8 ≤ 9 := hHT1.c _ _
        exact ⟨hHU2, hFU2, _, rfl, ⟨by omega, by omega⟩, (by first | assumption | exact (TX_FR (FR_e eU2) rfl (by assumption : TX T1))), (by first | assumption | omega)⟩
      · refine l_aload_n rfl rfl ?_
        refine l_iload rfl rfl ?_
        have w12 : 0 ≤ Xi T1 876 7 ∧ Xi T1 876 7 ≤ 5125 := hHT1.c _ _
        have w13 : -1 ≤ Xi T1 890 3 ∧ Xi T1 890 3 ≤ 5124 := hHT1.c _ _
        refine l_callV rfl rfl rfl (t_re_beginsName hHT1 v5 ⟨by omega, by omega⟩ _) ?_
        rintro _ _ ⟨rfl, z16, rfl, w16, w14, w15⟩
        show Rl _ _ _ _ _ [iv z16] _ _
        have hbg : z16 = bgn S v5 := (by assumption : z16 = bgn T1 v5).trans (bgn_FR hFT1 rfl rfl)
        refine l_if_eq rfl rfl (by unfold rg; omega) (fun w17 => ?_) (fun w18 => ?_)
        · refine l_iconst rfl ?_
          refine l_istore rfl rfl rfl ?_
          refine l_iload rfl rfl ?_
          refine l_iconst rfl ?_
          refine l_icmp_ne rfl rfl (by unfold rg; omega) (by unfold rg; omega) (fun w19 => absurd w19 (by omega)) (fun w20 => ?_)
          · refine l_goto rfl rfl ?_
            refine l_iinc rfl rfl rfl rfl ?_
            refine l_goto rfl rfl ?_
            exact Rl_weak (ih6 _ (by omega) T1 hHT1 hFT1 (v4) ((v5 + 1)) (by omega) (by omega) (by first | assumption | exact (by assumption : TX T1)) rfl) (And.intro rfl (And.intro rfl (And.intro rfl (And.intro rfl (And.intro rfl (And.intro rfl (True.intro)))))))
        · refine l_aload_n rfl rfl ?_
          refine l_gfr rfl rfl rfl rfl rfl (hHT1.r 891 4 895 rfl) ?_
          refine l_iconst rfl ?_
          refine l_iload rfl rfl ?_
          refine l_aload_n rfl rfl ?_
          refine l_gfr rfl rfl rfl rfl rfl (hHT1.r 891 0 876 rfl) ?_
          refine l_iload rfl rfl ?_
          have w21 : 0 ≤ Xi T1 876 7 ∧ Xi T1 876 7 ≤ 5125 := hHT1.c _ _
          refine l_callV rfl rfl rfl (t_to_runEnd hHT1 v5 ⟨by omega, by omega⟩ _) ?_
          rintro _ _ ⟨rfl, z29, rfl, w29, w22, w23, w24, w25, w26, w27, w28⟩
          clear w24 w25 w26 w27
          show Rl _ _ _ _ _ [iv z29, iv v5, iv 2, .ref 895] _ _
          refine l_callV rfl rfl rfl (t_me_find hHT1 2 v5 z29 ⟨by omega, by omega⟩ ⟨by omega, by omega⟩ ⟨by omega, by omega⟩ (by first | assumption | exact (LEX_FR hFT1 rfl rfl (by assumption : LEX S))) _) ?_
          rintro _ _ ⟨rfl, z33, rfl, w33, w30, w31, w32⟩
          have w34 : z33 ≠ -1 → _ := fun h => fb2 hHT1 (w30 h)
          clear w31
          show Rl _ _ _ _ _ [iv z33] _ _
          have hfo : z33 = fob S v5 := (fob_of (by assumption) (by assumption)).trans (fob_FR hFT1 rfl rfl)
          refine l_goto rfl rfl ?_
          refine l_istore rfl rfl rfl ?_
          refine l_iload rfl rfl ?_
          refine l_iconst rfl ?_
          refine l_icmp_ne rfl rfl (by unfold rg; omega) (by unfold rg; omega) (fun w35 => ?_) (fun w36 => ?_)
          · refine l_iload rfl rfl ?_
            refine l_iconst rfl ?_
            refine l_icmp_ne rfl rfl (by unfold rg; omega) (by unfold rg; omega) (fun w37 => ?_) (fun w38 => ?_)
            · refine l_iload rfl rfl ?_
              refine l_istore rfl rfl rfl ?_
              refine l_aload_n rfl rfl ?_
              refine l_gfr rfl rfl rfl rfl rfl (hHT1.r 891 4 895 rfl) ?_
              refine l_aload_n rfl rfl ?_
              refine l_gfr rfl rfl rfl rfl rfl (hHT1.r 891 3 20 rfl) ?_
              refine l_gfr rfl rfl rfl rfl rfl (hHT1.r 20 2 21 rfl) ?_
              refine l_iload rfl rfl ?_
              refine l_iaload (n := 24) rfl rfl (by omega) (by omega) (by unfold rg; omega) ?_
              have w39 : 0 ≤ (Xi T1 21 ((z33).toNat)) ∧ (Xi T1 21 ((z33).toNat)) ≤ 15 := hHT1.c _ _
              have hkk : (Xi T1 21 ((z33).toNat)) = Xi S 21 (fob S v5).toNat := by rw [(hFT1.cx 21 rfl _).1]; exact congrArg (fun t : Int => Xi S 21 t.toNat) (by omega)
              refine l_iload_n rfl rfl ?_
              refine l_iload_n rfl rfl ?_
              refine l_iload_n rfl rfl ?_
              refine l_if_ne rfl rfl (by unfold rg; omega) (fun w40 => ?_) (fun w41 => ?_)
              · refine l_iconst rfl ?_
                refine l_iconst rfl ?_
                have w42 : 0 ≤ Xi T1 5 3 ∧ Xi T1 5 3 ≤ 24 := hHT1.c _ _
                refine l_callV rfl rfl rfl (t_me_readAdjective hHT1 (Xi T1 21 ((z33).toNat)) at_ to 0 0 ⟨by omega, by omega⟩ ⟨by omega, by omega⟩ ⟨by omega, by omega⟩ ⟨by omega, by omega⟩ ⟨by omega, by omega⟩ (by first | assumption | exact (LEX_FR hFT1 rfl rfl (by assumption : LEX S))) _) ?_
                rintro _ T3 ⟨hHT3, w46, z45, rfl, w45, w43, w44⟩
                have hFT3 : FR md_re_doAdjective S T3 := FR.tr hFT1 w46 rfl
                show Rl _ _ _ _ _ [iv z45] _ _
                have hrr : 1 ≤ z45 := asu_u (nt := nt) hs (by assumption) (by assumption : FR md_re_doAdjective S T1) rfl hkk (by omega) (by omega) (by omega) (by omega) (by omega)
                have h53 : 0 ≤ Xi T1 5 3 ∧ Xi T1 5 3 ≤ 24 := hHT1.c _ _
                refine l_pop rfl rfl ?_
                refine l_aload_n rfl rfl ?_
                refine l_iload rfl rfl ?_
                refine l_aload_n rfl rfl ?_
                refine l_gfr rfl rfl rfl rfl rfl (hHT3.r 891 4 895 rfl) ?_
                refine l_gfi rfl rfl rfl rfl rfl ?_
                have w47 : 0 ≤ (Xi T3 895 8) ∧ (Xi T3 895 8) ≤ 255 := hHT3.c _ _
                refine l_aload_n rfl rfl ?_
                refine l_gfr rfl rfl rfl rfl rfl (hHT3.r 891 4 895 rfl) ?_
                refine l_gfi rfl rfl rfl rfl rfl ?_
                have w48 : -1 ≤ (Xi T3 895 9) ∧ (Xi T3 895 9) ≤ 11 := hHT3.c _ _
                refine l_iload_n rfl rfl ?_
                refine l_if_ne rfl rfl (by unfold rg; omega) (fun w49 => ?_) (fun w50 => ?_)
                · refine l_iconst rfl ?_
                  refine l_callV rfl rfl rfl (t_re_tellOne hHT3 z33 (Xi T3 895 8) (Xi T3 895 9) 0 ⟨by omega, by omega⟩ ⟨by omega, by omega⟩ ⟨by omega, by omega⟩ ⟨by omega, by omega⟩ (by first | assumption | exact (TX_FR w46 rfl (by assumption : TX T1))) (by first | assumption | omega) _) ?_
                  rintro _ T4 ⟨hHT4, w53, z52, rfl, w52, w51⟩
                  have hFT4 : FR md_re_doAdjective S T4 := FR.tr hFT3 w53 rfl
                  show Rl _ _ _ _ _ [iv z52] _ _
                  refine l_if_ne rfl rfl (by unfold rg; omega) (fun w54 => ?_) (fun w55 => ?_)
                  · refine l_iinc rfl rfl rfl rfl ?_
                    refine l_goto rfl rfl ?_
                    exact Rl_weak (ih6 _ (by omega) T4 hHT4 hFT4 (v4) ((v5 + 1)) (by omega) (by omega) (by first | assumption | exact (by assumption : TX T4)) rfl) (And.intro rfl (And.intro rfl (And.intro rfl (And.intro rfl (And.intro rfl (And.intro rfl (True.intro)))))))
                  · refine l_aload_n rfl rfl ?_
                    refine l_gfr rfl rfl rfl rfl rfl (hHT4.r 891 0 876 rfl) ?_
                    refine l_iconst rfl ?_
                    refine l_iload rfl rfl ?_
                    refine l_callV rfl rfl rfl (t_to_wrong hHT4 5 v5 ⟨by omega, by omega⟩ ⟨by omega, by omega⟩ _) ?_
                    rintro _ T5 ⟨hHT5, w59, z58, rfl, w58, w56, w57⟩
                    have hFT5 : FR md_re_doAdjective S T5 := FR.tr hFT4 w59 rfl
                    show Rl _ _ _ _ _ [iv z58] _ _
                    refine l_ireturn rfl (retI_z (by omega)) ?_
                    have w60 : 0 ≤ Xi T5 876 8 ∧ Xi T5 876 8 ≤ 9 := hHT5.c _ _
                    exact ⟨hHT5, hFT5, _, rfl, ⟨by omega, by omega⟩, (by first | assumption | exact (TX_FR w59 rfl (by assumption : TX T4))), (by first | assumption | omega)⟩
                · refine l_iconst rfl ?_
                  refine l_goto rfl rfl ?_
                  refine l_callV rfl rfl rfl (t_re_tellOne hHT3 z33 (Xi T3 895 8) (Xi T3 895 9) 1 ⟨by omega, by omega⟩ ⟨by omega, by omega⟩ ⟨by omega, by omega⟩ ⟨by omega, by omega⟩ (by first | assumption | exact (TX_FR w46 rfl (by assumption : TX T1))) (by first | assumption | omega) _) ?_
                  rintro _ T6 ⟨hHT6, w63, z62, rfl, w62, w61⟩
                  have hFT6 : FR md_re_doAdjective S T6 := FR.tr hFT3 w63 rfl
                  show Rl _ _ _ _ _ [iv z62] _ _
                  refine l_if_ne rfl rfl (by unfold rg; omega) (fun w64 => ?_) (fun w65 => ?_)
                  · refine l_iinc rfl rfl rfl rfl ?_
                    refine l_goto rfl rfl ?_
                    exact Rl_weak (ih6 _ (by omega) T6 hHT6 hFT6 (v4) ((v5 + 1)) (by omega) (by omega) (by first | assumption | exact (by assumption : TX T6)) rfl) (And.intro rfl (And.intro rfl (And.intro rfl (And.intro rfl (And.intro rfl (And.intro rfl (True.intro)))))))
                  · refine l_aload_n rfl rfl ?_
                    refine l_gfr rfl rfl rfl rfl rfl (hHT6.r 891 0 876 rfl) ?_
                    refine l_iconst rfl ?_
                    refine l_iload rfl rfl ?_
                    refine l_callV rfl rfl rfl (t_to_wrong hHT6 5 v5 ⟨by omega, by omega⟩ ⟨by omega, by omega⟩ _) ?_
                    rintro _ T7 ⟨hHT7, w69, z68, rfl, w68, w66, w67⟩
                    have hFT7 : FR md_re_doAdjective S T7 := FR.tr hFT6 w69 rfl
                    show Rl _ _ _ _ _ [iv z68] _ _
                    refine l_ireturn rfl (retI_z (by omega)) ?_
                    have w70 : 0 ≤ Xi T7 876 8 ∧ Xi T7 876 8 ≤ 9 := hHT7.c _ _
                    exact ⟨hHT7, hFT7, _, rfl, ⟨by omega, by omega⟩, (by first | assumption | exact (TX_FR w69 rfl (by assumption : TX T6))), (by first | assumption | omega)⟩
              · refine l_iconst rfl ?_
                refine l_goto rfl rfl ?_
                refine l_iconst rfl ?_
                have w71 : 0 ≤ Xi T1 5 3 ∧ Xi T1 5 3 ≤ 24 := hHT1.c _ _
                refine l_callV rfl rfl rfl (t_me_readAdjective hHT1 (Xi T1 21 ((z33).toNat)) at_ to 1 0 ⟨by omega, by omega⟩ ⟨by omega, by omega⟩ ⟨by omega, by omega⟩ ⟨by omega, by omega⟩ ⟨by omega, by omega⟩ (by first | assumption | exact (LEX_FR hFT1 rfl rfl (by assumption : LEX S))) _) ?_
                rintro _ T8 ⟨hHT8, w75, z74, rfl, w74, w72, w73⟩
                have hFT8 : FR md_re_doAdjective S T8 := FR.tr hFT1 w75 rfl
                show Rl _ _ _ _ _ [iv z74] _ _
                have hrr : 1 ≤ z74 := asu_u (nt := nt) hs (by assumption) (by assumption : FR md_re_doAdjective S T1) rfl hkk (by omega) (by omega) (by omega) (by omega) (by omega)
                have h53 : 0 ≤ Xi T1 5 3 ∧ Xi T1 5 3 ≤ 24 := hHT1.c _ _
                refine l_pop rfl rfl ?_
                refine l_aload_n rfl rfl ?_
                refine l_iload rfl rfl ?_
                refine l_aload_n rfl rfl ?_
                refine l_gfr rfl rfl rfl rfl rfl (hHT8.r 891 4 895 rfl) ?_
                refine l_gfi rfl rfl rfl rfl rfl ?_
                have w76 : 0 ≤ (Xi T8 895 8) ∧ (Xi T8 895 8) ≤ 255 := hHT8.c _ _
                refine l_aload_n rfl rfl ?_
                refine l_gfr rfl rfl rfl rfl rfl (hHT8.r 891 4 895 rfl) ?_
                refine l_gfi rfl rfl rfl rfl rfl ?_
                have w77 : -1 ≤ (Xi T8 895 9) ∧ (Xi T8 895 9) ≤ 11 := hHT8.c _ _
                refine l_iload_n rfl rfl ?_
                refine l_if_ne rfl rfl (by unfold rg; omega) (fun w78 => ?_) (fun w79 => ?_)
                · refine l_iconst rfl ?_
                  refine l_callV rfl rfl rfl (t_re_tellOne hHT8 z33 (Xi T8 895 8) (Xi T8 895 9) 0 ⟨by omega, by omega⟩ ⟨by omega, by omega⟩ ⟨by omega, by omega⟩ ⟨by omega, by omega⟩ (by first | assumption | exact (TX_FR w75 rfl (by assumption : TX T1))) (by first | assumption | omega) _) ?_
                  rintro _ T9 ⟨hHT9, w82, z81, rfl, w81, w80⟩
                  have hFT9 : FR md_re_doAdjective S T9 := FR.tr hFT8 w82 rfl
                  show Rl _ _ _ _ _ [iv z81] _ _
                  refine l_if_ne rfl rfl (by unfold rg; omega) (fun w83 => ?_) (fun w84 => ?_)
                  · refine l_iinc rfl rfl rfl rfl ?_
                    refine l_goto rfl rfl ?_
                    exact Rl_weak (ih6 _ (by omega) T9 hHT9 hFT9 (v4) ((v5 + 1)) (by omega) (by omega) (by first | assumption | exact (by assumption : TX T9)) rfl) (And.intro rfl (And.intro rfl (And.intro rfl (And.intro rfl (And.intro rfl (And.intro rfl (True.intro)))))))
                  · refine l_aload_n rfl rfl ?_
                    refine l_gfr rfl rfl rfl rfl rfl (hHT9.r 891 0 876 rfl) ?_
                    refine l_iconst rfl ?_
                    refine l_iload rfl rfl ?_
                    refine l_callV rfl rfl rfl (t_to_wrong hHT9 5 v5 ⟨by omega, by omega⟩ ⟨by omega, by omega⟩ _) ?_
                    rintro _ T10 ⟨hHT10, w88, z87, rfl, w87, w85, w86⟩
                    have hFT10 : FR md_re_doAdjective S T10 := FR.tr hFT9 w88 rfl
                    show Rl _ _ _ _ _ [iv z87] _ _
                    refine l_ireturn rfl (retI_z (by omega)) ?_
                    have w89 : 0 ≤ Xi T10 876 8 ∧ Xi T10 876 8 ≤ 9 := hHT10.c _ _
                    exact ⟨hHT10, hFT10, _, rfl, ⟨by omega, by omega⟩, (by first | assumption | exact (TX_FR w88 rfl (by assumption : TX T9))), (by first | assumption | omega)⟩
                · refine l_iconst rfl ?_
                  refine l_goto rfl rfl ?_
                  refine l_callV rfl rfl rfl (t_re_tellOne hHT8 z33 (Xi T8 895 8) (Xi T8 895 9) 1 ⟨by omega, by omega⟩ ⟨by omega, by omega⟩ ⟨by omega, by omega⟩ ⟨by omega, by omega⟩ (by first | assumption | exact (TX_FR w75 rfl (by assumption : TX T1))) (by first | assumption | omega) _) ?_
                  rintro _ T11 ⟨hHT11, w92, z91, rfl, w91, w90⟩
                  have hFT11 : FR md_re_doAdjective S T11 := FR.tr hFT8 w92 rfl
                  show Rl _ _ _ _ _ [iv z91] _ _
                  refine l_if_ne rfl rfl (by unfold rg; omega) (fun w93 => ?_) (fun w94 => ?_)
                  · refine l_iinc rfl rfl rfl rfl ?_
                    refine l_goto rfl rfl ?_
                    exact Rl_weak (ih6 _ (by omega) T11 hHT11 hFT11 (v4) ((v5 + 1)) (by omega) (by omega) (by first | assumption | exact (by assumption : TX T11)) rfl) (And.intro rfl (And.intro rfl (And.intro rfl (And.intro rfl (And.intro rfl (And.intro rfl (True.intro)))))))
                  · refine l_aload_n rfl rfl ?_
                    refine l_gfr rfl rfl rfl rfl rfl (hHT11.r 891 0 876 rfl) ?_
                    refine l_iconst rfl ?_
                    refine l_iload rfl rfl ?_
                    refine l_callV rfl rfl rfl (t_to_wrong hHT11 5 v5 ⟨by omega, by omega⟩ ⟨by omega, by omega⟩ _) ?_
                    rintro _ T12 ⟨hHT12, w98, z97, rfl, w97, w95, w96⟩
                    have hFT12 : FR md_re_doAdjective S T12 := FR.tr hFT11 w98 rfl
                    show Rl _ _ _ _ _ [iv z97] _ _
                    refine l_ireturn rfl (retI_z (by omega)) ?_
                    have w99 : 0 ≤ Xi T12 876 8 ∧ Xi T12 876 8 ≤ 9 := hHT12.c _ _
                    exact ⟨hHT12, hFT12, _, rfl, ⟨by omega, by omega⟩, (by first | assumption | exact (TX_FR w98 rfl (by assumption : TX T11))), (by first | assumption | omega)⟩
            · refine l_iload rfl rfl ?_
              refine l_goto rfl rfl ?_
              refine l_istore rfl rfl rfl ?_
              refine l_aload_n rfl rfl ?_
              refine l_gfr rfl rfl rfl rfl rfl (hHT1.r 891 4 895 rfl) ?_
              refine l_aload_n rfl rfl ?_
              refine l_gfr rfl rfl rfl rfl rfl (hHT1.r 891 3 20 rfl) ?_
              refine l_gfr rfl rfl rfl rfl rfl (hHT1.r 20 2 21 rfl) ?_
              refine l_iload rfl rfl ?_
              refine l_iaload (n := 24) rfl rfl (by omega) (by omega) (by unfold rg; omega) ?_
              have w100 : 0 ≤ (Xi T1 21 ((z33).toNat)) ∧ (Xi T1 21 ((z33).toNat)) ≤ 15 := hHT1.c _ _
              have hkk : (Xi T1 21 ((z33).toNat)) = Xi S 21 (fob S v5).toNat := by rw [(hFT1.cx 21 rfl _).1]; exact congrArg (fun t : Int => Xi S 21 t.toNat) (by omega)
              refine l_iload_n rfl rfl ?_
              refine l_iload_n rfl rfl ?_
              refine l_iload_n rfl rfl ?_
              refine l_if_ne rfl rfl (by unfold rg; omega) (fun w101 => ?_) (fun w102 => ?_)
              · refine l_iconst rfl ?_
                refine l_iconst rfl ?_
                have w103 : 0 ≤ Xi T1 5 3 ∧ Xi T1 5 3 ≤ 24 := hHT1.c _ _
                refine l_callV rfl rfl rfl (t_me_readAdjective hHT1 (Xi T1 21 ((z33).toNat)) at_ to 0 0 ⟨by omega, by omega⟩ ⟨by omega, by omega⟩ ⟨by omega, by omega⟩ ⟨by omega, by omega⟩ ⟨by omega, by omega⟩ (by first | assumption | exact (LEX_FR hFT1 rfl rfl (by assumption : LEX S))) _) ?_
                rintro _ T13 ⟨hHT13, w107, z106, rfl, w106, w104, w105⟩
                have hFT13 : FR md_re_doAdjective S T13 := FR.tr hFT1 w107 rfl
                show Rl _ _ _ _ _ [iv z106] _ _
                have hrr : 1 ≤ z106 := asu_u (nt := nt) hs (by assumption) (by assumption : FR md_re_doAdjective S T1) rfl hkk (by omega) (by omega) (by omega) (by omega) (by omega)
                have h53 : 0 ≤ Xi T1 5 3 ∧ Xi T1 5 3 ≤ 24 := hHT1.c _ _
                refine l_pop rfl rfl ?_
                refine l_aload_n rfl rfl ?_
                refine l_iload rfl rfl ?_
                refine l_aload_n rfl rfl ?_
                refine l_gfr rfl rfl rfl rfl rfl (hHT13.r 891 4 895 rfl) ?_
                refine l_gfi rfl rfl rfl rfl rfl ?_
                have w108 : 0 ≤ (Xi T13 895 8) ∧ (Xi T13 895 8) ≤ 255 := hHT13.c _ _
                refine l_aload_n rfl rfl ?_
                refine l_gfr rfl rfl rfl rfl rfl (hHT13.r 891 4 895 rfl) ?_
                refine l_gfi rfl rfl rfl rfl rfl ?_
                have w109 : -1 ≤ (Xi T13 895 9) ∧ (Xi T13 895 9) ≤ 11 := hHT13.c _ _
                refine l_iload_n rfl rfl ?_
                refine l_if_ne rfl rfl (by unfold rg; omega) (fun w110 => ?_) (fun w111 => ?_)
                · refine l_iconst rfl ?_
                  refine l_callV rfl rfl rfl (t_re_tellOne hHT13 z33 (Xi T13 895 8) (Xi T13 895 9) 0 ⟨by omega, by omega⟩ ⟨by omega, by omega⟩ ⟨by omega, by omega⟩ ⟨by omega, by omega⟩ (by first | assumption | exact (TX_FR w107 rfl (by assumption : TX T1))) (by first | assumption | omega) _) ?_
                  rintro _ T14 ⟨hHT14, w114, z113, rfl, w113, w112⟩
                  have hFT14 : FR md_re_doAdjective S T14 := FR.tr hFT13 w114 rfl
                  show Rl _ _ _ _ _ [iv z113] _ _
                  refine l_if_ne rfl rfl (by unfold rg; omega) (fun w115 => ?_) (fun w116 => ?_)
                  · refine l_iinc rfl rfl rfl rfl ?_
                    refine l_goto rfl rfl ?_
                    exact Rl_weak (ih6 _ (by omega) T14 hHT14 hFT14 (z33) ((v5 + 1)) (by omega) (by omega) (by first | assumption | exact (by assumption : TX T14)) rfl) (And.intro rfl (And.intro rfl (And.intro rfl (And.intro rfl (And.intro rfl (And.intro rfl (True.intro)))))))
                  · refine l_aload_n rfl rfl ?_
                    refine l_gfr rfl rfl rfl rfl rfl (hHT14.r 891 0 876 rfl) ?_
                    refine l_iconst rfl ?_
                    refine l_iload rfl rfl ?_
                    refine l_callV rfl rfl rfl (t_to_wrong hHT14 5 v5 ⟨by omega, by omega⟩ ⟨by omega, by omega⟩ _) ?_
                    rintro _ T15 ⟨hHT15, w120, z119, rfl, w119, w117, w118⟩
                    have hFT15 : FR md_re_doAdjective S T15 := FR.tr hFT14 w120 rfl
                    show Rl _ _ _ _ _ [iv z119] _ _
                    refine l_ireturn rfl (retI_z (by omega)) ?_
                    have w121 : 0 ≤ Xi T15 876 8 ∧ Xi T15 876 8 ≤ 9 := hHT15.c _ _
                    exact ⟨hHT15, hFT15, _, rfl, ⟨by omega, by omega⟩, (by first | assumption | exact (TX_FR w120 rfl (by assumption : TX T14))), (by first | assumption | omega)⟩
                · refine l_iconst rfl ?_
                  refine l_goto rfl rfl ?_
                  refine l_callV rfl rfl rfl (t_re_tellOne hHT13 z33 (Xi T13 895 8) (Xi T13 895 9) 1 ⟨by omega, by omega⟩ ⟨by omega, by omega⟩ ⟨by omega, by omega⟩ ⟨by omega, by omega⟩ (by first | assumption | exact (TX_FR w107 rfl (by assumption : TX T1))) (by first | assumption | omega) _) ?_
                  rintro _ T16 ⟨hHT16, w124, z123, rfl, w123, w122⟩
                  have hFT16 : FR md_re_doAdjective S T16 := FR.tr hFT13 w124 rfl
                  show Rl _ _ _ _ _ [iv z123] _ _
                  refine l_if_ne rfl rfl (by unfold rg; omega) (fun w125 => ?_) (fun w126 => ?_)
                  · refine l_iinc rfl rfl rfl rfl ?_
                    refine l_goto rfl rfl ?_
                    exact Rl_weak (ih6 _ (by omega) T16 hHT16 hFT16 (z33) ((v5 + 1)) (by omega) (by omega) (by first | assumption | exact (by assumption : TX T16)) rfl) (And.intro rfl (And.intro rfl (And.intro rfl (And.intro rfl (And.intro rfl (And.intro rfl (True.intro)))))))
                  · refine l_aload_n rfl rfl ?_
                    refine l_gfr rfl rfl rfl rfl rfl (hHT16.r 891 0 876 rfl) ?_
                    refine l_iconst rfl ?_
                    refine l_iload rfl rfl ?_
                    refine l_callV rfl rfl rfl (t_to_wrong hHT16 5 v5 ⟨by omega, by omega⟩ ⟨by omega, by omega⟩ _) ?_
                    rintro _ T17 ⟨hHT17, w130, z129, rfl, w129, w127, w128⟩
                    have hFT17 : FR md_re_doAdjective S T17 := FR.tr hFT16 w130 rfl
                    show Rl _ _ _ _ _ [iv z129] _ _
                    refine l_ireturn rfl (retI_z (by omega)) ?_
                    have w131 : 0 ≤ Xi T17 876 8 ∧ Xi T17 876 8 ≤ 9 := hHT17.c _ _
                    exact ⟨hHT17, hFT17, _, rfl, ⟨by omega, by omega⟩, (by first | assumption | exact (TX_FR w130 rfl (by assumption : TX T16))), (by first | assumption | omega)⟩
              · refine l_iconst rfl ?_
                refine l_goto rfl rfl ?_
                refine l_iconst rfl ?_
                have w132 : 0 ≤ Xi T1 5 3 ∧ Xi T1 5 3 ≤ 24 := hHT1.c _ _
                refine l_callV rfl rfl rfl (t_me_readAdjective hHT1 (Xi T1 21 ((z33).toNat)) at_ to 1 0 ⟨by omega, by omega⟩ ⟨by omega, by omega⟩ ⟨by omega, by omega⟩ ⟨by omega, by omega⟩ ⟨by omega, by omega⟩ (by first | assumption | exact (LEX_FR hFT1 rfl rfl (by assumption : LEX S))) _) ?_
                rintro _ T18 ⟨hHT18, w136, z135, rfl, w135, w133, w134⟩
                have hFT18 : FR md_re_doAdjective S T18 := FR.tr hFT1 w136 rfl
                show Rl _ _ _ _ _ [iv z135] _ _
                have hrr : 1 ≤ z135 := asu_u (nt := nt) hs (by assumption) (by assumption : FR md_re_doAdjective S T1) rfl hkk (by omega) (by omega) (by omega) (by omega) (by omega)
                have h53 : 0 ≤ Xi T1 5 3 ∧ Xi T1 5 3 ≤ 24 := hHT1.c _ _
                refine l_pop rfl rfl ?_
                refine l_aload_n rfl rfl ?_
                refine l_iload rfl rfl ?_
                refine l_aload_n rfl rfl ?_
                refine l_gfr rfl rfl rfl rfl rfl (hHT18.r 891 4 895 rfl) ?_
                refine l_gfi rfl rfl rfl rfl rfl ?_
                have w137 : 0 ≤ (Xi T18 895 8) ∧ (Xi T18 895 8) ≤ 255 := hHT18.c _ _
                refine l_aload_n rfl rfl ?_
                refine l_gfr rfl rfl rfl rfl rfl (hHT18.r 891 4 895 rfl) ?_
                refine l_gfi rfl rfl rfl rfl rfl ?_
                have w138 : -1 ≤ (Xi T18 895 9) ∧ (Xi T18 895 9) ≤ 11 := hHT18.c _ _
                refine l_iload_n rfl rfl ?_
                refine l_if_ne rfl rfl (by unfold rg; omega) (fun w139 => ?_) (fun w140 => ?_)
                · refine l_iconst rfl ?_
                  refine l_callV rfl rfl rfl (t_re_tellOne hHT18 z33 (Xi T18 895 8) (Xi T18 895 9) 0 ⟨by omega, by omega⟩ ⟨by omega, by omega⟩ ⟨by omega, by omega⟩ ⟨by omega, by omega⟩ (by first | assumption | exact (TX_FR w136 rfl (by assumption : TX T1))) (by first | assumption | omega) _) ?_
                  rintro _ T19 ⟨hHT19, w143, z142, rfl, w142, w141⟩
                  have hFT19 : FR md_re_doAdjective S T19 := FR.tr hFT18 w143 rfl
                  show Rl _ _ _ _ _ [iv z142] _ _
                  refine l_if_ne rfl rfl (by unfold rg; omega) (fun w144 => ?_) (fun w145 => ?_)
                  · refine l_iinc rfl rfl rfl rfl ?_
                    refine l_goto rfl rfl ?_
                    exact Rl_weak (ih6 _ (by omega) T19 hHT19 hFT19 (z33) ((v5 + 1)) (by omega) (by omega) (by first | assumption | exact (by assumption : TX T19)) rfl) (And.intro rfl (And.intro rfl (And.intro rfl (And.intro rfl (And.intro rfl (And.intro rfl (True.intro)))))))
                  · refine l_aload_n rfl rfl ?_
                    refine l_gfr rfl rfl rfl rfl rfl (hHT19.r 891 0 876 rfl) ?_
                    refine l_iconst rfl ?_
                    refine l_iload rfl rfl ?_
                    refine l_callV rfl rfl rfl (t_to_wrong hHT19 5 v5 ⟨by omega, by omega⟩ ⟨by omega, by omega⟩ _) ?_
                    rintro _ T20 ⟨hHT20, w149, z148, rfl, w148, w146, w147⟩
                    have hFT20 : FR md_re_doAdjective S T20 := FR.tr hFT19 w149 rfl
                    show Rl _ _ _ _ _ [iv z148] _ _
                    refine l_ireturn rfl (retI_z (by omega)) ?_
                    have w150 : 0 ≤ Xi T20 876 8 ∧ Xi T20 876 8 ≤ 9 := hHT20.c _ _
                    exact ⟨hHT20, hFT20, _, rfl, ⟨by omega, by omega⟩, (by first | assumption | exact (TX_FR w149 rfl (by assumption : TX T19))), (by first | assumption | omega)⟩
                · refine l_iconst rfl ?_
                  refine l_goto rfl rfl ?_
                  refine l_callV rfl rfl rfl (t_re_tellOne hHT18 z33 (Xi T18 895 8) (Xi T18 895 9) 1 ⟨by omega, by omega⟩ ⟨by omega, by omega⟩ ⟨by omega, by omega⟩ ⟨by omega, by omega⟩ (by first | assumption | exact (TX_FR w136 rfl (by assumption : TX T1))) (by first | assumption | omega) _) ?_
                  rintro _ T21 ⟨hHT21, w153, z152, rfl, w152, w151⟩
                  have hFT21 : FR md_re_doAdjective S T21 := FR.tr hFT18 w153 rfl
                  show Rl _ _ _ _ _ [iv z152] _ _
                  refine l_if_ne rfl rfl (by unfold rg; omega) (fun w154 => ?_) (fun w155 => ?_)
                  · refine l_iinc rfl rfl rfl rfl ?_
                    refine l_goto rfl rfl ?_
                    exact Rl_weak (ih6 _ (by omega) T21 hHT21 hFT21 (z33) ((v5 + 1)) (by omega) (by omega) (by first | assumption | exact (by assumption : TX T21)) rfl) (And.intro rfl (And.intro rfl (And.intro rfl (And.intro rfl (And.intro rfl (And.intro rfl (True.intro)))))))
                  · refine l_aload_n rfl rfl ?_
                    refine l_gfr rfl rfl rfl rfl rfl (hHT21.r 891 0 876 rfl) ?_
                    refine l_iconst rfl ?_
                    refine l_iload rfl rfl ?_
                    refine l_callV rfl rfl rfl (t_to_wrong hHT21 5 v5 ⟨by omega, by omega⟩ ⟨by omega, by omega⟩ _) ?_
                    rintro _ T22 ⟨hHT22, w159, z158, rfl, w158, w156, w157⟩
                    have hFT22 : FR md_re_doAdjective S T22 := FR.tr hFT21 w159 rfl
                    show Rl _ _ _ _ _ [iv z158] _ _
                    refine l_ireturn rfl (retI_z (by omega)) ?_
                    have w160 : 0 ≤ Xi T22 876 8 ∧ Xi T22 876 8 ≤ 9 := hHT22.c _ _
                    exact ⟨hHT22, hFT22, _, rfl, ⟨by omega, by omega⟩, (by first | assumption | exact (TX_FR w159 rfl (by assumption : TX T21))), (by first | assumption | omega)⟩
          · refine l_goto rfl rfl ?_
            refine l_iinc rfl rfl rfl rfl ?_
            refine l_goto rfl rfl ?_
            exact Rl_weak (ih6 _ (by omega) T1 hHT1 hFT1 (v4) ((v5 + 1)) (by omega) (by omega) (by first | assumption | exact (by assumption : TX T1)) rfl) (And.intro rfl (And.intro rfl (And.intro rfl (And.intro rfl (And.intro rfl (And.intro rfl (True.intro)))))))
  refine l_iconst rfl ?_
  refine l_istore rfl rfl rfl ?_
  refine l_iconst rfl ?_
  refine l_istore rfl rfl rfl ?_
  exact Rl_weak (C6 _ S hH hF ((-1)) (0) (by omega) (by omega) (by first | assumption | exact (by assumption : TX S)) rfl) (And.intro rfl (And.intro rfl (And.intro rfl (And.intro rfl (And.intro rfl (And.intro rfl (True.intro)))))))
def md_re_tellUsually : List rec := [(25, 65, 0, 100000), (66, 106, 0, 100000), (107, 147, 0, 100000), (148, 188, 0, 100000), (876, 877, 8, 9), (876, 877, 9, 10), (895, 896, 8, 9), (895, 896, 9, 10)]
abbrev Q_re_tellUsually (S : sS) : pst := fun r S1 => HI S1 ∧ FR md_re_tellUsually S S1 ∧ (∃ z : Int, r = some (iv z) ∧ (0 ≤ z ∧ z ≤ 1) ∧ (z = 1 → WI S1) ∧ (z = 0 → Xi S1 876 8 ≠ 0))
set_option maxRecDepth 100000 in
theorem t_re_tellUsually {S : sS} (hH : HI S) (hW : WI S) (d : Nat) : Mt lay0 (d + 4) m_re_tellUsually [.ref 891] S (Q_re_tellUsually S) := by
  refine Mt_R rfl rfl ?_
  have hF : FR md_re_tellUsually S S := FR.rf
  have hL := hW.1
  have hX := hW.2.1
  refine l_aload_n rfl rfl ?_
  refine l_gfr rfl rfl rfl rfl rfl (hH.r 891 0 876 rfl) ?_
  refine l_iconst rfl ?_
  have w1 : 0 ≤ Xi S 876 7 ∧ Xi S 876 7 ≤ 5125 := hH.c _ _
  refine l_callV rfl rfl rfl (t_to_behindArt hH 0 ⟨by omega, by omega⟩ _) ?_
  rintro _ _ ⟨rfl, z3, rfl, w3, w2⟩
  show Rl _ _ _ _ _ [iv z3] _ _
  refine l_istore_n rfl rfl rfl ?_
  refine l_aload_n rfl rfl ?_
  refine l_gfr rfl rfl rfl rfl rfl (hH.r 891 4 895 rfl) ?_
  refine l_iconst rfl ?_
  refine l_iload_n rfl rfl ?_
  refine l_aload_n rfl rfl ?_
  refine l_gfr rfl rfl rfl rfl rfl (hH.r 891 0 876 rfl) ?_
  refine l_iload_n rfl rfl ?_
  have w4 : 0 ≤ Xi S 876 7 ∧ Xi S 876 7 ≤ 5125 := hH.c _ _
  refine l_callV rfl rfl rfl (t_to_runEnd hH z3 ⟨by omega, by omega⟩ _) ?_
  rintro _ _ ⟨rfl, z12, rfl, w12, w5, w6, w7, w8, w9, w10, w11⟩
  clear w7 w8 w9 w10
  show Rl _ _ _ _ _ [iv z12, iv z3, iv 0, .ref 895] _ _
  refine l_callV rfl rfl rfl (t_me_find hH 0 z3 z12 ⟨by omega, by omega⟩ ⟨by omega, by omega⟩ ⟨by omega, by omega⟩ (by first | assumption | exact (LEX_FR hF rfl rfl (by assumption : LEX S))) _) ?_
  rintro _ _ ⟨rfl, z16, rfl, w16, w13, w14, w15⟩
  have w17 : z16 ≠ -1 → _ := fun h => fb0 hH (w13 h)
  clear w14
  show Rl _ _ _ _ _ [iv z16] _ _
  refine l_istore_n rfl rfl rfl ?_
  refine l_aload_n rfl rfl ?_
  refine l_gfr rfl rfl rfl rfl rfl (hH.r 891 1 890 rfl) ?_
  refine l_gfi rfl rfl rfl rfl rfl ?_
  have w18 : -1 ≤ (Xi S 890 3) ∧ (Xi S 890 3) ≤ 5124 := hH.c _ _
  refine l_iconst rfl ?_
  refine l_iadd rfl ?_
  refine l_istore_n rfl rfl rfl ?_
  refine l_iload_n rfl rfl ?_
  refine l_iconst rfl ?_
  refine l_icmp_eq rfl rfl (by unfold rg; omega) (by unfold rg; omega) (fun w19 => ?_) (fun w20 => ?_)
  · refine l_aload_n rfl rfl ?_
    refine l_gfr rfl rfl rfl rfl rfl (hH.r 891 0 876 rfl) ?_
    refine l_iconst rfl ?_
    refine l_iload_n rfl rfl ?_
    refine l_iconst rfl ?_
    refine l_icmp_ne rfl rfl (by unfold rg; omega) (by unfold rg; omega) (fun w21 => ?_) (fun w22 => ?_)
    · refine l_aload_n rfl rfl ?_
      refine l_callV rfl rfl rfl (t_re_secondName hH _) ?_
      rintro _ _ ⟨rfl, z23, rfl, w23⟩
      show Rl _ _ _ _ _ [iv z23, iv 4, .ref 876] _ _
      refine l_callV rfl rfl rfl (t_to_wrong hH 4 z23 ⟨by omega, by omega⟩ ⟨by omega, by omega⟩ _) ?_
      rintro _ T1 ⟨hHT1, w27, z26, rfl, w26, w24, w25⟩
      have hFT1 : FR md_re_tellUsually S T1 := FR.tr hF w27 rfl
      show Rl _ _ _ _ _ [iv z26] _ _
      refine l_ireturn rfl (retI_z (by omega)) ?_
      have w28 : 0 ≤ Xi T1 876 8 ∧ Xi T1 876 8 ≤ 9 := hHT1.c _ _
      exact ⟨hHT1, hFT1, _, rfl, ⟨by omega, by omega⟩, (by first | (intro hz; omega) | (intro _; assumption) | (intro _; exact (WI_FR hH w27 rfl rfl rfl rfl rfl rfl rfl rfl rfl (by assumption : WI S)))), (by omega)⟩
    · refine l_iload_n rfl rfl ?_
      refine l_goto rfl rfl ?_
      refine l_callV rfl rfl rfl (t_to_wrong hH 4 z3 ⟨by omega, by omega⟩ ⟨by omega, by omega⟩ _) ?_
      rintro _ T2 ⟨hHT2, w32, z31, rfl, w31, w29, w30⟩
      have hFT2 : FR md_re_tellUsually S T2 := FR.tr hF w32 rfl
      show Rl _ _ _ _ _ [iv z31] _ _
      refine l_ireturn rfl (retI_z (by omega)) ?_
      have w33 : 0 ≤ Xi T2 876 8 ∧ Xi T2 876 8 ≤ 9 := hHT2.c _ _
      exact ⟨hHT2, hFT2, _, rfl, ⟨by omega, by omega⟩, (by first | (intro hz; omega) | (intro _; assumption) | (intro _; exact (WI_FR hH w32 rfl rfl rfl rfl rfl rfl rfl rfl rfl (by assumption : WI S)))), (by omega)⟩
  · refine l_aload_n rfl rfl ?_
    refine l_callV rfl rfl rfl (t_re_secondName hH _) ?_
    rintro _ _ ⟨rfl, z34, rfl, w34⟩
    show Rl _ _ _ _ _ [iv z34] _ _
    refine l_iconst rfl ?_
    refine l_icmp_eq rfl rfl (by unfold rg; omega) (by unfold rg; omega) (fun w35 => ?_) (fun w36 => ?_)
    · refine l_aload_n rfl rfl ?_
      refine l_gfr rfl rfl rfl rfl rfl (hH.r 891 4 895 rfl) ?_
      refine l_iload_n rfl rfl ?_
      refine l_iload_n rfl rfl ?_
      refine l_aload_n rfl rfl ?_
      refine l_gfr rfl rfl rfl rfl rfl (hH.r 891 0 876 rfl) ?_
      refine l_iload_n rfl rfl ?_
      have w37 : 0 ≤ Xi S 876 7 ∧ Xi S 876 7 ≤ 5125 := hH.c _ _
      refine l_callV rfl rfl rfl (t_to_runEnd hH ((Xi S 890 3) + 2) ⟨by omega, by omega⟩ _) ?_
      rintro _ _ ⟨rfl, z45, rfl, w45, w38, w39, w40, w41, w42, w43, w44⟩
      clear w40 w41 w42 w43
      show Rl _ _ _ _ _ [iv z45, iv ((Xi S 890 3) + 2), iv z16, .ref 895] _ _
      refine l_iconst rfl ?_
      refine l_iconst rfl ?_
      have w46 : 0 ≤ Xi S 5 3 ∧ Xi S 5 3 ≤ 24 := hH.c _ _
      refine l_callV rfl rfl rfl (t_me_readAdjective hH z16 ((Xi S 890 3) + 2) z45 1 0 ⟨by omega, by omega⟩ ⟨by omega, by omega⟩ ⟨by omega, by omega⟩ ⟨by omega, by omega⟩ ⟨by omega, by omega⟩ (by first | assumption | exact (LEX_FR hF rfl rfl (by assumption : LEX S))) _) ?_
      rintro _ T3 ⟨hHT3, w50, z49, rfl, w49, w47, w48⟩
      have hFT3 : FR md_re_tellUsually S T3 := FR.tr hF w50 rfl
      show Rl _ _ _ _ _ [iv z49] _ _
      have h53 : 0 ≤ Xi S 5 3 ∧ Xi S 5 3 ≤ 24 := hH.c _ _
      refine l_istore rfl rfl rfl ?_
      refine l_iload rfl rfl ?_
      refine l_iconst rfl ?_
      refine l_icmp_eq rfl rfl (by unfold rg; omega) (by unfold rg; omega) (fun w51 => ?_) (fun w52 => ?_)
      · refine l_aload_n rfl rfl ?_
        refine l_bipush rfl rfl ?_
        refine l_iload_n rfl rfl ?_
        refine l_iadd rfl ?_
        refine l_aload_n rfl rfl ?_
        refine l_gfr rfl rfl rfl rfl rfl (hHT3.r 891 4 895 rfl) ?_
        refine l_gfi rfl rfl rfl rfl rfl ?_
        have w53 : 0 ≤ (Xi T3 895 8) ∧ (Xi T3 895 8) ≤ 255 := hHT3.c _ _
        refine l_aload_n rfl rfl ?_
        refine l_gfr rfl rfl rfl rfl rfl (hHT3.r 891 4 895 rfl) ?_
        refine l_gfi rfl rfl rfl rfl rfl ?_
        have w54 : -1 ≤ (Xi T3 895 9) ∧ (Xi T3 895 9) ≤ 11 := hHT3.c _ _
        refine l_iconst rfl ?_
        have hWp : WI T3 := (WI_FR hH w50 rfl rfl rfl rfl rfl rfl rfl rfl rfl (by assumption : WI S))
        have hHp := hHT3
        refine l_callV rfl rfl rfl (t_re_tellOne hHT3 (24 + z16) (Xi T3 895 8) (Xi T3 895 9) 1 ⟨by omega, by omega⟩ ⟨by omega, by omega⟩ ⟨by omega, by omega⟩ ⟨by omega, by omega⟩ (by first | assumption | exact (TX_FR w50 rfl (by assumption : TX S))) (by first | assumption | omega) _) ?_
        rintro _ T4 ⟨hHT4, w57, z56, rfl, w56, w55⟩
        have hFT4 : FR md_re_tellUsually S T4 := FR.tr hFT3 w57 rfl
        show Rl _ _ _ _ _ [iv z56] _ _
        have hWq : WI T4 := WI_x hHp (by assumption : FR md_re_tellOne T3 T4) rfl rfl rfl rfl rfl rfl rfl rfl (by assumption) hWp
        refine l_if_ne rfl rfl (by unfold rg; omega) (fun w58 => ?_) (fun w59 => ?_)
        · refine l_iconst rfl ?_
          refine l_goto rfl rfl ?_
          refine l_ireturn rfl rfl ?_
          have w60 : Xi T4 876 8 = Xi S 876 8 := (show Xi T4 876 8 = Xi T3 876 8 from w57.x _ _ rfl).trans ((show Xi T3 876 8 = Xi S 876 8 from w50.x _ _ rfl))
          have w61 : 0 ≤ Xi S 876 8 ∧ Xi S 876 8 ≤ 9 := hH.c _ _
          exact ⟨hHT4, hFT4, _, rfl, ⟨by omega, by omega⟩, (by first | (intro hz; omega) | (intro _; assumption) | (intro _; exact (by assumption : WI T4))), (by omega)⟩
        · refine l_aload_n rfl rfl ?_
          refine l_gfr rfl rfl rfl rfl rfl (hHT4.r 891 0 876 rfl) ?_
          refine l_iconst rfl ?_
          refine l_iload_n rfl rfl ?_
          refine l_callV rfl rfl rfl (t_to_wrong hHT4 5 z3 ⟨by omega, by omega⟩ ⟨by omega, by omega⟩ _) ?_
          rintro _ T5 ⟨hHT5, w65, z64, rfl, w64, w62, w63⟩
          have hFT5 : FR md_re_tellUsually S T5 := FR.tr hFT4 w65 rfl
          show Rl _ _ _ _ _ [iv z64] _ _
          refine l_if_eq rfl rfl (by unfold rg; omega) (fun w66 => ?_) (fun w67 => ?_)
          · refine l_iconst rfl ?_
            refine l_ireturn rfl rfl ?_
            have w68 : 0 ≤ Xi T5 876 8 ∧ Xi T5 876 8 ≤ 9 := hHT5.c _ _
            exact ⟨hHT5, hFT5, _, rfl, ⟨by omega, by omega⟩, (by first | (intro hz; omega) | (intro _; assumption) | (intro _; exact (WI_FR hHT4 w65 rfl rfl rfl rfl rfl rfl rfl rfl rfl (by assumption : WI T4)))), (by omega)⟩
          · refine l_iconst rfl ?_
            refine l_goto rfl rfl ?_
            refine l_ireturn rfl rfl ?_
            have w69 : 0 ≤ Xi T5 876 8 ∧ Xi T5 876 8 ≤ 9 := hHT5.c _ _
            exact ⟨hHT5, hFT5, _, rfl, ⟨by omega, by omega⟩, (by first | (intro hz; omega) | (intro _; assumption) | (intro _; exact (WI_FR hHT4 w65 rfl rfl rfl rfl rfl rfl rfl rfl rfl (by assumption : WI T4)))), (by omega)⟩
      · refine l_aload_n rfl rfl ?_
        refine l_gfr rfl rfl rfl rfl rfl (hHT3.r 891 0 876 rfl) ?_
        refine l_iload rfl rfl ?_
        refine l_if_ne rfl rfl (by unfold rg; omega) (fun w70 => ?_) (fun w71 => ?_)
        · refine l_bipush rfl rfl ?_
          refine l_iload_n rfl rfl ?_
          refine l_callV rfl rfl rfl (t_to_wrong hHT3 7 ((Xi S 890 3) + 2) ⟨by omega, by omega⟩ ⟨by omega, by omega⟩ _) ?_
          rintro _ T6 ⟨hHT6, w75, z74, rfl, w74, w72, w73⟩
          have hFT6 : FR md_re_tellUsually S T6 := FR.tr hFT3 w75 rfl
          show Rl _ _ _ _ _ [iv z74] _ _
          refine l_ireturn rfl (retI_z (by omega)) ?_
          have w76 : 0 ≤ Xi T6 876 8 ∧ Xi T6 876 8 ≤ 9 := hHT6.c _ _
          exact ⟨hHT6, hFT6, _, rfl, ⟨by omega, by omega⟩, (by first | (intro hz; omega) | (intro _; assumption) | (intro _; exact (WI_FR hHT3 w75 rfl rfl rfl rfl rfl rfl rfl rfl rfl (WI_FR hH w50 rfl rfl rfl rfl rfl rfl rfl rfl rfl (by assumption : WI S))))), (by omega)⟩
        · refine l_iconst rfl ?_
          refine l_goto rfl rfl ?_
          refine l_iload_n rfl rfl ?_
          refine l_callV rfl rfl rfl (t_to_wrong hHT3 4 ((Xi S 890 3) + 2) ⟨by omega, by omega⟩ ⟨by omega, by omega⟩ _) ?_
          rintro _ T7 ⟨hHT7, w80, z79, rfl, w79, w77, w78⟩
          have hFT7 : FR md_re_tellUsually S T7 := FR.tr hFT3 w80 rfl
          show Rl _ _ _ _ _ [iv z79] _ _
          refine l_ireturn rfl (retI_z (by omega)) ?_
          have w81 : 0 ≤ Xi T7 876 8 ∧ Xi T7 876 8 ≤ 9 := hHT7.c _ _
          exact ⟨hHT7, hFT7, _, rfl, ⟨by omega, by omega⟩, (by first | (intro hz; omega) | (intro _; assumption) | (intro _; exact (WI_FR hHT3 w80 rfl rfl rfl rfl rfl rfl rfl rfl rfl (WI_FR hH w50 rfl rfl rfl rfl rfl rfl rfl rfl rfl (by assumption : WI S))))), (by omega)⟩
    · refine l_aload_n rfl rfl ?_
      refine l_gfr rfl rfl rfl rfl rfl (hH.r 891 0 876 rfl) ?_
      refine l_iconst rfl ?_
      refine l_iload_n rfl rfl ?_
      refine l_iconst rfl ?_
      refine l_icmp_ne rfl rfl (by unfold rg; omega) (by unfold rg; omega) (fun w82 => ?_) (fun w83 => ?_)
      · refine l_aload_n rfl rfl ?_
        refine l_callV rfl rfl rfl (t_re_secondName hH _) ?_
        rintro _ _ ⟨rfl, z84, rfl, w84⟩
        show Rl _ _ _ _ _ [iv z84, iv 4, .ref 876] _ _
        refine l_callV rfl rfl rfl (t_to_wrong hH 4 z84 ⟨by omega, by omega⟩ ⟨by omega, by omega⟩ _) ?_
        rintro _ T8 ⟨hHT8, w88, z87, rfl, w87, w85, w86⟩
        have hFT8 : FR md_re_tellUsually S T8 := FR.tr hF w88 rfl
        show Rl _ _ _ _ _ [iv z87] _ _
        refine l_ireturn rfl (retI_z (by omega)) ?_
        have w89 : 0 ≤ Xi T8 876 8 ∧ Xi T8 876 8 ≤ 9 := hHT8.c _ _
        exact ⟨hHT8, hFT8, _, rfl, ⟨by omega, by omega⟩, (by first | (intro hz; omega) | (intro _; assumption) | (intro _; exact (WI_FR hH w88 rfl rfl rfl rfl rfl rfl rfl rfl rfl (by assumption : WI S)))), (by omega)⟩
      · refine l_iload_n rfl rfl ?_
        refine l_goto rfl rfl ?_
        refine l_callV rfl rfl rfl (t_to_wrong hH 4 z3 ⟨by omega, by omega⟩ ⟨by omega, by omega⟩ _) ?_
        rintro _ T9 ⟨hHT9, w93, z92, rfl, w92, w90, w91⟩
        have hFT9 : FR md_re_tellUsually S T9 := FR.tr hF w93 rfl
        show Rl _ _ _ _ _ [iv z92] _ _
        refine l_ireturn rfl (retI_z (by omega)) ?_
        have w94 : 0 ≤ Xi T9 876 8 ∧ Xi T9 876 8 ≤ 9 := hHT9.c _ _
        exact ⟨hHT9, hFT9, _, rfl, ⟨by omega, by omega⟩, (by first | (intro hz; omega) | (intro _; assumption) | (intro _; exact (WI_FR hH w93 rfl rfl rfl rfl rfl rfl rfl rfl rfl (by assumption : WI S)))), (by omega)⟩
def md_re_tellProperty : List rec := [(66, 106, 0, 100000), (107, 147, 0, 100000), (148, 188, 0, 100000), (876, 877, 8, 9), (876, 877, 9, 10), (895, 896, 10, 11), (895, 896, 11, 12)]
abbrev Q_re_tellProperty (S : sS) : pst := fun r S1 => HI S1 ∧ FR md_re_tellProperty S S1 ∧ (∃ z : Int, r = some (iv z) ∧ (0 ≤ z ∧ z ≤ 1) ∧ (z = 1 → WI S1) ∧ (z = 0 → Xi S1 876 8 ≠ 0))
set_option maxRecDepth 100000 in
theorem t_re_tellProperty {S : sS} (hH : HI S) (hW : WI S) (hT : TOK S) (hS : SRX S) (d : Nat) : Mt lay0 (d + 3) m_re_tellProperty [.ref 891] S (Q_re_tellProperty S) := by
  refine Mt_R rfl rfl ?_
  have hF : FR md_re_tellProperty S S := FR.rf
  have hL := hW.1
  have hX := hW.2.1
  have hc0 : 0 ≤ Xi S 5 0 ∧ Xi S 5 0 ≤ 16 := hH.c _ _
  have hc2 : 0 ≤ Xi S 5 2 ∧ Xi S 5 2 ≤ 24 := hH.c _ _
  have C102 : ∀  (v1 : Int) (v2 : Int) (v5 : Int) (v6 : Int), (1 ≤ v1 ∧ v1 ≤ 5125) → (2 ≤ v2 ∧ v2 ≤ 5127) → (-1 ≤ v5 ∧ v5 ≤ 39) → (-1 ≤ v6 ∧ v6 ≤ 15) → (-1 ≤ v5 ∧ v5 ≤ 39) → (-1 ≤ v6 ∧ v6 ≤ 15) → Rl lay0 (d + 2) m_re_tellProperty 102 [(0, .ref 891), (1, iv v1), (2, iv v2), (5, iv v5), (6, iv v6)] [] S (Q_re_tellProperty S) := by
    intro v1 v2 v5 v6 w1 w2 w3 w4 w5 w6
    refine l_aload_n rfl rfl ?_
    refine l_gfr rfl rfl rfl rfl rfl (hH.r 891 4 895 rfl) ?_
    refine l_iconst rfl ?_
    refine l_iload_n rfl rfl ?_
    refine l_iload rfl rfl ?_
    refine l_iconst rfl ?_
    refine l_callV rfl rfl rfl (t_me_readProperty hH 1 v1 v6 0 ⟨by omega, by omega⟩ ⟨by omega, by omega⟩ ⟨by omega, by omega⟩ ⟨by omega, by omega⟩ (by first | assumption | exact (LEX_FR hF rfl rfl (by assumption : LEX S))) _) ?_
    rintro _ T1 ⟨hHT1, w10, z9, rfl, w9, w7, w8⟩
    have hFT1 : FR md_re_tellProperty S T1 := FR.tr hF w10 rfl
    show Rl _ _ _ _ _ [iv z9] _ _
    refine l_istore rfl rfl rfl ?_
    refine l_iload rfl rfl ?_
    refine l_iconst rfl ?_
    refine l_icmp_ne rfl rfl (by unfold rg; omega) (by unfold rg; omega) (fun w11 => ?_) (fun w12 => ?_)
    · refine l_iload rfl rfl ?_
      refine l_iconst rfl ?_
      refine l_icmp_ne rfl rfl (by unfold rg; omega) (by unfold rg; omega) (fun w13 => ?_) (fun w14 => ?_)
      · refine l_aload_n rfl rfl ?_
        refine l_gfr rfl rfl rfl rfl rfl (hHT1.r 891 4 895 rfl) ?_
        refine l_aload_n rfl rfl ?_
        refine l_gfr rfl rfl rfl rfl rfl (hHT1.r 891 1 890 rfl) ?_
        refine l_gfi rfl rfl rfl rfl rfl ?_
        have w15 : -1 ≤ (Xi T1 890 3) ∧ (Xi T1 890 3) ≤ 5124 := hHT1.c _ _
        refine l_iconst rfl ?_
        refine l_iadd rfl ?_
        refine l_aload_n rfl rfl ?_
        refine l_gfr rfl rfl rfl rfl rfl (hHT1.r 891 2 1 rfl) ?_
        refine l_gfr rfl rfl rfl rfl rfl (hHT1.r 1 8 9 rfl) ?_
        refine l_iload rfl rfl ?_
        refine l_iaload (n := 12) rfl rfl (by omega) (by omega) (by unfold rg; omega) ?_
        have w16 : 0 ≤ (Xi T1 9 ((z9).toNat)) ∧ (Xi T1 9 ((z9).toNat)) ≤ 7 := hHT1.c _ _
        refine l_callV rfl rfl rfl (t_me_readWhat hHT1 ((Xi T1 890 3) + 1) (Xi T1 9 ((z9).toNat)) ⟨by omega, by omega⟩ ⟨by omega, by omega⟩ (by first | assumption | exact (LEX_FR hFT1 rfl rfl (by assumption : LEX S))) (by first | assumption | exact (TOK_FR hFT1 rfl rfl rfl (by assumption : TOK S))) (by first | assumption | exact (SRX_FR hFT1 rfl (by assumption : SRX S))) _) ?_
        rintro _ T2 ⟨hHT2, w20, z19, rfl, w19, w17, w18⟩
        have hFT2 : FR md_re_tellProperty S T2 := FR.tr hFT1 w20 rfl
        show Rl _ _ _ _ _ [iv z19] _ _
        refine l_if_eq rfl rfl (by unfold rg; omega) (fun w21 => ?_) (fun w22 => ?_)
        · refine l_iconst rfl ?_
          refine l_ireturn rfl rfl ?_
          have w23 : 0 ≤ Xi T2 876 8 ∧ Xi T2 876 8 ≤ 9 := hHT2.c _ _
          exact ⟨hHT2, hFT2, _, rfl, ⟨by omega, by omega⟩, (by first | (intro hz; omega) | (intro _; assumption) | (intro _; exact (WI_FR hHT1 w20 rfl rfl rfl rfl rfl rfl rfl rfl rfl (WI_FR hH w10 rfl rfl rfl rfl rfl rfl rfl rfl rfl (by assumption : WI S))))), (by omega)⟩
        · refine l_aload_n rfl rfl ?_
          refine l_gfr rfl rfl rfl rfl rfl (hHT2.r 891 3 20 rfl) ?_
          refine l_iload rfl rfl ?_
          refine l_iload rfl rfl ?_
          refine l_aload_n rfl rfl ?_
          refine l_gfr rfl rfl rfl rfl rfl (hHT2.r 891 4 895 rfl) ?_
          refine l_gfi rfl rfl rfl rfl rfl ?_
          have w24 : -2147483648 ≤ (Xi T2 895 10) ∧ (Xi T2 895 10) ≤ 2147483647 := Xi_rgI
          refine l_aload_n rfl rfl ?_
          refine l_gfr rfl rfl rfl rfl rfl (hHT2.r 891 4 895 rfl) ?_
          refine l_gfi rfl rfl rfl rfl rfl ?_
          have w25 : -2147483648 ≤ (Xi T2 895 11) ∧ (Xi T2 895 11) ≤ 2147483647 := Xi_rgI
          have hWp : WI T2 := (WI_FR hHT1 w20 rfl rfl rfl rfl rfl rfl rfl rfl rfl (WI_FR hH w10 rfl rfl rfl rfl rfl rfl rfl rfl rfl (by assumption : WI S)))
          have hHp := hHT2
          refine l_callV rfl rfl rfl (t_wo_tellProperty hHT2 v5 z9 (Xi T2 895 10) (Xi T2 895 11) ⟨by omega, by omega⟩ ⟨by omega, by omega⟩ ⟨by omega, by omega⟩ ⟨by omega, by omega⟩ (by first | assumption | exact (TX_FR w20 rfl (TX_FR w10 rfl (by assumption : TX S)))) (by apply_assumption; omega) _) ?_
          rintro _ T3 ⟨hHT3, w28, z27, rfl, w27, w26⟩
          have hFT3 : FR md_re_tellProperty S T3 := FR.tr hFT2 w28 rfl
          show Rl _ _ _ _ _ [iv z27] _ _
          have hWq : WI T3 := WI_x hHp (by assumption : FR md_wo_tellProperty T2 T3) rfl rfl rfl rfl rfl rfl rfl rfl (by assumption) hWp
          refine l_if_ne rfl rfl (by unfold rg; omega) (fun w29 => ?_) (fun w30 => ?_)
          · refine l_iconst rfl ?_
            refine l_goto rfl rfl ?_
            refine l_ireturn rfl rfl ?_
            have w31 : Xi T3 876 8 = Xi T2 876 8 := (show Xi T3 876 8 = Xi T2 876 8 from w28.x _ _ rfl)
            have w32 : 0 ≤ Xi T2 876 8 ∧ Xi T2 876 8 ≤ 9 := hHT2.c _ _
            exact ⟨hHT3, hFT3, _, rfl, ⟨by omega, by omega⟩, (by first | (intro hz; omega) | (intro _; assumption) | (intro _; exact (by assumption : WI T3))), (by omega)⟩
          · refine l_aload_n rfl rfl ?_
            refine l_gfr rfl rfl rfl rfl rfl (hHT3.r 891 0 876 rfl) ?_
            refine l_iconst rfl ?_
            refine l_iload_n rfl rfl ?_
            refine l_callV rfl rfl rfl (t_to_wrong hHT3 5 v2 ⟨by omega, by omega⟩ ⟨by omega, by omega⟩ _) ?_
            rintro _ T4 ⟨hHT4, w36, z35, rfl, w35, w33, w34⟩
            have hFT4 : FR md_re_tellProperty S T4 := FR.tr hFT3 w36 rfl
            show Rl _ _ _ _ _ [iv z35] _ _
            refine l_if_eq rfl rfl (by unfold rg; omega) (fun w37 => ?_) (fun w38 => ?_)
            · refine l_iconst rfl ?_
              refine l_ireturn rfl rfl ?_
              have w39 : 0 ≤ Xi T4 876 8 ∧ Xi T4 876 8 ≤ 9 := hHT4.c _ _
              exact ⟨hHT4, hFT4, _, rfl, ⟨by omega, by omega⟩, (by first | (intro hz; omega) | (intro _; assumption) | (intro _; exact (WI_FR hHT3 w36 rfl rfl rfl rfl rfl rfl rfl rfl rfl (by assumption : WI T3)))), (by omega)⟩
            · refine l_iconst rfl ?_
              refine l_goto rfl rfl ?_
              refine l_ireturn rfl rfl ?_
              have w40 : 0 ≤ Xi T4 876 8 ∧ Xi T4 876 8 ≤ 9 := hHT4.c _ _
              exact ⟨hHT4, hFT4, _, rfl, ⟨by omega, by omega⟩, (by first | (intro hz; omega) | (intro _; assumption) | (intro _; exact (WI_FR hHT3 w36 rfl rfl rfl rfl rfl rfl rfl rfl rfl (by assumption : WI T3)))), (by omega)⟩
      · refine l_aload_n rfl rfl ?_
        refine l_gfr rfl rfl rfl rfl rfl (hHT1.r 891 0 876 rfl) ?_
        refine l_iconst rfl ?_
        refine l_iload_n rfl rfl ?_
        refine l_callV rfl rfl rfl (t_to_wrong hHT1 4 v2 ⟨by omega, by omega⟩ ⟨by omega, by omega⟩ _) ?_
        rintro _ T5 ⟨hHT5, w44, z43, rfl, w43, w41, w42⟩
        have hFT5 : FR md_re_tellProperty S T5 := FR.tr hFT1 w44 rfl
        show Rl _ _ _ _ _ [iv z43] _ _
        refine l_ireturn rfl (retI_z (by omega)) ?_
        have w45 : 0 ≤ Xi T5 876 8 ∧ Xi T5 876 8 ≤ 9 := hHT5.c _ _
        exact ⟨hHT5, hFT5, _, rfl, ⟨by omega, by omega⟩, (by first | (intro hz; omega) | (intro _; assumption) | (intro _; exact (WI_FR hHT1 w44 rfl rfl rfl rfl rfl rfl rfl rfl rfl (WI_FR hH w10 rfl rfl rfl rfl rfl rfl rfl rfl rfl (by assumption : WI S))))), (by omega)⟩
    · refine l_iconst rfl ?_
      refine l_ireturn rfl rfl ?_
      have w46 : 0 ≤ Xi T1 876 8 ∧ Xi T1 876 8 ≤ 9 := hHT1.c _ _
      exact ⟨hHT1, hFT1, _, rfl, ⟨by omega, by omega⟩, (by first | (intro hz; omega) | (intro _; assumption) | (intro _; exact (WI_FR hH w10 rfl rfl rfl rfl rfl rfl rfl rfl rfl (by assumption : WI S)))), (by omega)⟩
  refine l_aload_n rfl rfl ?_
  refine l_gfr rfl rfl rfl rfl rfl (hH.r 891 0 876 rfl) ?_
  refine l_iconst rfl ?_
  have w47 : 0 ≤ Xi S 876 7 ∧ Xi S 876 7 ≤ 5125 := hH.c _ _
  refine l_callV rfl rfl rfl (t_to_runEnd hH 1 ⟨by omega, by omega⟩ _) ?_
  rintro _ _ ⟨rfl, z55, rfl, w55, w48, w49, w50, w51, w52, w53, w54⟩
  clear w50 w51 w52 w53
  show Rl _ _ _ _ _ [iv z55] _ _
  refine l_istore_n rfl rfl rfl ?_
  refine l_aload_n rfl rfl ?_
  refine l_gfr rfl rfl rfl rfl rfl (hH.r 891 0 876 rfl) ?_
  refine l_iload_n rfl rfl ?_
  refine l_iconst rfl ?_
  refine l_iadd rfl ?_
  have w56 : 0 ≤ Xi S 876 7 ∧ Xi S 876 7 ≤ 5125 := hH.c _ _
  refine l_callV rfl rfl rfl (t_to_behindArt hH (z55 + 1) ⟨by omega, by omega⟩ _) ?_
  rintro _ _ ⟨rfl, z58, rfl, w58, w57⟩
  show Rl _ _ _ _ _ [iv z58] _ _
  refine l_istore_n rfl rfl rfl ?_
  refine l_aload_n rfl rfl ?_
  refine l_gfr rfl rfl rfl rfl rfl (hH.r 891 2 1 rfl) ?_
  refine l_aload_n rfl rfl ?_
  refine l_gfr rfl rfl rfl rfl rfl (hH.r 891 0 876 rfl) ?_
  refine l_gfr rfl rfl rfl rfl rfl (hH.r 876 2 879 rfl) ?_
  refine l_iload_n rfl rfl ?_
  refine l_aload_n rfl rfl ?_
  refine l_gfr rfl rfl rfl rfl rfl (hH.r 891 0 876 rfl) ?_
  refine l_iload_n rfl rfl ?_
  have w59 : 0 ≤ Xi S 876 7 ∧ Xi S 876 7 ≤ 5125 := hH.c _ _
  refine l_callV rfl rfl rfl (t_to_runEnd hH z58 ⟨by omega, by omega⟩ _) ?_
  rintro _ _ ⟨rfl, z67, rfl, w67, w60, w61, w62, w63, w64, w65, w66⟩
  clear w62 w63 w64 w65
  show Rl _ _ _ _ _ [iv z67, iv z58, .ref 879, .ref 1] _ _
  refine l_callV rfl rfl rfl (t_vo_meaning hH 879 5130 z58 z67 rfl ⟨by omega, by omega⟩ ⟨by omega, by omega⟩ ⟨by omega, by omega⟩ (by first | assumption | exact (LEX_FR hF rfl rfl (by assumption : LEX S))) _) ?_
  rintro _ _ ⟨rfl, z71, rfl, w71, w68, w69, w70⟩
  show Rl _ _ _ _ _ [iv z71] _ _
  have hmnz71 := mOK_n (z := z71) (by assumption)
  have hfb0 : z71 / 256 = 0 → z71 % 256 < Xi S 5 0 ∧ 0 ≤ z71 % 256 := fun e => ⟨(fb0 hH (lx (by assumption) e (by omega))).2.2, (fb0 hH (lx (by assumption) e (by omega))).1⟩
  have hfb2 : z71 / 256 = 2 → z71 % 256 < Xi S 5 2 ∧ 0 ≤ z71 % 256 := fun e => ⟨(fb2 hH (lx (by assumption) e (by omega))).2.2, (fb2 hH (lx (by assumption) e (by omega))).1⟩
  refine l_istore_n rfl rfl rfl ?_
  refine l_iload_n rfl rfl ?_
  refine l_sipush rfl rfl ?_
  refine l_iand255 rfl (by unfold rg; omega) ?_
  refine l_istore rfl rfl rfl ?_
  refine l_iconst rfl ?_
  refine l_istore rfl rfl rfl ?_
  refine l_iconst rfl ?_
  refine l_istore rfl rfl rfl ?_
  refine l_iload_n rfl rfl ?_
  refine l_bipush rfl rfl ?_
  refine l_ishr8 rfl (by unfold rg; omega) ?_
  refine l_iconst rfl ?_
  refine l_icmp_ne rfl rfl (by unfold rg; omega) (by unfold rg; omega) (fun w74 => ?_) (fun w75 => ?_)
  · refine l_iload_n rfl rfl ?_
    refine l_bipush rfl rfl ?_
    refine l_ishr8 rfl (by unfold rg; omega) ?_
    refine l_if_ne rfl rfl (by unfold rg; omega) (fun w77 => ?_) (fun w78 => ?_)
    · exact Rl_weak (C102 (z55) (z58) ((-1)) ((-1)) (by omega) (by omega) (by omega) (by omega) (by omega) (by omega)) (And.intro rfl (And.intro rfl (And.intro rfl (And.intro rfl (And.intro rfl (True.intro))))))
    · refine l_bipush rfl rfl ?_
      refine l_iload rfl rfl ?_
      refine l_iadd rfl ?_
      refine l_istore rfl rfl rfl ?_
      refine l_iload rfl rfl ?_
      refine l_istore rfl rfl rfl ?_
      exact Rl_weak (C102 (z55) (z58) ((24 + (z71 % 256))) ((z71 % 256)) (by omega) (by omega) (by omega) (by omega) (by omega) (by omega)) (And.intro rfl (And.intro rfl (And.intro rfl (And.intro rfl (And.intro rfl (True.intro))))))
  · refine l_iload rfl rfl ?_
    refine l_istore rfl rfl rfl ?_
    refine l_aload_n rfl rfl ?_
    refine l_gfr rfl rfl rfl rfl rfl (hH.r 891 3 20 rfl) ?_
    refine l_gfr rfl rfl rfl rfl rfl (hH.r 20 2 21 rfl) ?_
    refine l_iload rfl rfl ?_
    refine l_iaload (n := 24) rfl rfl (by omega) (by omega) (by unfold rg; omega) ?_
    have w79 : 0 ≤ (Xi S 21 (((z71 % 256)).toNat)) ∧ (Xi S 21 (((z71 % 256)).toNat)) ≤ 15 := hH.c _ _
    refine l_istore rfl rfl rfl ?_
    refine l_goto rfl rfl ?_
    exact Rl_weak (C102 (z55) (z58) ((z71 % 256)) ((Xi S 21 (((z71 % 256)).toNat))) (by omega) (by omega) (by omega) (by omega) (by omega) (by omega)) (And.intro rfl (And.intro rfl (And.intro rfl (And.intro rfl (And.intro rfl (True.intro))))))
def md_re_tellPlural : List rec := [(1, 2, 3, 4), (2, 3, 0, 100000), (3, 4, 0, 100000), (4, 5, 0, 100000), (876, 877, 8, 9), (876, 877, 9, 10), (891, 892, 9, 10), (892, 893, 0, 100000), (893, 894, 0, 100000)]
abbrev Q_re_tellPlural (S : sS) : pst := fun r S1 => HI S1 ∧ FR md_re_tellPlural S S1 ∧ (∃ z : Int, r = some (iv z) ∧ (0 ≤ z ∧ z ≤ 1) ∧ (z = 1 → WI S1) ∧ (z = 0 → Xi S1 876 8 ≠ 0))
set_option maxRecDepth 100000 in
theorem t_re_tellPlural {S : sS} (hH : HI S) (hW : WI S) (hn0 : Xi S 891 9 = 0) (d : Nat) : Mt lay0 (d + 3) m_re_tellPlural [.ref 891] S (Q_re_tellPlural S) := by
  refine Mt_R rfl rfl ?_
  have hF : FR md_re_tellPlural S S := FR.rf
  have w1 : 0 ≤ Xi S 5 0 ∧ Xi S 5 0 ≤ 16 := hH.c _ _
  have w2 : 0 ≤ Xi S 5 1 ∧ Xi S 5 1 ≤ 8 := hH.c _ _
  have w3 : 0 ≤ Xi S 891 9 ∧ Xi S 891 9 ≤ 24 := hH.c _ _
  have hL := hW.1
  have hX := hW.2.1
  have C88 : ∀  (v2 : Int) (v3 : Int) (v5 : Int), (3 ≤ v2 ∧ v2 ≤ 5125) → (-1 ≤ v3 ∧ v3 ≤ 3647) → (0 ≤ v5 ∧ v5 ≤ 1) → ((v5 = 1 → v3 / 256 = 0 ∨ v3 / 256 = 11) ∧ (v5 = 0 → v3 / 256 = 1 ∨ v3 / 256 = 12)) → ((v3 / 256 = 0 → v3 % 256 < Xi S 5 0 ∧ 0 ≤ v3 % 256) ∧ (v3 / 256 = 11 → v3 % 256 < Xi S 5 0 ∧ 0 ≤ v3 % 256) ∧ (v3 / 256 = 1 → v3 % 256 < Xi S 5 1 ∧ 0 ≤ v3 % 256) ∧ (v3 / 256 = 12 → v3 % 256 < Xi S 5 1 ∧ 0 ≤ v3 % 256)) → Rl lay0 (d + 2) m_re_tellPlural 88 [(0, .ref 891), (2, iv v2), (3, iv v3), (5, iv v5)] [] S (Q_re_tellPlural S) := by
    intro v2 v3 v5 w4 w5 w6 w7 hf88
    refine l_aload_n rfl rfl ?_
    refine l_gfr rfl rfl rfl rfl rfl (hH.r 891 0 876 rfl) ?_
    refine l_iload_n rfl rfl ?_
    refine l_iconst rfl ?_
    refine l_iadd rfl ?_
    have w8 : 0 ≤ Xi S 5 0 ∧ Xi S 5 0 ≤ 16 := hH.c _ _
    have w9 : 0 ≤ Xi S 5 1 ∧ Xi S 5 1 ≤ 8 := hH.c _ _
    have w10 : 0 ≤ Xi S 876 7 ∧ Xi S 876 7 ≤ 5125 := hH.c _ _
    refine l_callV rfl rfl rfl (t_to_runEnd hH (v2 + 1) ⟨by omega, by omega⟩ _) ?_
    rintro _ _ ⟨rfl, z18, rfl, w18, w11, w12, w13, w14, w15, w16, w17⟩
    clear w13 w14 w15 w16
    show Rl _ _ _ _ _ [iv z18] _ _
    refine l_istore rfl rfl rfl ?_
    refine l_aload_n rfl rfl ?_
    refine l_iload_n rfl rfl ?_
    refine l_iconst rfl ?_
    refine l_iadd rfl ?_
    refine l_iload rfl rfl ?_
    refine l_iconst rfl ?_
    refine l_sipush rfl rfl ?_
    have w19 : 0 ≤ Xi S 5 0 ∧ Xi S 5 0 ≤ 16 := hH.c _ _
    have w20 : 0 ≤ Xi S 5 1 ∧ Xi S 5 1 ≤ 8 := hH.c _ _
    have w21 : 0 ≤ Xi S 891 9 ∧ Xi S 891 9 ≤ 24 := hH.c _ _
    refine l_callV rfl rfl rfl (t_re_takeNew hH (v2 + 1) z18 0 1000 ⟨by omega, by omega⟩ ⟨by omega, by omega⟩ ⟨by omega, by omega⟩ ⟨by omega, by omega⟩ (by first | assumption | exact (by assumption : LEX S)) _) ?_
    rintro _ T1 ⟨hHT1, w28, z27, rfl, w27, w22, w23, w24, w25, w26⟩
    have hFT1 : FR md_re_tellPlural S T1 := FR.tr hF w28 rfl
    show Rl _ _ _ _ _ [iv z27] _ _
    refine l_if_ne rfl rfl (by unfold rg; omega) (fun w29 => ?_) (fun w30 => ?_)
    · refine l_aload_n rfl rfl ?_
      refine l_gfr rfl rfl rfl rfl rfl (hHT1.r 891 2 1 rfl) ?_
      refine l_iload rfl rfl ?_
      refine l_if_eq rfl rfl (by unfold rg; omega) (fun w31 => ?_) (fun w32 => ?_)
      · refine l_bipush rfl rfl ?_
        refine l_iload_n rfl rfl ?_
        refine l_sipush rfl rfl ?_
        refine l_iand255 rfl (by unfold rg; omega) ?_
        refine l_aload_n rfl rfl ?_
        refine l_gfr rfl rfl rfl rfl rfl (hHT1.r 891 0 876 rfl) ?_
        refine l_gfr rfl rfl rfl rfl rfl (hHT1.r 876 2 879 rfl) ?_
        refine l_iload_n rfl rfl ?_
        refine l_iconst rfl ?_
        refine l_iadd rfl ?_
        refine l_iload rfl rfl ?_
        have hWr : WI T1 := (WI_FR hH w28 rfl rfl rfl rfl rfl rfl rfl rfl rfl (by assumption : WI S))
        have hHq := hHT1
        have w34 : Xi T1 1 3 = Xi S 1 3 := (show Xi T1 1 3 = Xi S 1 3 from w28.x _ _ rfl)
        have w35 : 0 ≤ Xi S 1 3 ∧ Xi S 1 3 ≤ 200 := hH.c _ _
        have w36 : Xi T1 5 0 = Xi S 5 0 := (show Xi T1 5 0 = Xi S 5 0 from w28.x _ _ rfl)
        have w37 : 0 ≤ Xi S 5 0 ∧ Xi S 5 0 ≤ 16 := hH.c _ _
        have w38 : Xi T1 5 1 = Xi S 5 1 := (show Xi T1 5 1 = Xi S 5 1 from w28.x _ _ rfl)
        have w39 : 0 ≤ Xi S 5 1 ∧ Xi S 5 1 ≤ 8 := hH.c _ _
        refine l_callV rfl rfl rfl (t_vo_nameIt hHT1 12 (v3 % 256) 879 5130 (v2 + 1) z18 ⟨by omega, by omega⟩ ⟨by omega, by omega⟩ rfl ⟨by omega, by omega⟩ ⟨by omega, by omega⟩ ⟨by omega, by omega⟩ (by first | assumption | exact (LEX_FR w28 rfl rfl (by assumption : LEX S))) (by unfold lexB; omega) (by first | assumption | omega) _) ?_
        rintro _ T2 ⟨hHT2, w44, rfl, w40, w41, w42⟩
        have hFT2 : FR md_re_tellPlural S T2 := FR.tr hFT1 w44 rfl
        show Rl _ _ _ _ _ [] _ _
        have hWm : WI T2 := WI_nm hHq (by assumption : FR md_vo_nameIt T1 T2) (by assumption) (by assumption) hWr
        refine l_iconst rfl ?_
        refine l_ireturn rfl rfl ?_
        have w45 : Xi T2 5 0 = Xi S 5 0 := (show Xi T2 5 0 = Xi T1 5 0 from w44.x _ _ rfl).trans ((show Xi T1 5 0 = Xi S 5 0 from w28.x _ _ rfl))
        have w46 : 0 ≤ Xi S 5 0 ∧ Xi S 5 0 ≤ 16 := hH.c _ _
        have w47 : Xi T2 5 1 = Xi S 5 1 := (show Xi T2 5 1 = Xi T1 5 1 from w44.x _ _ rfl).trans ((show Xi T1 5 1 = Xi S 5 1 from w28.x _ _ rfl))
        have w48 : 0 ≤ Xi S 5 1 ∧ Xi S 5 1 ≤ 8 := hH.c _ _
        have w49 : Xi T2 876 8 = Xi T1 876 8 := (show Xi T2 876 8 = Xi T1 876 8 from w44.x _ _ rfl)
        have w50 : 0 ≤ Xi T1 876 8 ∧ Xi T1 876 8 ≤ 9 := hHT1.c _ _
        exact ⟨hHT2, hFT2, _, rfl, ⟨by omega, by omega⟩, (by first | (intro hz; omega) | (intro _; assumption) | (intro _; exact (by assumption : WI T2))), (by omega)⟩
      · refine l_bipush rfl rfl ?_
        refine l_goto rfl rfl ?_
        refine l_iload_n rfl rfl ?_
        refine l_sipush rfl rfl ?_
        refine l_iand255 rfl (by unfold rg; omega) ?_
        refine l_aload_n rfl rfl ?_
        refine l_gfr rfl rfl rfl rfl rfl (hHT1.r 891 0 876 rfl) ?_
        refine l_gfr rfl rfl rfl rfl rfl (hHT1.r 876 2 879 rfl) ?_
        refine l_iload_n rfl rfl ?_
        refine l_iconst rfl ?_
        refine l_iadd rfl ?_
        refine l_iload rfl rfl ?_
        have hWr : WI T1 := (WI_FR hH w28 rfl rfl rfl rfl rfl rfl rfl rfl rfl (by assumption : WI S))
        have hHq := hHT1
        have w52 : Xi T1 1 3 = Xi S 1 3 := (show Xi T1 1 3 = Xi S 1 3 from w28.x _ _ rfl)
        have w53 : 0 ≤ Xi S 1 3 ∧ Xi S 1 3 ≤ 200 := hH.c _ _
        have w54 : Xi T1 5 0 = Xi S 5 0 := (show Xi T1 5 0 = Xi S 5 0 from w28.x _ _ rfl)
        have w55 : 0 ≤ Xi S 5 0 ∧ Xi S 5 0 ≤ 16 := hH.c _ _
        have w56 : Xi T1 5 1 = Xi S 5 1 := (show Xi T1 5 1 = Xi S 5 1 from w28.x _ _ rfl)
        have w57 : 0 ≤ Xi S 5 1 ∧ Xi S 5 1 ≤ 8 := hH.c _ _
        refine l_callV rfl rfl rfl (t_vo_nameIt hHT1 11 (v3 % 256) 879 5130 (v2 + 1) z18 ⟨by omega, by omega⟩ ⟨by omega, by omega⟩ rfl ⟨by omega, by omega⟩ ⟨by omega, by omega⟩ ⟨by omega, by omega⟩ (by first | assumption | exact (LEX_FR w28 rfl rfl (by assumption : LEX S))) (by unfold lexB; omega) (by first | assumption | omega) _) ?_
        rintro _ T3 ⟨hHT3, w62, rfl, w58, w59, w60⟩
        have hFT3 : FR md_re_tellPlural S T3 := FR.tr hFT1 w62 rfl
        show Rl _ _ _ _ _ [] _ _
        have hWm : WI T3 := WI_nm hHq (by assumption : FR md_vo_nameIt T1 T3) (by assumption) (by assumption) hWr
        refine l_iconst rfl ?_
        refine l_ireturn rfl rfl ?_
        have w63 : Xi T3 5 0 = Xi S 5 0 := (show Xi T3 5 0 = Xi T1 5 0 from w62.x _ _ rfl).trans ((show Xi T1 5 0 = Xi S 5 0 from w28.x _ _ rfl))
        have w64 : 0 ≤ Xi S 5 0 ∧ Xi S 5 0 ≤ 16 := hH.c _ _
        have w65 : Xi T3 5 1 = Xi S 5 1 := (show Xi T3 5 1 = Xi T1 5 1 from w62.x _ _ rfl).trans ((show Xi T1 5 1 = Xi S 5 1 from w28.x _ _ rfl))
        have w66 : 0 ≤ Xi S 5 1 ∧ Xi S 5 1 ≤ 8 := hH.c _ _
        have w67 : Xi T3 876 8 = Xi T1 876 8 := (show Xi T3 876 8 = Xi T1 876 8 from w62.x _ _ rfl)
        have w68 : 0 ≤ Xi T1 876 8 ∧ Xi T1 876 8 ≤ 9 := hHT1.c _ _
        exact ⟨hHT3, hFT3, _, rfl, ⟨by omega, by omega⟩, (by first | (intro hz; omega) | (intro _; assumption) | (intro _; exact (by assumption : WI T3))), (by omega)⟩
    · refine l_iconst rfl ?_
      refine l_ireturn rfl rfl ?_
      have w69 : Xi T1 5 0 = Xi S 5 0 := (show Xi T1 5 0 = Xi S 5 0 from w28.x _ _ rfl)
      have w70 : 0 ≤ Xi S 5 0 ∧ Xi S 5 0 ≤ 16 := hH.c _ _
      have w71 : Xi T1 5 1 = Xi S 5 1 := (show Xi T1 5 1 = Xi S 5 1 from w28.x _ _ rfl)
      have w72 : 0 ≤ Xi S 5 1 ∧ Xi S 5 1 ≤ 8 := hH.c _ _
      have w73 : 0 ≤ Xi T1 876 8 ∧ Xi T1 876 8 ≤ 9 := hHT1.c _ _
      exact ⟨hHT1, hFT1, _, rfl, ⟨by omega, by omega⟩, (by first | (intro hz; omega) | (intro _; assumption) | (intro _; exact (WI_FR hH w28 rfl rfl rfl rfl rfl rfl rfl rfl rfl (by assumption : WI S)))), (by omega)⟩
  refine l_aload_n rfl rfl ?_
  refine l_gfr rfl rfl rfl rfl rfl (hH.r 891 0 876 rfl) ?_
  refine l_iconst rfl ?_
  have w74 : 0 ≤ Xi S 5 0 ∧ Xi S 5 0 ≤ 16 := hH.c _ _
  have w75 : 0 ≤ Xi S 5 1 ∧ Xi S 5 1 ≤ 8 := hH.c _ _
  have w76 : 0 ≤ Xi S 876 7 ∧ Xi S 876 7 ≤ 5125 := hH.c _ _
  refine l_callV rfl rfl rfl (t_to_behindArt hH 3 ⟨by omega, by omega⟩ _) ?_
  rintro _ _ ⟨rfl, z78, rfl, w78, w77⟩
  show Rl _ _ _ _ _ [iv z78] _ _
  refine l_istore_n rfl rfl rfl ?_
  refine l_aload_n rfl rfl ?_
  refine l_gfr rfl rfl rfl rfl rfl (hH.r 891 0 876 rfl) ?_
  refine l_iload_n rfl rfl ?_
  have w79 : 0 ≤ Xi S 5 0 ∧ Xi S 5 0 ≤ 16 := hH.c _ _
  have w80 : 0 ≤ Xi S 5 1 ∧ Xi S 5 1 ≤ 8 := hH.c _ _
  have w81 : 0 ≤ Xi S 876 7 ∧ Xi S 876 7 ≤ 5125 := hH.c _ _
  refine l_callV rfl rfl rfl (t_to_runEnd hH z78 ⟨by omega, by omega⟩ _) ?_
  rintro _ _ ⟨rfl, z89, rfl, w89, w82, w83, w84, w85, w86, w87, w88⟩
  clear w84 w85 w86 w87
  show Rl _ _ _ _ _ [iv z89] _ _
  refine l_istore_n rfl rfl rfl ?_
  refine l_aload_n rfl rfl ?_
  refine l_gfr rfl rfl rfl rfl rfl (hH.r 891 2 1 rfl) ?_
  refine l_aload_n rfl rfl ?_
  refine l_gfr rfl rfl rfl rfl rfl (hH.r 891 0 876 rfl) ?_
  refine l_gfr rfl rfl rfl rfl rfl (hH.r 876 2 879 rfl) ?_
  refine l_iload_n rfl rfl ?_
  refine l_iload_n rfl rfl ?_
  have w90 : 0 ≤ Xi S 5 0 ∧ Xi S 5 0 ≤ 16 := hH.c _ _
  have w91 : 0 ≤ Xi S 5 1 ∧ Xi S 5 1 ≤ 8 := hH.c _ _
  refine l_callV rfl rfl rfl (t_vo_meaning hH 879 5130 z78 z89 rfl ⟨by omega, by omega⟩ ⟨by omega, by omega⟩ ⟨by omega, by omega⟩ (by first | assumption | exact (by assumption : LEX S)) _) ?_
  rintro _ _ ⟨rfl, z95, rfl, w95, w92, w93, w94⟩
  show Rl _ _ _ _ _ [iv z95] _ _
  have hmnz95 := mOK_n (z := z95) (by assumption)
  have hfb0 : z95 / 256 = 0 → z95 % 256 < Xi S 5 0 ∧ 0 ≤ z95 % 256 := fun e => ⟨(fb0 hH (lx (by assumption) e (by omega))).2.2, (fb0 hH (lx (by assumption) e (by omega))).1⟩
  have hfb11 : z95 / 256 = 11 → z95 % 256 < Xi S 5 0 ∧ 0 ≤ z95 % 256 := fun e => ⟨(fb11 hH (lx (by assumption) e (by omega))).2.2, (fb11 hH (lx (by assumption) e (by omega))).1⟩
  have hfb1 : z95 / 256 = 1 → z95 % 256 < Xi S 5 1 ∧ 0 ≤ z95 % 256 := fun e => ⟨(fb1 hH (lx (by assumption) e (by omega))).2.2, (fb1 hH (lx (by assumption) e (by omega))).1⟩
  have hfb12 : z95 / 256 = 12 → z95 % 256 < Xi S 5 1 ∧ 0 ≤ z95 % 256 := fun e => ⟨(fb12 hH (lx (by assumption) e (by omega))).2.2, (fb12 hH (lx (by assumption) e (by omega))).1⟩
  refine l_istore_n rfl rfl rfl ?_
  refine l_iload_n rfl rfl ?_
  refine l_bipush rfl rfl ?_
  refine l_ishr8 rfl (by unfold rg; omega) ?_
  refine l_istore rfl rfl rfl ?_
  refine l_iload rfl rfl ?_
  refine l_if_eq rfl rfl (by unfold rg; omega) (fun w97 => ?_) (fun w98 => ?_)
  · refine l_iconst rfl ?_
    refine l_goto rfl rfl ?_
    refine l_istore rfl rfl rfl ?_
    refine l_iload rfl rfl ?_
    refine l_if_ne rfl rfl (by unfold rg; omega) (fun w99 => ?_) (fun w100 => absurd w100 (by omega))
    · have w101 : 0 ≤ Xi S 5 0 ∧ Xi S 5 0 ≤ 16 := hH.c _ _
      have w102 : 0 ≤ Xi S 5 1 ∧ Xi S 5 1 ≤ 8 := hH.c _ _
      exact Rl_weak (C88 (z89) (z95) (1) (by omega) (by omega) (by omega) (by omega) (⟨hfb0, hfb11, hfb1, hfb12⟩)) (And.intro rfl (And.intro rfl (And.intro rfl (And.intro rfl (True.intro)))))
  · refine l_iload rfl rfl ?_
    refine l_bipush rfl rfl ?_
    refine l_icmp_ne rfl rfl (by unfold rg; omega) (by unfold rg; omega) (fun w103 => ?_) (fun w104 => ?_)
    · refine l_iconst rfl ?_
      refine l_istore rfl rfl rfl ?_
      refine l_iload rfl rfl ?_
      refine l_if_ne rfl rfl (by unfold rg; omega) (fun w105 => absurd w105 (by omega)) (fun w106 => ?_)
      · refine l_iload rfl rfl ?_
        refine l_iconst rfl ?_
        refine l_icmp_eq rfl rfl (by unfold rg; omega) (by unfold rg; omega) (fun w107 => ?_) (fun w108 => ?_)
        · have w109 : 0 ≤ Xi S 5 0 ∧ Xi S 5 0 ≤ 16 := hH.c _ _
          have w110 : 0 ≤ Xi S 5 1 ∧ Xi S 5 1 ≤ 8 := hH.c _ _
          exact Rl_weak (C88 (z89) (z95) (0) (by omega) (by omega) (by omega) (by omega) (⟨hfb0, hfb11, hfb1, hfb12⟩)) (And.intro rfl (And.intro rfl (And.intro rfl (And.intro rfl (True.intro)))))
        · refine l_iload rfl rfl ?_
          refine l_bipush rfl rfl ?_
          refine l_icmp_eq rfl rfl (by unfold rg; omega) (by unfold rg; omega) (fun w111 => ?_) (fun w112 => ?_)
          · have w113 : 0 ≤ Xi S 5 0 ∧ Xi S 5 0 ≤ 16 := hH.c _ _
            have w114 : 0 ≤ Xi S 5 1 ∧ Xi S 5 1 ≤ 8 := hH.c _ _
            exact Rl_weak (C88 (z89) (z95) (0) (by omega) (by omega) (by omega) (by omega) (⟨hfb0, hfb11, hfb1, hfb12⟩)) (And.intro rfl (And.intro rfl (And.intro rfl (And.intro rfl (True.intro)))))
          · refine l_aload_n rfl rfl ?_
            refine l_gfr rfl rfl rfl rfl rfl (hH.r 891 0 876 rfl) ?_
            refine l_iconst rfl ?_
            refine l_iload_n rfl rfl ?_
            have w115 : 0 ≤ Xi S 5 0 ∧ Xi S 5 0 ≤ 16 := hH.c _ _
            have w116 : 0 ≤ Xi S 5 1 ∧ Xi S 5 1 ≤ 8 := hH.c _ _
            refine l_callV rfl rfl rfl (t_to_wrong hH 4 z78 ⟨by omega, by omega⟩ ⟨by omega, by omega⟩ _) ?_
            rintro _ T4 ⟨hHT4, w120, z119, rfl, w119, w117, w118⟩
            have hFT4 : FR md_re_tellPlural S T4 := FR.tr hF w120 rfl
            show Rl _ _ _ _ _ [iv z119] _ _
            refine l_ireturn rfl (retI_z (by omega)) ?_
            have w121 : Xi T4 5 0 = Xi S 5 0 := (show Xi T4 5 0 = Xi S 5 0 from w120.x _ _ rfl)
            have w122 : 0 ≤ Xi S 5 0 ∧ Xi S 5 0 ≤ 16 := hH.c _ _
            have w123 : Xi T4 5 1 = Xi S 5 1 := (show Xi T4 5 1 = Xi S 5 1 from w120.x _ _ rfl)
            have w124 : 0 ≤ Xi S 5 1 ∧ Xi S 5 1 ≤ 8 := hH.c _ _
            have w125 : 0 ≤ Xi T4 876 8 ∧ Xi T4 876 8 ≤ 9 := hHT4.c _ _
            exact ⟨hHT4, hFT4, _, rfl, ⟨by omega, by omega⟩, (by first | (intro hz; omega) | (intro _; assumption) | (intro _; exact (WI_FR hH w120 rfl rfl rfl rfl rfl rfl rfl rfl rfl (by assumption : WI S)))), (by omega)⟩
    · refine l_iconst rfl ?_
      refine l_goto rfl rfl ?_
      refine l_istore rfl rfl rfl ?_
      refine l_iload rfl rfl ?_
      refine l_if_ne rfl rfl (by unfold rg; omega) (fun w126 => ?_) (fun w127 => absurd w127 (by omega))
      · have w128 : 0 ≤ Xi S 5 0 ∧ Xi S 5 0 ≤ 16 := hH.c _ _
        have w129 : 0 ≤ Xi S 5 1 ∧ Xi S 5 1 ≤ 8 := hH.c _ _
        exact Rl_weak (C88 (z89) (z95) (1) (by omega) (by omega) (by omega) (by omega) (⟨hfb0, hfb11, hfb1, hfb12⟩)) (And.intro rfl (And.intro rfl (And.intro rfl (And.intro rfl (True.intro)))))
def md_re_tellVerb : List rec := [(1, 2, 3, 4), (2, 3, 0, 100000), (3, 4, 0, 100000), (4, 5, 0, 100000), (5, 6, 0, 100000), (18, 19, 0, 100000), (876, 877, 8, 9), (876, 877, 9, 10), (891, 892, 9, 10), (892, 893, 0, 100000), (893, 894, 0, 100000), (894, 895, 0, 100000)]
abbrev Q_re_tellVerb (S : sS) : pst := fun r S1 => HI S1 ∧ FR md_re_tellVerb S S1 ∧ (∃ z : Int, r = some (iv z) ∧ (0 ≤ z ∧ z ≤ 1) ∧ (z = 1 → WI S1) ∧ (z = 0 → Xi S1 876 8 ≠ 0))
set_option maxRecDepth 100000 in
theorem t_re_tellVerb {S : sS} (hH : HI S) (hW : WI S) (hn0 : Xi S 891 9 = 0) (d : Nat) : Mt lay0 (d + 4) m_re_tellVerb [.ref 891] S (Q_re_tellVerb S) := by
  refine Mt_R rfl rfl ?_
  have hF : FR md_re_tellVerb S S := FR.rf
  have w1 : 0 ≤ Xi S 891 9 ∧ Xi S 891 9 ≤ 24 := hH.c _ _
  have hL := hW.1
  have hX := hW.2.1
  refine l_aload_n rfl rfl ?_
  refine l_gfr rfl rfl rfl rfl rfl (hH.r 891 0 876 rfl) ?_
  refine l_iconst rfl ?_
  have w2 : 0 ≤ Xi S 5 7 ∧ Xi S 5 7 ≤ 8 := hH.c _ _
  have w3 : 0 ≤ Xi S 876 7 ∧ Xi S 876 7 ≤ 5125 := hH.c _ _
  refine l_callV rfl rfl rfl (t_to_runEnd hH 3 ⟨by omega, by omega⟩ _) ?_
  rintro _ _ ⟨rfl, z11, rfl, w11, w4, w5, w6, w7, w8, w9, w10⟩
  clear w6 w7 w8 w9
  show Rl _ _ _ _ _ [iv z11] _ _
  refine l_istore_n rfl rfl rfl ?_
  refine l_iload_n rfl rfl ?_
  refine l_iconst rfl ?_
  refine l_iadd rfl ?_
  refine l_istore_n rfl rfl rfl ?_
  refine l_aload_n rfl rfl ?_
  refine l_gfr rfl rfl rfl rfl rfl (hH.r 891 13 894 rfl) ?_
  refine l_iconst rfl ?_
  refine l_aload_n rfl rfl ?_
  refine l_gfr rfl rfl rfl rfl rfl (hH.r 891 0 876 rfl) ?_
  refine l_gfr rfl rfl rfl rfl rfl (hH.r 876 2 879 rfl) ?_
  refine l_iconst rfl ?_
  refine l_laload (n := 5130) rfl rfl (by omega) (by omega) (by unfold rg; omega) ?_
  have w12 : -9223372036854775808 ≤ (Xj S 879 ((3 : Int).toNat)) ∧ (Xj S 879 ((3 : Int).toNat)) < 9223372036854775808 := Xj_rg
  refine l_ldc2 (z := 27) rfl rfl ?_
  refine l_lmul rfl ?_
  refine l_ldc2 (z := 19) rfl rfl ?_
  refine l_ladd rfl ?_
  refine l_lastore (n := 3) rfl rfl (by omega) (by omega) (by unfold rg; omega) ?_
  obtain ⟨U1, eU1⟩ : ∃ T : sS, T = uJ S 894 ((0 : Int).toNat) (Int64.ofInt (((Xj S 879 ((3 : Int).toNat)) * 27) + 19)) := ⟨_, rfl⟩
  rw [← eU1]
  have hHU1 : HI U1 := by rw [eU1]; exact HI_J hH
  have hFU1 : FR md_re_tellVerb S U1 := by rw [eU1]; exact FR.wJ hF (mdf_i (r := (894, 895, 0, 100000)) (List.mem_of_getElem? (i := 11) rfl) (inR_i (by omega) (by omega) (by omega) (by omega)))
  refine l_iload_n rfl rfl ?_
  refine l_iconst rfl ?_
  refine l_icmp_ne rfl rfl (by unfold rg; omega) (by unfold rg; omega) (fun w13 => ?_) (fun w14 => ?_)
  · refine l_aload_n rfl rfl ?_
    refine l_gfr rfl rfl rfl rfl rfl (hHU1.r 891 0 876 rfl) ?_
    refine l_iconst rfl ?_
    refine l_iconst rfl ?_
    have w15 : Xi U1 5 7 = Xi S 5 7 := (show Xi U1 5 7 = Xi S 5 7 from by rw [eU1]; rfl)
    have w16 : 0 ≤ Xi S 5 7 ∧ Xi S 5 7 ≤ 8 := hH.c _ _
    refine l_callV rfl rfl rfl (t_to_wrong hHU1 3 3 ⟨by omega, by omega⟩ ⟨by omega, by omega⟩ _) ?_
    rintro _ T2 ⟨hHT2, w20, z19, rfl, w19, w17, w18⟩
    have hFT2 : FR md_re_tellVerb S T2 := FR.tr hFU1 w20 rfl
    show Rl _ _ _ _ _ [iv z19] _ _
    refine l_ireturn rfl (retI_z (by omega)) ?_
    have w21 : Xi T2 5 7 = Xi S 5 7 := (show Xi T2 5 7 = Xi U1 5 7 from w20.x _ _ rfl).trans ((show Xi U1 5 7 = Xi S 5 7 from by rw [eU1]; rfl))
    have w22 : 0 ≤ Xi S 5 7 ∧ Xi S 5 7 ≤ 8 := hH.c _ _
    have w23 : 0 ≤ Xi T2 876 8 ∧ Xi T2 876 8 ≤ 9 := hHT2.c _ _
    exact ⟨hHT2, hFT2, _, rfl, ⟨by omega, by omega⟩, (by first | (intro hz; omega) | (intro _; assumption) | (intro _; exact (WI_FR hHU1 w20 rfl rfl rfl rfl rfl rfl rfl rfl rfl (WI_FR hH (FR_J eU1) rfl rfl rfl rfl rfl rfl rfl rfl rfl (by assumption : WI S))))), (by omega)⟩
  · refine l_aload_n rfl rfl ?_
    refine l_gfr rfl rfl rfl rfl rfl (hHU1.r 891 2 1 rfl) ?_
    refine l_aload_n rfl rfl ?_
    refine l_gfr rfl rfl rfl rfl rfl (hHU1.r 891 13 894 rfl) ?_
    refine l_iconst rfl ?_
    refine l_iconst rfl ?_
    have w24 : Xi U1 5 7 = Xi S 5 7 := (show Xi U1 5 7 = Xi S 5 7 from by rw [eU1]; rfl)
    have w25 : 0 ≤ Xi S 5 7 ∧ Xi S 5 7 ≤ 8 := hH.c _ _
    refine l_callV rfl rfl rfl (t_vo_meaning hHU1 894 3 0 1 rfl ⟨by omega, by omega⟩ ⟨by omega, by omega⟩ ⟨by omega, by omega⟩ (by first | assumption | exact (LEX_FR (FR_J eU1) rfl rfl (by assumption : LEX S))) _) ?_
    rintro _ _ ⟨rfl, z29, rfl, w29, w26, w27, w28⟩
    show Rl _ _ _ _ _ [iv z29] _ _
    have hmnz29 := mOK_n (z := z29) (by assumption)
    refine l_iconst rfl ?_
    refine l_icmp_eq rfl rfl (by unfold rg; omega) (by unfold rg; omega) (fun w30 => ?_) (fun w31 => ?_)
    · refine l_aload_n rfl rfl ?_
      refine l_iconst rfl ?_
      refine l_iload_n rfl rfl ?_
      refine l_aload_n rfl rfl ?_
      refine l_gfr rfl rfl rfl rfl rfl (hHU1.r 891 2 1 rfl) ?_
      refine l_bipush rfl rfl ?_
      have w32 : Xi U1 5 7 = Xi S 5 7 := (show Xi U1 5 7 = Xi S 5 7 from by rw [eU1]; rfl)
      have w33 : 0 ≤ Xi S 5 7 ∧ Xi S 5 7 ≤ 8 := hH.c _ _
      refine l_callV rfl rfl rfl (t_vo_countOf hHU1 7 ⟨by omega, by omega⟩ _) ?_
      rintro _ _ ⟨rfl, z37, rfl, w37, w34, w35, w36⟩
      have w38 : z37 = Xi U1 5 7 ∧ 0 ≤ Xi U1 5 7 ∧ Xi U1 5 7 ≤ 8 := ⟨(w34 (by omega) (by omega)).1, hHU1.c 5 7⟩
      clear w34 w35 w36
      show Rl _ _ _ _ _ [iv z37, iv z11, iv 3, .ref 891] _ _
      refine l_bipush rfl rfl ?_
      have w39 : Xi U1 5 7 = Xi S 5 7 := (show Xi U1 5 7 = Xi S 5 7 from by rw [eU1]; rfl)
      have w40 : 0 ≤ Xi S 5 7 ∧ Xi S 5 7 ≤ 8 := hH.c _ _
      have w41 : Xi U1 891 9 = Xi S 891 9 := (show Xi U1 891 9 = Xi S 891 9 from by rw [eU1]; rfl)
      have w42 : 0 ≤ Xi S 891 9 ∧ Xi S 891 9 ≤ 24 := hH.c _ _
      refine l_callV rfl rfl rfl (t_re_takeNew hHU1 3 z11 z37 8 ⟨by omega, by omega⟩ ⟨by omega, by omega⟩ ⟨by omega, by omega⟩ ⟨by omega, by omega⟩ (by first | assumption | exact (LEX_FR (FR_J eU1) rfl rfl (by assumption : LEX S))) _) ?_
      rintro _ T3 ⟨hHT3, w49, z48, rfl, w48, w43, w44, w45, w46, w47⟩
      have hFT3 : FR md_re_tellVerb S T3 := FR.tr hFU1 w49 rfl
      show Rl _ _ _ _ _ [iv z48] _ _
      refine l_if_ne rfl rfl (by unfold rg; omega) (fun w50 => ?_) (fun w51 => ?_)
      · refine l_aload_n rfl rfl ?_
        refine l_gfr rfl rfl rfl rfl rfl (hHT3.r 891 4 895 rfl) ?_
        refine l_bipush rfl rfl ?_
        refine l_iload_n rfl rfl ?_
        refine l_aload_n rfl rfl ?_
        refine l_gfr rfl rfl rfl rfl rfl (hHT3.r 891 0 876 rfl) ?_
        refine l_iload_n rfl rfl ?_
        have w52 : Xi T3 5 7 = Xi S 5 7 := (show Xi T3 5 7 = Xi U1 5 7 from w49.x _ _ rfl).trans ((show Xi U1 5 7 = Xi S 5 7 from by rw [eU1]; rfl))
        have w53 : 0 ≤ Xi S 5 7 ∧ Xi S 5 7 ≤ 8 := hH.c _ _
        have w54 : Xi T3 876 7 = Xi S 876 7 := (show Xi T3 876 7 = Xi U1 876 7 from w49.x _ _ rfl).trans ((show Xi U1 876 7 = Xi S 876 7 from by rw [eU1]; rfl))
        have w55 : 0 ≤ Xi S 876 7 ∧ Xi S 876 7 ≤ 5125 := hH.c _ _
        refine l_callV rfl rfl rfl (t_to_runEnd hHT3 (z11 + 2) ⟨by omega, by omega⟩ _) ?_
        rintro _ _ ⟨rfl, z63, rfl, w63, w56, w57, w58, w59, w60, w61, w62⟩
        clear w58 w59 w60 w61
        show Rl _ _ _ _ _ [iv z63, iv (z11 + 2), iv 6, .ref 895] _ _
        have w64 : Xi T3 5 7 = Xi S 5 7 := (show Xi T3 5 7 = Xi U1 5 7 from w49.x _ _ rfl).trans ((show Xi U1 5 7 = Xi S 5 7 from by rw [eU1]; rfl))
        have w65 : 0 ≤ Xi S 5 7 ∧ Xi S 5 7 ≤ 8 := hH.c _ _
        refine l_callV rfl rfl rfl (t_me_find hHT3 6 (z11 + 2) z63 ⟨by omega, by omega⟩ ⟨by omega, by omega⟩ ⟨by omega, by omega⟩ (by first | assumption | exact (LEX_FR w49 rfl rfl (LEX_FR (FR_J eU1) rfl rfl (by assumption : LEX S)))) _) ?_
        rintro _ _ ⟨rfl, z69, rfl, w69, w66, w67, w68⟩
        have w70 : z69 ≠ -1 → _ := fun h => fb6 hHT3 (w66 h)
        clear w67
        show Rl _ _ _ _ _ [iv z69] _ _
        refine l_istore_n rfl rfl rfl ?_
        refine l_iload_n rfl rfl ?_
        refine l_iconst rfl ?_
        refine l_icmp_ne rfl rfl (by unfold rg; omega) (by unfold rg; omega) (fun w71 => ?_) (fun w72 => ?_)
        · refine l_aload_n rfl rfl ?_
          refine l_gfr rfl rfl rfl rfl rfl (hHT3.r 891 2 1 rfl) ?_
          refine l_bipush rfl rfl ?_
          refine l_aload_n rfl rfl ?_
          refine l_gfr rfl rfl rfl rfl rfl (hHT3.r 891 0 876 rfl) ?_
          refine l_gfr rfl rfl rfl rfl rfl (hHT3.r 876 2 879 rfl) ?_
          refine l_iconst rfl ?_
          refine l_iload_n rfl rfl ?_
          have hWp : WI T3 := (WI_FR hHU1 w49 rfl rfl rfl rfl rfl rfl rfl rfl rfl (WI_FR hH (FR_J eU1) rfl rfl rfl rfl rfl rfl rfl rfl rfl (by assumption : WI S)))
          have hHp := hHT3
          have w73 : Xi T3 5 7 = Xi S 5 7 := (show Xi T3 5 7 = Xi U1 5 7 from w49.x _ _ rfl).trans ((show Xi U1 5 7 = Xi S 5 7 from by rw [eU1]; rfl))
          have w74 : 0 ≤ Xi S 5 7 ∧ Xi S 5 7 ≤ 8 := hH.c _ _
          refine l_callV rfl rfl rfl (t_vo_tellNew hHT3 7 879 5130 3 z11 ⟨by omega, by omega⟩ rfl ⟨by omega, by omega⟩ ⟨by omega, by omega⟩ ⟨by omega, by omega⟩ (by first | assumption | exact (LEX_FR w49 rfl rfl (LEX_FR (FR_J eU1) rfl rfl (by assumption : LEX S)))) (show Xi T3 5 7 + 1 ≤ 8 by first | omega | (have hz : Xi T3 5 7 = Xi T3 5 (7 : Int).toNat := rfl; omega)) (by first | assumption | omega) _) ?_
          rintro _ T4 ⟨hHT4, w81, z80, rfl, w80, w75, w76, w77, w78, w79⟩
          have hFT4 : FR md_re_tellVerb S T4 := FR.tr hFT3 w81 rfl
          show Rl _ _ _ _ _ [iv z80] _ _
          have hz7 : z80 = Xi T3 5 7 := by have t := (by assumption : z80 = Xi T3 5 (7 : Int).toNat); exact t
          have hc7 : Xi T4 5 7 = Xi T3 5 7 + 1 := by have t := (by assumption : Xi T4 5 (7 : Int).toNat = Xi T3 5 (7 : Int).toNat + 1); exact t
          have hWt : WI T4 := WI_tn (s := 7) hHp (by assumption : FR md_vo_tellNew T3 T4) (by assumption) (by assumption) (by assumption) (by decide) (by decide) hWp
          refine l_istore rfl rfl rfl ?_
          refine l_aload_n rfl rfl ?_
          refine l_gfr rfl rfl rfl rfl rfl (hHT4.r 891 2 1 rfl) ?_
          refine l_bipush rfl rfl ?_
          refine l_iload rfl rfl ?_
          refine l_aload_n rfl rfl ?_
          refine l_gfr rfl rfl rfl rfl rfl (hHT4.r 891 13 894 rfl) ?_
          refine l_iconst rfl ?_
          refine l_iconst rfl ?_
          have hWr : WI T4 := (by assumption : WI T4)
          have hHq := hHT4
          have w82 : 0 ≤ Xi T4 1 3 ∧ Xi T4 1 3 ≤ 200 := hHT4.c _ _
          have w83 : 0 ≤ Xi T4 5 7 ∧ Xi T4 5 7 ≤ 8 := hHT4.c _ _
          refine l_callV rfl rfl rfl (t_vo_nameIt hHT4 13 z80 894 3 0 1 ⟨by omega, by omega⟩ ⟨by omega, by omega⟩ rfl ⟨by omega, by omega⟩ ⟨by omega, by omega⟩ ⟨by omega, by omega⟩ (by first | assumption | exact (by assumption : LEX T4)) (by unfold lexB; omega) (by first | assumption | omega) _) ?_
          rintro _ T5 ⟨hHT5, w88, rfl, w84, w85, w86⟩
          have hFT5 : FR md_re_tellVerb S T5 := FR.tr hFT4 w88 rfl
          show Rl _ _ _ _ _ [] _ _
          have hWm : WI T5 := WI_nm hHq (by assumption : FR md_vo_nameIt T4 T5) (by assumption) (by assumption) hWr
          refine l_aload_n rfl rfl ?_
          refine l_gfr rfl rfl rfl rfl rfl (hHT5.r 891 2 1 rfl) ?_
          refine l_gfr rfl rfl rfl rfl rfl (hHT5.r 1 17 18 rfl) ?_
          refine l_iload rfl rfl ?_
          refine l_iload_n rfl rfl ?_
          refine l_iastore (n := 8) rfl rfl (by omega) (by omega) (by unfold rg; omega) ?_
          obtain ⟨U6, eU6⟩ : ∃ T : sS, T = uI T5 18 ((z80).toNat) (Int32.ofInt z69) := ⟨_, rfl⟩
          rw [← eU6]
          have hHU6 : HI U6 := by rw [eU6]; exact HI_w hHT5 (show 0 ≤ z69 by omega) (show z69 ≤ 5 by omega)
          have hFU6 : FR md_re_tellVerb S U6 := by rw [eU6]; exact FR.wI hFT5 (mdf_i (r := (18, 19, 0, 100000)) (List.mem_of_getElem? (i := 5) rfl) (inR_i (by omega) (by omega) (by omega) (by omega)))
          have w89 : Xi U6 18 ((z80).toNat) = z69 := by rw [eU6]; exact Xi_same (by unfold rg; omega)
          refine l_iconst rfl ?_
          refine l_ireturn rfl rfl ?_
          have w90 : Xi U6 5 7 = Xi T4 5 7 := (show Xi U6 5 7 = Xi T5 5 7 from by rw [eU6]; exact Xi_ne (by omega)).trans ((show Xi T5 5 7 = Xi T4 5 7 from w88.x _ _ rfl))
          have w91 : 0 ≤ Xi T4 5 7 ∧ Xi T4 5 7 ≤ 8 := hHT4.c _ _
          have w92 : Xi U6 876 8 = Xi T3 876 8 := (show Xi U6 876 8 = Xi T5 876 8 from by rw [eU6]; exact Xi_ne (by omega)).trans ( (show Xi T5 876 8 = Xi T4 876 8 from w88.x _ _ rfl).trans ((show Xi T4 876 8 = Xi T3 876 8 from w81.x _ _ rfl)))
          have w93 : 0 ≤ Xi T3 876 8 ∧ Xi T3 876 8 ≤ 9 := hHT3.c _ _
          exact ⟨hHU6, hFU6, _, rfl, ⟨by omega, by omega⟩, (by first | (intro hz; omega) | (intro _; assumption) | (intro _; exact (WI_FR hHT5 (FR_e eU6) rfl rfl rfl rfl rfl rfl rfl rfl rfl (by assumption : WI T5)))), (by omega)⟩
        · refine l_aload_n rfl rfl ?_
          refine l_gfr rfl rfl rfl rfl rfl (hHT3.r 891 0 876 rfl) ?_
          refine l_iconst rfl ?_
          refine l_iload_n rfl rfl ?_
          have w94 : Xi T3 5 7 = Xi S 5 7 := (show Xi T3 5 7 = Xi U1 5 7 from w49.x _ _ rfl).trans ((show Xi U1 5 7 = Xi S 5 7 from by rw [eU1]; rfl))
          have w95 : 0 ≤ Xi S 5 7 ∧ Xi S 5 7 ≤ 8 := hH.c _ _
          refine l_callV rfl rfl rfl (t_to_wrong hHT3 4 (z11 + 2) ⟨by omega, by omega⟩ ⟨by omega, by omega⟩ _) ?_
          rintro _ T7 ⟨hHT7, w99, z98, rfl, w98, w96, w97⟩
          have hFT7 : FR md_re_tellVerb S T7 := FR.tr hFT3 w99 rfl
          show Rl _ _ _ _ _ [iv z98] _ _
          refine l_ireturn rfl (retI_z (by omega)) ?_
          have w100 : Xi T7 5 7 = Xi S 5 7 := (show Xi T7 5 7 = Xi T3 5 7 from w99.x _ _ rfl).trans ( (show Xi T3 5 7 = Xi U1 5 7 from w49.x _ _ rfl).trans ((show Xi U1 5 7 = Xi S 5 7 from by rw [eU1]; rfl)))
          have w101 : 0 ≤ Xi S 5 7 ∧ Xi S 5 7 ≤ 8 := hH.c _ _
          have w102 : 0 ≤ Xi T7 876 8 ∧ Xi T7 876 8 ≤ 9 := hHT7.c _ _
          exact ⟨hHT7, hFT7, _, rfl, ⟨by omega, by omega⟩, (by first | (intro hz; omega) | (intro _; assumption) | (intro _; exact (WI_FR hHT3 w99 rfl rfl rfl rfl rfl rfl rfl rfl rfl (WI_FR hHU1 w49 rfl rfl rfl rfl rfl rfl rfl rfl rfl (WI_FR hH (FR_J eU1) rfl rfl rfl rfl rfl rfl rfl rfl rfl (by assumption : WI S)))))), (by omega)⟩
      · refine l_iconst rfl ?_
        refine l_ireturn rfl rfl ?_
        have w103 : Xi T3 5 7 = Xi S 5 7 := (show Xi T3 5 7 = Xi U1 5 7 from w49.x _ _ rfl).trans ((show Xi U1 5 7 = Xi S 5 7 from by rw [eU1]; rfl))
        have w104 : 0 ≤ Xi S 5 7 ∧ Xi S 5 7 ≤ 8 := hH.c _ _
        have w105 : 0 ≤ Xi T3 876 8 ∧ Xi T3 876 8 ≤ 9 := hHT3.c _ _
        exact ⟨hHT3, hFT3, _, rfl, ⟨by omega, by omega⟩, (by first | (intro hz; omega) | (intro _; assumption) | (intro _; exact (WI_FR hHU1 w49 rfl rfl rfl rfl rfl rfl rfl rfl rfl (WI_FR hH (FR_J eU1) rfl rfl rfl rfl rfl rfl rfl rfl rfl (by assumption : WI S))))), (by omega)⟩
    · refine l_aload_n rfl rfl ?_
      refine l_gfr rfl rfl rfl rfl rfl (hHU1.r 891 0 876 rfl) ?_
      refine l_iconst rfl ?_
      refine l_iconst rfl ?_
      have w106 : Xi U1 5 7 = Xi S 5 7 := (show Xi U1 5 7 = Xi S 5 7 from by rw [eU1]; rfl)
      have w107 : 0 ≤ Xi S 5 7 ∧ Xi S 5 7 ≤ 8 := hH.c _ _
      refine l_callV rfl rfl rfl (t_to_wrong hHU1 3 3 ⟨by omega, by omega⟩ ⟨by omega, by omega⟩ _) ?_
      rintro _ T8 ⟨hHT8, w111, z110, rfl, w110, w108, w109⟩
      have hFT8 : FR md_re_tellVerb S T8 := FR.tr hFU1 w111 rfl
      show Rl _ _ _ _ _ [iv z110] _ _
      refine l_ireturn rfl (retI_z (by omega)) ?_
      have w112 : Xi T8 5 7 = Xi S 5 7 := (show Xi T8 5 7 = Xi U1 5 7 from w111.x _ _ rfl).trans ((show Xi U1 5 7 = Xi S 5 7 from by rw [eU1]; rfl))
      have w113 : 0 ≤ Xi S 5 7 ∧ Xi S 5 7 ≤ 8 := hH.c _ _
      have w114 : 0 ≤ Xi T8 876 8 ∧ Xi T8 876 8 ≤ 9 := hHT8.c _ _
      exact ⟨hHT8, hFT8, _, rfl, ⟨by omega, by omega⟩, (by first | (intro hz; omega) | (intro _; assumption) | (intro _; exact (WI_FR hHU1 w111 rfl rfl rfl rfl rfl rfl rfl rfl rfl (WI_FR hH (FR_J eU1) rfl rfl rfl rfl rfl rfl rfl rfl rfl (by assumption : WI S))))), (by omega)⟩

