/-! SAFETY of methods: printed by wip/safe (vc.py, decl.py) -/
def md_re_tellActions : List rec := [(1, 2, 3, 4), (2, 3, 0, 100000), (3, 4, 0, 100000), (4, 5, 0, 100000), (5, 6, 0, 100000), (19, 20, 0, 100000), (876, 877, 8, 9), (876, 877, 9, 10), (891, 892, 9, 10), (892, 893, 0, 100000), (893, 894, 0, 100000)]
abbrev Q_re_tellActions (S : sS) : pst := fun r S1 => HI S1 ∧ FR md_re_tellActions S S1 ∧ (∃ z : Int, r = some (iv z) ∧ (0 ≤ z ∧ z ≤ 1) ∧ (z = 1 → WI S1) ∧ (z = 0 → Xi S1 876 8 ≠ 0))
set_option maxRecDepth 100000 in
theorem t_re_tellActions {S : sS} (hH : HI S) (hW : WI S) (hn0 : Xi S 891 9 = 0) (d : Nat) : Mt lay0 (d + 4) m_re_tellActions [.ref 891] S (Q_re_tellActions S) := by
  refine Mt_R rfl rfl ?_
  have hF : FR md_re_tellActions S S := FR.rf
  have w1 : 0 ≤ Xi S 5 8 ∧ Xi S 5 8 ≤ 12 := hH.c _ _
  have w2 : -1 ≤ Xi S 890 3 ∧ Xi S 890 3 ≤ 5124 := hH.c _ _
  have w3 : 0 ≤ Xi S 891 9 ∧ Xi S 891 9 ≤ 24 := hH.c _ _
  have hL := hW.1
  have hX := hW.2.1
  have h890 : -1 ≤ Xi S 890 3 ∧ Xi S 890 3 ≤ 5124 := hH.c _ _
  have hc8 : 0 ≤ Xi S 5 8 ∧ Xi S 5 8 ≤ 12 := hH.c _ _
  have C10 : ∀ (n10 : Nat) (T1 : sS) (_ : HI T1) (_ : FR md_re_tellActions S T1) (v1 : Int) (v2 : Int), (-1 ≤ v1 ∧ v1 ≤ 5124) → (0 ≤ v2 ∧ v2 ≤ 5124) → (WI T1) → (Xi T1 891 9 = 0 ∨ Xi S 5 8 + Xi T1 891 9 ≤ 12) → (Xi T1 5 8 = Xi S 5 8) → (v1 = Xi S 890 3) → n10 = (5125 - v2).toNat → Rl lay0 (d + 3) m_re_tellActions 10 [(0, .ref 891), (1, iv v1), (2, iv v2)] [] T1 (Q_re_tellActions S) := by
    intro n10
    induction n10 using Nat.strongRecOn with
    | ind n10 ih10 =>
      intro T1 hHT1 hFT1 v1 v2 w4 w5 hW10 w6 w7 w8 hm10
      have w9 : Xi T1 876 7 = Xi S 876 7 := hFT1.x _ _ rfl
      have w10 : Xi T1 890 3 = Xi S 890 3 := hFT1.x _ _ rfl
      have w11 : 0 ≤ Xi T1 5 8 ∧ Xi T1 5 8 ≤ 12 := hHT1.c _ _
      have w12 : 0 ≤ Xi T1 891 9 ∧ Xi T1 891 9 ≤ 24 := hHT1.c _ _
      have C117 : ∀  (T2 : sS) (_ : HI T2) (_ : FR md_re_tellActions S T2) (v2 : Int), (-1 ≤ v2 ∧ v2 ≤ 15) → (WI T2) → (Xi T2 891 9 = 0 ∨ Xi S 5 8 + Xi T2 891 9 ≤ 12) → (Xi T2 5 8 = Xi S 5 8) → Rl lay0 (d + 3) m_re_tellActions 117 [(0, .ref 891), (2, iv v2)] [] T2 (Q_re_tellActions S) := by
        intro T2 hHT2 hFT2 v2 w13 hW117 w14 w15
        have w16 : Xi T2 876 7 = Xi S 876 7 := hFT2.x _ _ rfl
        have w17 : Xi T2 890 3 = Xi S 890 3 := hFT2.x _ _ rfl
        have w18 : 0 ≤ Xi T2 5 8 ∧ Xi T2 5 8 ≤ 12 := hHT2.c _ _
        have w19 : 0 ≤ Xi T2 891 9 ∧ Xi T2 891 9 ≤ 24 := hHT2.c _ _
        have C119 : ∀ (n119 : Nat) (T3 : sS) (_ : HI T3) (_ : FR md_re_tellActions S T3) (v2 : Int) (v3 : Int), (-1 ≤ v2 ∧ v2 ≤ 15) → (0 ≤ v3 ∧ v3 ≤ 24) → (WI T3) → (Xi T3 891 9 = 0 ∨ Xi S 5 8 + Xi T3 891 9 ≤ 12) → (Xi T3 5 8 = Xi S 5 8 + v3) → (v3 ≤ Xi T3 891 9) → n119 = (25 - v3).toNat → Rl lay0 (d + 3) m_re_tellActions 119 [(0, .ref 891), (2, iv v2), (3, iv v3)] [] T3 (Q_re_tellActions S) := by
          intro n119
          induction n119 using Nat.strongRecOn with
          | ind n119 ih119 =>
            intro T3 hHT3 hFT3 v2 v3 w20 w21 hW119 w22 w23 w24 hm119
            have w25 : Xi T3 876 7 = Xi S 876 7 := hFT3.x _ _ rfl
            have w26 : Xi T3 890 3 = Xi S 890 3 := hFT3.x _ _ rfl
            have w27 : 0 ≤ Xi T3 5 8 ∧ Xi T3 5 8 ≤ 12 := hHT3.c _ _
            have w28 : 0 ≤ Xi T3 891 9 ∧ Xi T3 891 9 ≤ 24 := hHT3.c _ _
            refine l_iload_n rfl rfl ?_
            refine l_aload_n rfl rfl ?_
            refine l_gfi rfl rfl rfl rfl rfl ?_
            refine l_icmp_ge rfl rfl (by unfold rg; omega) (by unfold rg; omega) (fun w29 => ?_) (fun w30 => ?_)
            · refine l_iconst rfl ?_
              refine l_ireturn rfl rfl ?_
              have w31 : 0 ≤ Xi T3 5 8 ∧ Xi T3 5 8 ≤ 12 := hHT3.c _ _
              have w32 : 0 ≤ Xi T3 876 8 ∧ Xi T3 876 8 ≤ 9 := hHT3.c _ _
              have w33 : 0 ≤ Xi T3 891 9 ∧ Xi T3 891 9 ≤ 24 := hHT3.c _ _
              exact ⟨hHT3, hFT3, _, rfl, ⟨by omega, by omega⟩, (by first | (intro hz; omega) | (intro _; assumption) | (intro hz; apply_assumption; omega) | (intro _; exact (by assumption : WI T3))), (by omega)⟩
            · refine l_aload_n rfl rfl ?_
              refine l_gfr rfl rfl rfl rfl rfl (hHT3.r 891 2 1 rfl) ?_
              refine l_gfr rfl rfl rfl rfl rfl (hHT3.r 1 18 19 rfl) ?_
              refine l_aload_n rfl rfl ?_
              refine l_gfr rfl rfl rfl rfl rfl (hHT3.r 891 2 1 rfl) ?_
              refine l_bipush rfl rfl ?_
              refine l_aload_n rfl rfl ?_
              refine l_gfr rfl rfl rfl rfl rfl (hHT3.r 891 0 876 rfl) ?_
              refine l_gfr rfl rfl rfl rfl rfl (hHT3.r 876 2 879 rfl) ?_
              refine l_aload_n rfl rfl ?_
              refine l_gfr rfl rfl rfl rfl rfl (hHT3.r 891 7 892 rfl) ?_
              refine l_iload_n rfl rfl ?_
              refine l_iaload (n := 24) rfl rfl (by omega) (by omega) (by unfold rg; omega) ?_
              have w34 : 0 ≤ (Xi T3 892 ((v3).toNat)) ∧ (Xi T3 892 ((v3).toNat)) ≤ 5130 := hHT3.c _ _
              refine l_aload_n rfl rfl ?_
              refine l_gfr rfl rfl rfl rfl rfl (hHT3.r 891 8 893 rfl) ?_
              refine l_iload_n rfl rfl ?_
              refine l_iaload (n := 24) rfl rfl (by omega) (by omega) (by unfold rg; omega) ?_
              have w35 : 0 ≤ (Xi T3 893 ((v3).toNat)) ∧ (Xi T3 893 ((v3).toNat)) ≤ 5130 := hHT3.c _ _
              have hWp : WI T3 := (by assumption : WI T3)
              have hHp := hHT3
              have w36 : 0 ≤ Xi T3 5 8 ∧ Xi T3 5 8 ≤ 12 := hHT3.c _ _
              have w37 : 0 ≤ Xi T3 891 9 ∧ Xi T3 891 9 ≤ 24 := hHT3.c _ _
              refine l_callV rfl rfl rfl (t_vo_tellNew hHT3 8 879 5130 (Xi T3 892 ((v3).toNat)) (Xi T3 893 ((v3).toNat)) ⟨by omega, by omega⟩ rfl ⟨by omega, by omega⟩ ⟨by omega, by omega⟩ ⟨by omega, by omega⟩ (by first | assumption | exact (by first | assumption | exact (by assumption : WI T3).1 : LEX T3)) (show Xi T3 5 8 + 1 ≤ 12 by first | omega | (have hz : Xi T3 5 8 = Xi T3 5 (8 : Int).toNat := rfl; omega)) (by first | assumption | omega) _) ?_
              rintro _ T4 ⟨hHT4, w44, z43, rfl, w43, w38, w39, w40, w41, w42⟩
              have hFT4 : FR md_re_tellActions S T4 := FR.tr hFT3 w44 rfl
              show Rl _ _ _ _ _ [iv z43, .ref 19] _ _
              have hz8 : z43 = Xi T3 5 8 := by have t := (by assumption : z43 = Xi T3 5 (8 : Int).toNat); exact t
              have hc8b : Xi T4 5 8 = Xi T3 5 8 + 1 := by have t := (by assumption : Xi T4 5 (8 : Int).toNat = Xi T3 5 (8 : Int).toNat + 1); exact t
              have ho8 : ∀ j, j ≠ 8 → Xi T4 5 j = Xi T3 5 j := by have t := (by assumption : ∀ j, j ≠ (8 : Int).toNat → Xi T4 5 j = Xi T3 5 j); exact t
              have hfr8 : FR md_vo_tellNew T3 T4 := by assumption
              have hL8 : LEX T4 := by assumption
              refine l_iload_n rfl rfl ?_
              refine l_iastore (n := 12) rfl rfl (by omega) (by omega) (by unfold rg; omega) ?_
              obtain ⟨U5, eU5⟩ : ∃ T : sS, T = uI T4 19 ((z43).toNat) (Int32.ofInt v2) := ⟨_, rfl⟩
              rw [← eU5]
              have hHU5 : HI U5 := by rw [eU5]; exact HI_w hHT4 (show -2 ≤ v2 by omega) (show v2 ≤ 15 by omega)
              have hFU5 : FR md_re_tellActions S U5 := by rw [eU5]; exact FR.wI hFT4 (mdf_i (r := (19, 20, 0, 100000)) (List.mem_of_getElem? (i := 5) rfl) (inR_i (by omega) (by omega) (by omega) (by omega)))
              have w45 : Xi U5 19 ((z43).toNat) = v2 := by rw [eU5]; exact Xi_same (by unfold rg; omega)
              have hWa : WI U5 := WI_ac hHp hfr8 hL8 hc8b ho8 eU5 hz8 hWp
              refine l_iinc rfl rfl rfl rfl ?_
              refine l_goto rfl rfl ?_
              have w46 : Xi U5 5 8 = Xi T4 5 8 := (show Xi U5 5 8 = Xi T4 5 8 from by rw [eU5]; exact Xi_ne (by omega))
              have w47 : 0 ≤ Xi T4 5 8 ∧ Xi T4 5 8 ≤ 12 := hHT4.c _ _
              have w48 : Xi U5 891 9 = Xi T3 891 9 := (show Xi U5 891 9 = Xi T4 891 9 from by rw [eU5]; exact Xi_ne (by omega)).trans ((show Xi T4 891 9 = Xi T3 891 9 from w44.x _ _ rfl))
              have w49 : 0 ≤ Xi T3 891 9 ∧ Xi T3 891 9 ≤ 24 := hHT3.c _ _
              exact Rl_weak (ih119 _ (by omega) U5 hHU5 hFU5 (v2) ((v3 + 1)) (by omega) (by omega) (by first | assumption | exact (by assumption : WI U5)) (by omega) (by omega) (by omega) rfl) (And.intro rfl (And.intro rfl (And.intro rfl (True.intro))))
        refine l_iconst rfl ?_
        refine l_istore_n rfl rfl rfl ?_
        have w50 : 0 ≤ Xi T2 5 8 ∧ Xi T2 5 8 ≤ 12 := hHT2.c _ _
        have w51 : 0 ≤ Xi T2 891 9 ∧ Xi T2 891 9 ≤ 24 := hHT2.c _ _
        exact Rl_weak (C119 _ T2 hHT2 hFT2 (v2) (0) (by omega) (by omega) (by first | assumption | exact (by assumption : WI T2)) (by omega) (by omega) (by omega) rfl) (And.intro rfl (And.intro rfl (And.intro rfl (True.intro))))
      refine l_iload_n rfl rfl ?_
      refine l_iload_n rfl rfl ?_
      refine l_icmp_ge rfl rfl (by unfold rg; omega) (by unfold rg; omega) (fun w52 => ?_) (fun w53 => ?_)
      · refine l_iconst rfl ?_
        refine l_istore_n rfl rfl rfl ?_
        refine l_aload_n rfl rfl ?_
        refine l_gfr rfl rfl rfl rfl rfl (hHT1.r 891 0 876 rfl) ?_
        refine l_iload_n rfl rfl ?_
        refine l_iconst rfl ?_
        refine l_iadd rfl ?_
        have w54 : 0 ≤ Xi T1 5 8 ∧ Xi T1 5 8 ≤ 12 := hHT1.c _ _
        have w55 : 0 ≤ Xi T1 876 7 ∧ Xi T1 876 7 ≤ 5125 := hHT1.c _ _
        have w56 : 0 ≤ Xi T1 891 9 ∧ Xi T1 891 9 ≤ 24 := hHT1.c _ _
        refine l_callV rfl rfl rfl (t_to_typeAt hHT1 (v1 + 3) ⟨by omega, by omega⟩ _) ?_
        rintro _ _ ⟨rfl, z60, rfl, w60, w57, w58, w59⟩
        clear w58 w59
        show Rl _ _ _ _ _ [iv z60] _ _
        refine l_bipush rfl rfl ?_
        refine l_icmp_ne rfl rfl (by unfold rg; omega) (by unfold rg; omega) (fun w61 => ?_) (fun w62 => ?_)
        · have w63 : 0 ≤ Xi T1 5 8 ∧ Xi T1 5 8 ≤ 12 := hHT1.c _ _
          have w64 : 0 ≤ Xi T1 891 9 ∧ Xi T1 891 9 ≤ 24 := hHT1.c _ _
          exact Rl_weak (C117 T1 hHT1 hFT1 ((-1)) (by omega) (by first | assumption | exact (by assumption : WI T1)) (by omega) (by omega)) (And.intro rfl (And.intro rfl (True.intro)))
        · refine l_aload_n rfl rfl ?_
          refine l_gfr rfl rfl rfl rfl rfl (hHT1.r 891 4 895 rfl) ?_
          refine l_iconst rfl ?_
          refine l_iload_n rfl rfl ?_
          refine l_bipush rfl rfl ?_
          refine l_iadd rfl ?_
          refine l_aload_n rfl rfl ?_
          refine l_gfr rfl rfl rfl rfl rfl (hHT1.r 891 0 876 rfl) ?_
          refine l_iload_n rfl rfl ?_
          refine l_bipush rfl rfl ?_
          refine l_iadd rfl ?_
          have w65 : 0 ≤ Xi T1 5 8 ∧ Xi T1 5 8 ≤ 12 := hHT1.c _ _
          have w66 : 0 ≤ Xi T1 876 7 ∧ Xi T1 876 7 ≤ 5125 := hHT1.c _ _
          have w67 : 0 ≤ Xi T1 891 9 ∧ Xi T1 891 9 ≤ 24 := hHT1.c _ _
          refine l_callV rfl rfl rfl (t_to_runEnd hHT1 (v1 + 6) ⟨by omega, by omega⟩ _) ?_
          rintro _ _ ⟨rfl, z75, rfl, w75, w68, w69, w70, w71, w72, w73, w74⟩
          clear w70 w71 w72 w73
          show Rl _ _ _ _ _ [iv z75, iv (v1 + 6), iv 0, .ref 895] _ _
          have w76 : 0 ≤ Xi T1 5 8 ∧ Xi T1 5 8 ≤ 12 := hHT1.c _ _
          have w77 : 0 ≤ Xi T1 891 9 ∧ Xi T1 891 9 ≤ 24 := hHT1.c _ _
          refine l_callV rfl rfl rfl (t_me_find hHT1 0 (v1 + 6) z75 ⟨by omega, by omega⟩ ⟨by omega, by omega⟩ ⟨by omega, by omega⟩ (by first | assumption | exact (by first | assumption | exact (by assumption : WI T1).1 : LEX T1)) _) ?_
          rintro _ _ ⟨rfl, z81, rfl, w81, w78, w79, w80⟩
          have w82 : z81 ≠ -1 → _ := fun h => fb0 hHT1 (w78 h)
          clear w79
          show Rl _ _ _ _ _ [iv z81] _ _
          refine l_istore_n rfl rfl rfl ?_
          refine l_iload_n rfl rfl ?_
          refine l_iconst rfl ?_
          refine l_icmp_ne rfl rfl (by unfold rg; omega) (by unfold rg; omega) (fun w83 => ?_) (fun w84 => ?_)
          · have w85 : 0 ≤ Xi T1 5 8 ∧ Xi T1 5 8 ≤ 12 := hHT1.c _ _
            have w86 : 0 ≤ Xi T1 891 9 ∧ Xi T1 891 9 ≤ 24 := hHT1.c _ _
            exact Rl_weak (C117 T1 hHT1 hFT1 (z81) (by omega) (by first | assumption | exact (by assumption : WI T1)) (by omega) (by omega)) (And.intro rfl (And.intro rfl (True.intro)))
          · refine l_aload_n rfl rfl ?_
            refine l_gfr rfl rfl rfl rfl rfl (hHT1.r 891 0 876 rfl) ?_
            refine l_iconst rfl ?_
            refine l_iload_n rfl rfl ?_
            refine l_bipush rfl rfl ?_
            refine l_iadd rfl ?_
            have w87 : 0 ≤ Xi T1 5 8 ∧ Xi T1 5 8 ≤ 12 := hHT1.c _ _
            have w88 : 0 ≤ Xi T1 891 9 ∧ Xi T1 891 9 ≤ 24 := hHT1.c _ _
            refine l_callV rfl rfl rfl (t_to_wrong hHT1 4 (v1 + 6) ⟨by omega, by omega⟩ ⟨by omega, by omega⟩ _) ?_
            rintro _ T6 ⟨hHT6, w92, z91, rfl, w91, w89, w90⟩
            have hFT6 : FR md_re_tellActions S T6 := FR.tr hFT1 w92 rfl
            show Rl _ _ _ _ _ [iv z91] _ _
            refine l_ireturn rfl (retI_z (by omega)) ?_
            have w93 : Xi T6 5 8 = Xi T1 5 8 := (show Xi T6 5 8 = Xi T1 5 8 from w92.x _ _ rfl)
            have w94 : 0 ≤ Xi T1 5 8 ∧ Xi T1 5 8 ≤ 12 := hHT1.c _ _
            have w95 : 0 ≤ Xi T6 876 8 ∧ Xi T6 876 8 ≤ 9 := hHT6.c _ _
            have w96 : Xi T6 891 9 = Xi T1 891 9 := (show Xi T6 891 9 = Xi T1 891 9 from w92.x _ _ rfl)
            have w97 : 0 ≤ Xi T1 891 9 ∧ Xi T1 891 9 ≤ 24 := hHT1.c _ _
            exact ⟨hHT6, hFT6, _, rfl, ⟨by omega, by omega⟩, (by first | (intro hz; omega) | (intro _; assumption) | (intro hz; apply_assumption; omega) | (intro _; exact (WI_FR hHT1 w92 rfl rfl rfl rfl rfl rfl rfl rfl rfl (by assumption : WI T1)))), (by omega)⟩
      · refine l_aload_n rfl rfl ?_
        refine l_iload_n rfl rfl ?_
        have w98 : 0 ≤ Xi T1 5 8 ∧ Xi T1 5 8 ≤ 12 := hHT1.c _ _
        have w99 : 0 ≤ Xi T1 876 7 ∧ Xi T1 876 7 ≤ 5125 := hHT1.c _ _
        have w100 : -1 ≤ Xi T1 890 3 ∧ Xi T1 890 3 ≤ 5124 := hHT1.c _ _
        have w101 : 0 ≤ Xi T1 891 9 ∧ Xi T1 891 9 ≤ 24 := hHT1.c _ _
        refine l_callV rfl rfl rfl (t_re_beginsName hHT1 v2 ⟨by omega, by omega⟩ _) ?_
        rintro _ _ ⟨rfl, z104, rfl, w104, w102, w103⟩
        show Rl _ _ _ _ _ [iv z104] _ _
        refine l_if_eq rfl rfl (by unfold rg; omega) (fun w105 => ?_) (fun w106 => ?_)
        · refine l_iinc rfl rfl rfl rfl ?_
          refine l_goto rfl rfl ?_
          have w107 : 0 ≤ Xi T1 5 8 ∧ Xi T1 5 8 ≤ 12 := hHT1.c _ _
          have w108 : 0 ≤ Xi T1 891 9 ∧ Xi T1 891 9 ≤ 24 := hHT1.c _ _
          exact Rl_weak (ih10 _ (by omega) T1 hHT1 hFT1 (v1) ((v2 + 1)) (by omega) (by omega) (by first | assumption | exact (by assumption : WI T1)) (by omega) (by omega) (by omega) rfl) (And.intro rfl (And.intro rfl (And.intro rfl (True.intro))))
        · refine l_aload_n rfl rfl ?_
          refine l_iload_n rfl rfl ?_
          refine l_aload_n rfl rfl ?_
          refine l_gfr rfl rfl rfl rfl rfl (hHT1.r 891 0 876 rfl) ?_
          refine l_iload_n rfl rfl ?_
          have w109 : 0 ≤ Xi T1 5 8 ∧ Xi T1 5 8 ≤ 12 := hHT1.c _ _
          have w110 : 0 ≤ Xi T1 876 7 ∧ Xi T1 876 7 ≤ 5125 := hHT1.c _ _
          have w111 : 0 ≤ Xi T1 891 9 ∧ Xi T1 891 9 ≤ 24 := hHT1.c _ _
          refine l_callV rfl rfl rfl (t_to_runEnd hHT1 v2 ⟨by omega, by omega⟩ _) ?_
          rintro _ _ ⟨rfl, z119, rfl, w119, w112, w113, w114, w115, w116, w117, w118⟩
          clear w114 w115 w116 w117
          show Rl _ _ _ _ _ [iv z119, iv v2, .ref 891] _ _
          refine l_aload_n rfl rfl ?_
          refine l_gfr rfl rfl rfl rfl rfl (hHT1.r 891 2 1 rfl) ?_
          refine l_bipush rfl rfl ?_
          have w120 : 0 ≤ Xi T1 5 8 ∧ Xi T1 5 8 ≤ 12 := hHT1.c _ _
          have w121 : 0 ≤ Xi T1 891 9 ∧ Xi T1 891 9 ≤ 24 := hHT1.c _ _
          refine l_callV rfl rfl rfl (t_vo_countOf hHT1 8 ⟨by omega, by omega⟩ _) ?_
          rintro _ _ ⟨rfl, z125, rfl, w125, w122, w123, w124⟩
          have w126 : z125 = Xi T1 5 8 ∧ 0 ≤ Xi T1 5 8 ∧ Xi T1 5 8 ≤ 12 := ⟨(w122 (by omega) (by omega)).1, hHT1.c 5 8⟩
          clear w122 w123 w124
          show Rl _ _ _ _ _ [iv z125, iv z119, iv v2, .ref 891] _ _
          refine l_bipush rfl rfl ?_
          have w127 : 0 ≤ Xi T1 5 8 ∧ Xi T1 5 8 ≤ 12 := hHT1.c _ _
          have w128 : 0 ≤ Xi T1 891 9 ∧ Xi T1 891 9 ≤ 24 := hHT1.c _ _
          refine l_callV rfl rfl rfl (t_re_takeNew hHT1 v2 z119 z125 12 ⟨by omega, by omega⟩ ⟨by omega, by omega⟩ ⟨by omega, by omega⟩ ⟨by omega, by omega⟩ (by first | assumption | exact (by first | assumption | exact (by assumption : WI T1).1 : LEX T1)) _) ?_
          rintro _ T7 ⟨hHT7, w135, z134, rfl, w134, w129, w130, w131, w132, w133⟩
          have hFT7 : FR md_re_tellActions S T7 := FR.tr hFT1 w135 rfl
          show Rl _ _ _ _ _ [iv z134] _ _
          refine l_if_ne rfl rfl (by unfold rg; omega) (fun w136 => ?_) (fun w137 => ?_)
          · refine l_iinc rfl rfl rfl rfl ?_
            refine l_goto rfl rfl ?_
            have w138 : Xi T7 5 8 = Xi T1 5 8 := (show Xi T7 5 8 = Xi T1 5 8 from w135.x _ _ rfl)
            have w139 : 0 ≤ Xi T1 5 8 ∧ Xi T1 5 8 ≤ 12 := hHT1.c _ _
            have w140 : 0 ≤ Xi T7 891 9 ∧ Xi T7 891 9 ≤ 24 := hHT7.c _ _
            exact Rl_weak (ih10 _ (by omega) T7 hHT7 hFT7 (v1) ((v2 + 1)) (by omega) (by omega) (by first | assumption | exact (WI_FR hHT1 w135 rfl rfl rfl rfl rfl rfl rfl rfl rfl (by assumption : WI T1))) (by omega) (by omega) (by omega) rfl) (And.intro rfl (And.intro rfl (And.intro rfl (True.intro))))
          · refine l_iconst rfl ?_
            refine l_ireturn rfl rfl ?_
            have w141 : Xi T7 5 8 = Xi T1 5 8 := (show Xi T7 5 8 = Xi T1 5 8 from w135.x _ _ rfl)
            have w142 : 0 ≤ Xi T1 5 8 ∧ Xi T1 5 8 ≤ 12 := hHT1.c _ _
            have w143 : 0 ≤ Xi T7 876 8 ∧ Xi T7 876 8 ≤ 9 := hHT7.c _ _
            have w144 : 0 ≤ Xi T7 891 9 ∧ Xi T7 891 9 ≤ 24 := hHT7.c _ _
            exact ⟨hHT7, hFT7, _, rfl, ⟨by omega, by omega⟩, (by first | (intro hz; omega) | (intro _; assumption) | (intro hz; apply_assumption; omega) | (intro _; exact (WI_FR hHT1 w135 rfl rfl rfl rfl rfl rfl rfl rfl rfl (by assumption : WI T1)))), (by omega)⟩
  refine l_aload_n rfl rfl ?_
  refine l_gfr rfl rfl rfl rfl rfl (hH.r 891 1 890 rfl) ?_
  refine l_gfi rfl rfl rfl rfl rfl ?_
  refine l_istore_n rfl rfl rfl ?_
  refine l_iconst rfl ?_
  refine l_istore_n rfl rfl rfl ?_
  have w145 : 0 ≤ Xi S 5 8 ∧ Xi S 5 8 ≤ 12 := hH.c _ _
  have w146 : 0 ≤ Xi S 891 9 ∧ Xi S 891 9 ≤ 24 := hH.c _ _
  exact Rl_weak (C10 _ S hH hF ((Xi S 890 3)) (0) (by omega) (by omega) (by first | assumption | exact (by assumption : WI S)) (by omega) (by omega) (by omega) rfl) (And.intro rfl (And.intro rfl (And.intro rfl (True.intro))))

