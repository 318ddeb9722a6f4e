/-! SAFETY of methods: printed by wip/safe (vc.py, decl.py) -/
def md_re_tellValues : List rec := [(1, 2, 3, 4), (2, 3, 0, 100000), (3, 4, 0, 100000), (4, 5, 0, 100000), (5, 6, 0, 100000), (8, 9, 0, 100000), (876, 877, 8, 9), (876, 877, 9, 10), (891, 892, 9, 10), (892, 893, 0, 100000), (893, 894, 0, 100000)]
abbrev Q_re_tellValues (S : sS) : pst := fun r S1 => HI S1 ∧ FR md_re_tellValues S S1 ∧ (∃ z : Int, r = some (iv z) ∧ (0 ≤ z ∧ z ≤ 1) ∧ (z = 1 → WI S1) ∧ (z = 0 → Xi S1 876 8 ≠ 0))
set_option maxRecDepth 100000 in
theorem t_re_tellValues {S : sS} (hH : HI S) (hW : WI S) (hn0 : Xi S 891 9 = 0) (d : Nat) : Mt lay0 (d + 4) m_re_tellValues [.ref 891] S (Q_re_tellValues S) := by
  refine Mt_R rfl rfl ?_
  have hF : FR md_re_tellValues S S := FR.rf
  have w1 : 0 ≤ Xi S 891 9 ∧ Xi S 891 9 ≤ 24 := hH.c _ _
  have hL := hW.1
  have hX := hW.2.1
  have h890 : -1 ≤ Xi S 890 3 ∧ Xi S 890 3 ≤ 5124 := hH.c _ _
  have hv7 := hW.2.2.2.2.2.2.2
  have C60 : ∀ (n60 : Nat) (T1 : sS) (_ : HI T1) (_ : FR md_re_tellValues S T1) (v2 : Int) (v3 : Int), (0 ≤ v2 ∧ v2 ≤ 7) → (0 ≤ v3 ∧ v3 ≤ 5129) → (WI T1) → (vals T1 v2 = vals S v2) → (vals S v2 + Xi T1 891 9 ≤ 8) → n60 = (5130 - v3).toNat → Rl lay0 (d + 3) m_re_tellValues 60 [(0, .ref 891), (2, iv v2), (3, iv v3)] [] T1 (Q_re_tellValues S) := by
    intro n60
    induction n60 using Nat.strongRecOn with
    | ind n60 ih60 =>
      intro T1 hHT1 hFT1 v2 v3 w2 w3 hW60 hv60 w4 hm60
      have w5 : Xi T1 876 7 = Xi S 876 7 := hFT1.x _ _ rfl
      have w6 : 0 ≤ Xi T1 891 9 ∧ Xi T1 891 9 ≤ 24 := hHT1.c _ _
      have C119 : ∀ (n119 : Nat) (T2 : sS) (_ : HI T2) (_ : FR md_re_tellValues S T2) (v2 : Int) (v3 : Int), (0 ≤ v2 ∧ v2 ≤ 7) → (0 ≤ v3 ∧ v3 ≤ 24) → (WI T2) → (vals T2 v2 = vals S v2 + v3) → (vals S v2 + Xi T2 891 9 ≤ 8) → (v3 ≤ Xi T2 891 9) → n119 = (25 - v3).toNat → Rl lay0 (d + 3) m_re_tellValues 119 [(0, .ref 891), (2, iv v2), (3, iv v3)] [] T2 (Q_re_tellValues S) := by
        intro n119
        induction n119 using Nat.strongRecOn with
        | ind n119 ih119 =>
          intro T2 hHT2 hFT2 v2 v3 w7 w8 hW119 hv119 w9 w10 hm119
          have w11 : Xi T2 876 7 = Xi S 876 7 := hFT2.x _ _ rfl
          have w12 : 0 ≤ Xi T2 891 9 ∧ Xi T2 891 9 ≤ 24 := hHT2.c _ _
          refine l_iload_n rfl rfl ?_
          refine l_aload_n rfl rfl ?_
          refine l_gfi rfl rfl rfl rfl rfl ?_
          refine l_icmp_ge rfl rfl (by unfold rg; omega) (by unfold rg; omega) (fun w13 => ?_) (fun w14 => ?_)
          · refine l_iconst rfl ?_
            refine l_ireturn rfl rfl ?_
            have w15 : 0 ≤ Xi T2 876 7 ∧ Xi T2 876 7 ≤ 5125 := hHT2.c _ _
            have w16 : 0 ≤ Xi T2 876 8 ∧ Xi T2 876 8 ≤ 9 := hHT2.c _ _
            have w17 : 0 ≤ Xi T2 891 9 ∧ Xi T2 891 9 ≤ 24 := hHT2.c _ _
            exact ⟨hHT2, hFT2, _, rfl, ⟨by omega, by omega⟩, (by first | (intro hz; omega) | (intro _; assumption) | (intro hz; apply_assumption; omega) | (intro _; exact (by assumption : WI T2))), (by omega)⟩
          · refine l_aload_n rfl rfl ?_
            refine l_gfr rfl rfl rfl rfl rfl (hHT2.r 891 2 1 rfl) ?_
            refine l_gfr rfl rfl rfl rfl rfl (hHT2.r 1 7 8 rfl) ?_
            refine l_aload_n rfl rfl ?_
            refine l_gfr rfl rfl rfl rfl rfl (hHT2.r 891 2 1 rfl) ?_
            refine l_iconst rfl ?_
            refine l_aload_n rfl rfl ?_
            refine l_gfr rfl rfl rfl rfl rfl (hHT2.r 891 0 876 rfl) ?_
            refine l_gfr rfl rfl rfl rfl rfl (hHT2.r 876 2 879 rfl) ?_
            refine l_aload_n rfl rfl ?_
            refine l_gfr rfl rfl rfl rfl rfl (hHT2.r 891 7 892 rfl) ?_
            refine l_iload_n rfl rfl ?_
            refine l_iaload (n := 24) rfl rfl (by omega) (by omega) (by unfold rg; omega) ?_
            have w18 : 0 ≤ (Xi T2 892 ((v3).toNat)) ∧ (Xi T2 892 ((v3).toNat)) ≤ 5130 := hHT2.c _ _
            refine l_aload_n rfl rfl ?_
            refine l_gfr rfl rfl rfl rfl rfl (hHT2.r 891 8 893 rfl) ?_
            refine l_iload_n rfl rfl ?_
            refine l_iaload (n := 24) rfl rfl (by omega) (by omega) (by unfold rg; omega) ?_
            have w19 : 0 ≤ (Xi T2 893 ((v3).toNat)) ∧ (Xi T2 893 ((v3).toNat)) ≤ 5130 := hHT2.c _ _
            have hWp : WI T2 := (by assumption : WI T2)
            have hHp := hHT2
            have h64 := val_64 (t := v2) (n := 1) hHT2 hWp.2.2.2.2.2.2.2 (by omega) (by omega) (by omega)
            have w20 : 0 ≤ Xi T2 876 7 ∧ Xi T2 876 7 ≤ 5125 := hHT2.c _ _
            have w21 : 0 ≤ Xi T2 891 9 ∧ Xi T2 891 9 ≤ 24 := hHT2.c _ _
            refine l_callV rfl rfl rfl (t_vo_tellNew hHT2 4 879 5130 (Xi T2 892 ((v3).toNat)) (Xi T2 893 ((v3).toNat)) ⟨by omega, by omega⟩ rfl ⟨by omega, by omega⟩ ⟨by omega, by omega⟩ ⟨by omega, by omega⟩ (by first | assumption | exact (by first | assumption | exact (by assumption : WI T2).1 : LEX T2)) (show Xi T2 5 4 + 1 ≤ 64 by first | omega | (have hz : Xi T2 5 4 = Xi T2 5 (4 : Int).toNat := rfl; omega)) (by first | assumption | omega) _) ?_
            rintro _ T3 ⟨hHT3, w28, z27, rfl, w27, w22, w23, w24, w25, w26⟩
            have hFT3 : FR md_re_tellValues S T3 := FR.tr hFT2 w28 rfl
            show Rl _ _ _ _ _ [iv z27, .ref 8] _ _
            have hz4 : z27 = Xi T2 5 4 := by have t := (by assumption : z27 = Xi T2 5 (4 : Int).toNat); exact t
            have hc4 : Xi T3 5 4 = Xi T2 5 4 + 1 := by have t := (by assumption : Xi T3 5 (4 : Int).toNat = Xi T2 5 (4 : Int).toNat + 1); exact t
            have ho4 : ∀ j, j ≠ 4 → Xi T3 5 j = Xi T2 5 j := by have t := (by assumption : ∀ j, j ≠ (4 : Int).toNat → Xi T3 5 j = Xi T2 5 j); exact t
            have hfr4 : FR md_vo_tellNew T2 T3 := by assumption
            have hL4 : LEX T3 := by assumption
            have h40 : 0 ≤ Xi T2 5 4 ∧ Xi T2 5 4 ≤ 64 := hHT2.c _ _
            refine l_iload_n rfl rfl ?_
            refine l_iastore (n := 64) rfl rfl (by omega) (by omega) (by unfold rg; omega) ?_
            obtain ⟨U4, eU4⟩ : ∃ T : sS, T = uI T3 8 ((z27).toNat) (Int32.ofInt v2) := ⟨_, rfl⟩
            rw [← eU4]
            have hHU4 : HI U4 := by rw [eU4]; exact HI_w hHT3 (show 0 ≤ v2 by omega) (show v2 ≤ 7 by omega)
            have hFU4 : FR md_re_tellValues S U4 := by rw [eU4]; exact FR.wI hFT3 (mdf_i (r := (8, 9, 0, 100000)) (List.mem_of_getElem? (i := 5) rfl) (inR_i (by omega) (by omega) (by omega) (by omega)))
            have w29 : Xi U4 8 ((z27).toNat) = v2 := by rw [eU4]; exact Xi_same (by unfold rg; omega)
            have hva := fun t => vals_app (t := t) (by omega) (fun j => (hfr4.cx 8 rfl j).1) hc4 eU4 hz4 (by unfold rg; omega)
            have hWv : WI U4 := WI_va hHp hfr4 hL4 hc4 ho4 eU4 hva (by omega) hWp
            refine l_iinc rfl rfl rfl rfl ?_
            refine l_goto rfl rfl ?_
            have w30 : Xi U4 876 7 = Xi T2 876 7 := (show Xi U4 876 7 = Xi T3 876 7 from by rw [eU4]; exact Xi_ne (by omega)).trans ((show Xi T3 876 7 = Xi T2 876 7 from w28.x _ _ rfl))
            have w31 : 0 ≤ Xi T2 876 7 ∧ Xi T2 876 7 ≤ 5125 := hHT2.c _ _
            have w32 : Xi U4 891 9 = Xi T2 891 9 := (show Xi U4 891 9 = Xi T3 891 9 from by rw [eU4]; exact Xi_ne (by omega)).trans ((show Xi T3 891 9 = Xi T2 891 9 from w28.x _ _ rfl))
            have w33 : 0 ≤ Xi T2 891 9 ∧ Xi T2 891 9 ≤ 24 := hHT2.c _ _
            exact Rl_weak (ih119 _ (by omega) U4 hHU4 hFU4 (v2) ((v3 + 1)) (by omega) (by omega) (by first | assumption | exact (by assumption : WI U4)) (by first | (have t := hva v2; rw [if_pos rfl] at t; omega) | omega) (by omega) (by omega) rfl) (And.intro rfl (And.intro rfl (And.intro rfl (True.intro))))
      refine l_iload_n rfl rfl ?_
      refine l_aload_n rfl rfl ?_
      refine l_gfr rfl rfl rfl rfl rfl (hHT1.r 891 0 876 rfl) ?_
      have w34 : 0 ≤ Xi T1 876 7 ∧ Xi T1 876 7 ≤ 5125 := hHT1.c _ _
      have w35 : 0 ≤ Xi T1 891 9 ∧ Xi T1 891 9 ≤ 24 := hHT1.c _ _
      refine l_callV rfl rfl rfl (t_to_lastRow hHT1 _) ?_
      rintro _ _ ⟨rfl, z37, rfl, w37, w36⟩
      show Rl _ _ _ _ _ [iv z37, iv v3] _ _
      refine l_icmp_ge rfl rfl (by unfold rg; omega) (by unfold rg; omega) (fun w38 => ?_) (fun w39 => ?_)
      · refine l_iconst rfl ?_
        refine l_istore_n rfl rfl rfl ?_
        have w40 : 0 ≤ Xi T1 876 7 ∧ Xi T1 876 7 ≤ 5125 := hHT1.c _ _
        have w41 : 0 ≤ Xi T1 891 9 ∧ Xi T1 891 9 ≤ 24 := hHT1.c _ _
        exact Rl_weak (C119 _ T1 hHT1 hFT1 (v2) (0) (by omega) (by omega) (by first | assumption | exact (by assumption : WI T1)) (by first | (have t := hva v2; rw [if_pos rfl] at t; omega) | omega) (by omega) (by omega) rfl) (And.intro rfl (And.intro rfl (And.intro rfl (True.intro))))
      · refine l_aload_n rfl rfl ?_
        refine l_gfr rfl rfl rfl rfl rfl (hHT1.r 891 0 876 rfl) ?_
        refine l_iload_n rfl rfl ?_
        refine l_iconst rfl ?_
        have w42 : 0 ≤ Xi T1 876 7 ∧ Xi T1 876 7 ≤ 5125 := hHT1.c _ _
        have w43 : 0 ≤ Xi T1 891 9 ∧ Xi T1 891 9 ≤ 24 := hHT1.c _ _
        refine l_callV rfl rfl rfl (t_to_beginsRun hHT1 v3 0 ⟨by omega, by omega⟩ ⟨by omega, by omega⟩ _) ?_
        rintro _ _ ⟨rfl, z46, rfl, w46, w44, w45⟩
        show Rl _ _ _ _ _ [iv z46] _ _
        refine l_if_eq rfl rfl (by unfold rg; omega) (fun w47 => ?_) (fun w48 => ?_)
        · refine l_iinc rfl rfl rfl rfl ?_
          refine l_goto rfl rfl ?_
          have w49 : 0 ≤ Xi T1 876 7 ∧ Xi T1 876 7 ≤ 5125 := hHT1.c _ _
          have w50 : 0 ≤ Xi T1 891 9 ∧ Xi T1 891 9 ≤ 24 := hHT1.c _ _
          exact Rl_weak (ih60 _ (by omega) T1 hHT1 hFT1 (v2) ((v3 + 1)) (by omega) (by omega) (by first | assumption | exact (by assumption : WI T1)) (by first | rfl | exact hv60 | exact (vals_fr (fun j => ((by assumption : FR md_re_takeNew T1 T1).cx 8 rfl j).1) (((by assumption : FR md_re_takeNew T1 T1).cx 5 rfl 4).1)).trans hv60) (by omega) rfl) (And.intro rfl (And.intro rfl (And.intro rfl (True.intro))))
        · refine l_aload_n rfl rfl ?_
          refine l_iload_n rfl rfl ?_
          refine l_aload_n rfl rfl ?_
          refine l_gfr rfl rfl rfl rfl rfl (hHT1.r 891 0 876 rfl) ?_
          refine l_iload_n rfl rfl ?_
          have w51 : 0 ≤ Xi T1 876 7 ∧ Xi T1 876 7 ≤ 5125 := hHT1.c _ _
          have w52 : 0 ≤ Xi T1 891 9 ∧ Xi T1 891 9 ≤ 24 := hHT1.c _ _
          refine l_callV rfl rfl rfl (t_to_runEnd hHT1 v3 ⟨by omega, by omega⟩ _) ?_
          rintro _ _ ⟨rfl, z60, rfl, w60, w53, w54, w55, w56, w57, w58, w59⟩
          clear w55 w56 w57 w58
          show Rl _ _ _ _ _ [iv z60, iv v3, .ref 891] _ _
          refine l_aload_n rfl rfl ?_
          refine l_gfr rfl rfl rfl rfl rfl (hHT1.r 891 2 1 rfl) ?_
          refine l_iload_n rfl rfl ?_
          have w61 : 0 ≤ Xi T1 876 7 ∧ Xi T1 876 7 ≤ 5125 := hHT1.c _ _
          have w62 : 0 ≤ Xi T1 891 9 ∧ Xi T1 891 9 ≤ 24 := hHT1.c _ _
          refine l_callV rfl rfl rfl (t_vo_valuesOf hHT1 v2 ⟨by omega, by omega⟩ _) ?_
          rintro _ _ ⟨rfl, z64, rfl, w64, w63⟩
          show Rl _ _ _ _ _ [iv z64, iv z60, iv v3, .ref 891] _ _
          have hvs : z64 = vals S v2 := (by assumption : z64 = vals T1 v2).trans hv60
          refine l_bipush rfl rfl ?_
          have w65 : 0 ≤ Xi T1 876 7 ∧ Xi T1 876 7 ≤ 5125 := hHT1.c _ _
          have w66 : 0 ≤ Xi T1 891 9 ∧ Xi T1 891 9 ≤ 24 := hHT1.c _ _
          refine l_callV rfl rfl rfl (t_re_takeNew hHT1 v3 z60 z64 8 ⟨by omega, by omega⟩ ⟨by omega, by omega⟩ ⟨by omega, by omega⟩ ⟨by omega, by omega⟩ (by first | assumption | exact (by first | assumption | exact (by assumption : WI T1).1 : LEX T1)) _) ?_
          rintro _ T5 ⟨hHT5, w73, z72, rfl, w72, w67, w68, w69, w70, w71⟩
          have hFT5 : FR md_re_tellValues S T5 := FR.tr hFT1 w73 rfl
          show Rl _ _ _ _ _ [iv z72] _ _
          refine l_if_ne rfl rfl (by unfold rg; omega) (fun w74 => ?_) (fun w75 => ?_)
          · refine l_iinc rfl rfl rfl rfl ?_
            refine l_goto rfl rfl ?_
            have w76 : Xi T5 876 7 = Xi T1 876 7 := (show Xi T5 876 7 = Xi T1 876 7 from w73.x _ _ rfl)
            have w77 : 0 ≤ Xi T1 876 7 ∧ Xi T1 876 7 ≤ 5125 := hHT1.c _ _
            have w78 : 0 ≤ Xi T5 891 9 ∧ Xi T5 891 9 ≤ 24 := hHT5.c _ _
            exact Rl_weak (ih60 _ (by omega) T5 hHT5 hFT5 (v2) ((v3 + 1)) (by omega) (by omega) (by first | assumption | exact (WI_FR hHT1 w73 rfl rfl rfl rfl rfl rfl rfl rfl rfl (by assumption : WI T1))) (by first | rfl | exact hv60 | exact (vals_fr (fun j => ((by assumption : FR md_re_takeNew T1 T5).cx 8 rfl j).1) (((by assumption : FR md_re_takeNew T1 T5).cx 5 rfl 4).1)).trans hv60) (by omega) rfl) (And.intro rfl (And.intro rfl (And.intro rfl (True.intro))))
          · refine l_iconst rfl ?_
            refine l_ireturn rfl rfl ?_
            have w79 : Xi T5 876 7 = Xi T1 876 7 := (show Xi T5 876 7 = Xi T1 876 7 from w73.x _ _ rfl)
            have w80 : 0 ≤ Xi T1 876 7 ∧ Xi T1 876 7 ≤ 5125 := hHT1.c _ _
            have w81 : 0 ≤ Xi T5 876 8 ∧ Xi T5 876 8 ≤ 9 := hHT5.c _ _
            have w82 : 0 ≤ Xi T5 891 9 ∧ Xi T5 891 9 ≤ 24 := hHT5.c _ _
            exact ⟨hHT5, hFT5, _, rfl, ⟨by omega, by omega⟩, (by first | (intro hz; omega) | (intro _; assumption) | (intro hz; apply_assumption; omega) | (intro _; exact (WI_FR hHT1 w73 rfl rfl rfl rfl rfl rfl rfl rfl rfl (by assumption : WI T1)))), (by omega)⟩
  refine l_aload_n rfl rfl ?_
  refine l_gfr rfl rfl rfl rfl rfl (hH.r 891 0 876 rfl) ?_
  refine l_iconst rfl ?_
  have w83 : 0 ≤ Xi S 876 7 ∧ Xi S 876 7 ≤ 5125 := hH.c _ _
  have w84 : 0 ≤ Xi S 891 9 ∧ Xi S 891 9 ≤ 24 := hH.c _ _
  refine l_callV rfl rfl rfl (t_to_behindArt hH 0 ⟨by omega, by omega⟩ _) ?_
  rintro _ _ ⟨rfl, z86, rfl, w86, w85⟩
  show Rl _ _ _ _ _ [iv z86] _ _
  refine l_istore_n rfl rfl rfl ?_
  refine l_aload_n rfl rfl ?_
  refine l_iload_n rfl rfl ?_
  have w87 : 0 ≤ Xi S 876 7 ∧ Xi S 876 7 ≤ 5125 := hH.c _ _
  have w88 : 0 ≤ Xi S 891 9 ∧ Xi S 891 9 ≤ 24 := hH.c _ _
  refine l_callV rfl rfl rfl (t_re_typeMeant hH z86 ⟨by omega, by omega⟩ (by first | assumption | exact (by first | assumption | exact (by assumption : WI S).1 : LEX S)) _) ?_
  rintro _ _ ⟨rfl, z89, rfl, w89⟩
  show Rl _ _ _ _ _ [iv z89] _ _
  refine l_istore_n rfl rfl rfl ?_
  refine l_iload_n rfl rfl ?_
  refine l_iconst rfl ?_
  refine l_icmp_eq rfl rfl (by unfold rg; omega) (by unfold rg; omega) (fun w90 => ?_) (fun w91 => ?_)
  · refine l_aload_n rfl rfl ?_
    refine l_gfr rfl rfl rfl rfl rfl (hH.r 891 0 876 rfl) ?_
    refine l_iconst rfl ?_
    refine l_iload_n rfl rfl ?_
    refine l_iconst rfl ?_
    refine l_icmp_ne rfl rfl (by unfold rg; omega) (by unfold rg; omega) (fun w92 => ?_) (fun w93 => ?_)
    · refine l_aload_n rfl rfl ?_
      have w94 : 0 ≤ Xi S 876 7 ∧ Xi S 876 7 ≤ 5125 := hH.c _ _
      have w95 : 0 ≤ Xi S 891 9 ∧ Xi S 891 9 ≤ 24 := hH.c _ _
      refine l_callV rfl rfl rfl (t_re_secondName hH _) ?_
      rintro _ _ ⟨rfl, z96, rfl, w96⟩
      show Rl _ _ _ _ _ [iv z96, iv 4, .ref 876] _ _
      have w97 : 0 ≤ Xi S 876 7 ∧ Xi S 876 7 ≤ 5125 := hH.c _ _
      have w98 : 0 ≤ Xi S 891 9 ∧ Xi S 891 9 ≤ 24 := hH.c _ _
      refine l_callV rfl rfl rfl (t_to_wrong hH 4 z96 ⟨by omega, by omega⟩ ⟨by omega, by omega⟩ _) ?_
      rintro _ T6 ⟨hHT6, w102, z101, rfl, w101, w99, w100⟩
      have hFT6 : FR md_re_tellValues S T6 := FR.tr hF w102 rfl
      show Rl _ _ _ _ _ [iv z101] _ _
      refine l_ireturn rfl (retI_z (by omega)) ?_
      have w103 : Xi T6 876 7 = Xi S 876 7 := (show Xi T6 876 7 = Xi S 876 7 from w102.x _ _ rfl)
      have w104 : 0 ≤ Xi S 876 7 ∧ Xi S 876 7 ≤ 5125 := hH.c _ _
      have w105 : 0 ≤ Xi T6 876 8 ∧ Xi T6 876 8 ≤ 9 := hHT6.c _ _
      have w106 : Xi T6 891 9 = Xi S 891 9 := (show Xi T6 891 9 = Xi S 891 9 from w102.x _ _ rfl)
      have w107 : 0 ≤ Xi S 891 9 ∧ Xi S 891 9 ≤ 24 := hH.c _ _
      exact ⟨hHT6, hFT6, _, rfl, ⟨by omega, by omega⟩, (by first | (intro hz; omega) | (intro _; assumption) | (intro hz; apply_assumption; omega) | (intro _; exact (WI_FR hH w102 rfl rfl rfl rfl rfl rfl rfl rfl rfl (by assumption : WI S)))), (by omega)⟩
    · refine l_iload_n rfl rfl ?_
      refine l_goto rfl rfl ?_
      have w108 : 0 ≤ Xi S 876 7 ∧ Xi S 876 7 ≤ 5125 := hH.c _ _
      have w109 : 0 ≤ Xi S 891 9 ∧ Xi S 891 9 ≤ 24 := hH.c _ _
      refine l_callV rfl rfl rfl (t_to_wrong hH 4 z86 ⟨by omega, by omega⟩ ⟨by omega, by omega⟩ _) ?_
      rintro _ T7 ⟨hHT7, w113, z112, rfl, w112, w110, w111⟩
      have hFT7 : FR md_re_tellValues S T7 := FR.tr hF w113 rfl
      show Rl _ _ _ _ _ [iv z112] _ _
      refine l_ireturn rfl (retI_z (by omega)) ?_
      have w114 : Xi T7 876 7 = Xi S 876 7 := (show Xi T7 876 7 = Xi S 876 7 from w113.x _ _ rfl)
      have w115 : 0 ≤ Xi S 876 7 ∧ Xi S 876 7 ≤ 5125 := hH.c _ _
      have w116 : 0 ≤ Xi T7 876 8 ∧ Xi T7 876 8 ≤ 9 := hHT7.c _ _
      have w117 : Xi T7 891 9 = Xi S 891 9 := (show Xi T7 891 9 = Xi S 891 9 from w113.x _ _ rfl)
      have w118 : 0 ≤ Xi S 891 9 ∧ Xi S 891 9 ≤ 24 := hH.c _ _
      exact ⟨hHT7, hFT7, _, rfl, ⟨by omega, by omega⟩, (by first | (intro hz; omega) | (intro _; assumption) | (intro hz; apply_assumption; omega) | (intro _; exact (WI_FR hH w113 rfl rfl rfl rfl rfl rfl rfl rfl rfl (by assumption : WI S)))), (by omega)⟩
  · refine l_aload_n rfl rfl ?_
    have w119 : 0 ≤ Xi S 876 7 ∧ Xi S 876 7 ≤ 5125 := hH.c _ _
    have w120 : 0 ≤ Xi S 891 9 ∧ Xi S 891 9 ≤ 24 := hH.c _ _
    refine l_callV rfl rfl rfl (t_re_secondName hH _) ?_
    rintro _ _ ⟨rfl, z121, rfl, w121⟩
    show Rl _ _ _ _ _ [iv z121] _ _
    refine l_iconst rfl ?_
    refine l_icmp_eq rfl rfl (by unfold rg; omega) (by unfold rg; omega) (fun w122 => ?_) (fun w123 => ?_)
    · refine l_aload_n rfl rfl ?_
      refine l_gfr rfl rfl rfl rfl rfl (hH.r 891 1 890 rfl) ?_
      refine l_gfi rfl rfl rfl rfl rfl ?_
      have w124 : -1 ≤ (Xi S 890 3) ∧ (Xi S 890 3) ≤ 5124 := hH.c _ _
      refine l_iconst rfl ?_
      refine l_iadd rfl ?_
      have hvb := hv7 z89
      refine l_istore_n rfl rfl rfl ?_
      have w125 : 0 ≤ Xi S 876 7 ∧ Xi S 876 7 ≤ 5125 := hH.c _ _
      have w126 : 0 ≤ Xi S 891 9 ∧ Xi S 891 9 ≤ 24 := hH.c _ _
      exact Rl_weak (C60 _ S hH hF (z89) (((Xi S 890 3) + 1)) (by omega) (by omega) (by first | assumption | exact (by assumption : WI S)) (by first | rfl | exact hv60 | exact (vals_fr (fun j => ((by assumption : FR md_re_takeNew S S).cx 8 rfl j).1) (((by assumption : FR md_re_takeNew S S).cx 5 rfl 4).1)).trans hv60) (by omega) rfl) (And.intro rfl (And.intro rfl (And.intro rfl (True.intro))))
    · refine l_aload_n rfl rfl ?_
      refine l_gfr rfl rfl rfl rfl rfl (hH.r 891 0 876 rfl) ?_
      refine l_iconst rfl ?_
      refine l_iload_n rfl rfl ?_
      refine l_iconst rfl ?_
      refine l_icmp_ne rfl rfl (by unfold rg; omega) (by unfold rg; omega) (fun w127 => ?_) (fun w128 => ?_)
      · refine l_aload_n rfl rfl ?_
        have w129 : 0 ≤ Xi S 876 7 ∧ Xi S 876 7 ≤ 5125 := hH.c _ _
        have w130 : 0 ≤ Xi S 891 9 ∧ Xi S 891 9 ≤ 24 := hH.c _ _
        refine l_callV rfl rfl rfl (t_re_secondName hH _) ?_
        rintro _ _ ⟨rfl, z131, rfl, w131⟩
        show Rl _ _ _ _ _ [iv z131, iv 4, .ref 876] _ _
        have w132 : 0 ≤ Xi S 876 7 ∧ Xi S 876 7 ≤ 5125 := hH.c _ _
        have w133 : 0 ≤ Xi S 891 9 ∧ Xi S 891 9 ≤ 24 := hH.c _ _
        refine l_callV rfl rfl rfl (t_to_wrong hH 4 z131 ⟨by omega, by omega⟩ ⟨by omega, by omega⟩ _) ?_
        rintro _ T8 ⟨hHT8, w137, z136, rfl, w136, w134, w135⟩
        have hFT8 : FR md_re_tellValues S T8 := FR.tr hF w137 rfl
        show Rl _ _ _ _ _ [iv z136] _ _
        refine l_ireturn rfl (retI_z (by omega)) ?_
        have w138 : Xi T8 876 7 = Xi S 876 7 := (show Xi T8 876 7 = Xi S 876 7 from w137.x _ _ rfl)
        have w139 : 0 ≤ Xi S 876 7 ∧ Xi S 876 7 ≤ 5125 := hH.c _ _
        have w140 : 0 ≤ Xi T8 876 8 ∧ Xi T8 876 8 ≤ 9 := hHT8.c _ _
        have w141 : Xi T8 891 9 = Xi S 891 9 := (show Xi T8 891 9 = Xi S 891 9 from w137.x _ _ rfl)
        have w142 : 0 ≤ Xi S 891 9 ∧ Xi S 891 9 ≤ 24 := hH.c _ _
        exact ⟨hHT8, hFT8, _, rfl, ⟨by omega, by omega⟩, (by first | (intro hz; omega) | (intro _; assumption) | (intro hz; apply_assumption; omega) | (intro _; exact (WI_FR hH w137 rfl rfl rfl rfl rfl rfl rfl rfl rfl (by assumption : WI S)))), (by omega)⟩
      · refine l_iload_n rfl rfl ?_
        refine l_goto rfl rfl ?_
        have w143 : 0 ≤ Xi S 876 7 ∧ Xi S 876 7 ≤ 5125 := hH.c _ _
        have w144 : 0 ≤ Xi S 891 9 ∧ Xi S 891 9 ≤ 24 := hH.c _ _
        refine l_callV rfl rfl rfl (t_to_wrong hH 4 z86 ⟨by omega, by omega⟩ ⟨by omega, by omega⟩ _) ?_
        rintro _ T9 ⟨hHT9, w148, z147, rfl, w147, w145, w146⟩
        have hFT9 : FR md_re_tellValues S T9 := FR.tr hF w148 rfl
        show Rl _ _ _ _ _ [iv z147] _ _
        refine l_ireturn rfl (retI_z (by omega)) ?_
        have w149 : Xi T9 876 7 = Xi S 876 7 := (show Xi T9 876 7 = Xi S 876 7 from w148.x _ _ rfl)
        have w150 : 0 ≤ Xi S 876 7 ∧ Xi S 876 7 ≤ 5125 := hH.c _ _
        have w151 : 0 ≤ Xi T9 876 8 ∧ Xi T9 876 8 ≤ 9 := hHT9.c _ _
        have w152 : Xi T9 891 9 = Xi S 891 9 := (show Xi T9 891 9 = Xi S 891 9 from w148.x _ _ rfl)
        have w153 : 0 ≤ Xi S 891 9 ∧ Xi S 891 9 ≤ 24 := hH.c _ _
        exact ⟨hHT9, hFT9, _, rfl, ⟨by omega, by omega⟩, (by first | (intro hz; omega) | (intro _; assumption) | (intro hz; apply_assumption; omega) | (intro _; exact (WI_FR hH w148 rfl rfl rfl rfl rfl rfl rfl rfl rfl (by assumption : WI S)))), (by omega)⟩

