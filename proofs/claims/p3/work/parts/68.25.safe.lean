/-! SAFETY of methods: printed by wip/safe (vc.py, decl.py) -/
def md_vo_makeContrary__2 : List rec := [(10, 11, 0, 100000), (11, 12, 0, 100000)]
abbrev Q_vo_makeContrary__2 (S : sS) (first : Int) (kind : Int) : pst := fun r S1 => HI S1 ∧ FR md_vo_makeContrary__2 S S1 ∧ (r = none ∧ (Xi S1 11 first.toNat = first + 1 ∧ Xi S1 11 (first + 1).toNat = first) ∧ (∀ a : Nat, a ≠ first.toNat → a ≠ (first + 1).toNat → Xi S1 11 a = Xi S 11 a))
set_option maxRecDepth 100000 in
theorem t_vo_makeContrary__2 {S : sS} (hH : HI S) (first : Int) (kind : Int) (hfirst : 0 ≤ first ∧ first ≤ 22) (hkind : 0 ≤ kind ∧ kind ≤ 15) (d : Nat) : Mt lay0 (d + 1) m_vo_makeContrary [.ref 1, iv first, iv kind] S (Q_vo_makeContrary__2 S first kind) := by
  refine Mt_R rfl rfl ?_
  have hF : FR md_vo_makeContrary__2 S S := FR.rf
  refine l_aload_n rfl rfl ?_
  refine l_gfr rfl rfl rfl rfl rfl (hH.r 1 9 10 rfl) ?_
  refine l_iload_n rfl rfl ?_
  refine l_iload_n rfl rfl ?_
  refine l_iastore (n := 24) rfl rfl (by omega) (by omega) (by unfold rg; omega) ?_
  obtain ⟨U1, eU1⟩ : ∃ T : sS, T = uI S 10 ((first).toNat) (Int32.ofInt kind) := ⟨_, rfl⟩
  rw [← eU1]
  have hHU1 : HI U1 := by rw [eU1]; exact HI_w hH (show 0 ≤ kind by omega) (show kind ≤ 15 by omega)
  have hFU1 : FR md_vo_makeContrary__2 S U1 := by rw [eU1]; exact FR.wI hF (mdf_i (r := (10, 11, 0, 100000)) (List.mem_of_getElem? (i := 0) rfl) (inR_i (by omega) (by omega) (by omega) (by omega)))
  have w1 : Xi U1 10 ((first).toNat) = kind := by rw [eU1]; exact Xi_same (by unfold rg; omega)
  refine l_aload_n rfl rfl ?_
  refine l_gfr rfl rfl rfl rfl rfl (hHU1.r 1 9 10 rfl) ?_
  refine l_iload_n rfl rfl ?_
  refine l_iconst rfl ?_
  refine l_iadd rfl ?_
  refine l_iload_n rfl rfl ?_
  refine l_iastore (n := 24) rfl rfl (by omega) (by omega) (by unfold rg; omega) ?_
  obtain ⟨U2, eU2⟩ : ∃ T : sS, T = uI U1 10 (((first + 1)).toNat) (Int32.ofInt kind) := ⟨_, rfl⟩
  rw [← eU2]
  have hHU2 : HI U2 := by rw [eU2]; exact HI_w hHU1 (show 0 ≤ kind by omega) (show kind ≤ 15 by omega)
  have hFU2 : FR md_vo_makeContrary__2 S U2 := by rw [eU2]; exact FR.wI hFU1 (mdf_i (r := (10, 11, 0, 100000)) (List.mem_of_getElem? (i := 0) rfl) (inR_i (by omega) (by omega) (by omega) (by omega)))
  have w2 : Xi U2 10 (((first + 1)).toNat) = kind := by rw [eU2]; exact Xi_same (by unfold rg; omega)
  refine l_aload_n rfl rfl ?_
  refine l_gfr rfl rfl rfl rfl rfl (hHU2.r 1 10 11 rfl) ?_
  refine l_iload_n rfl rfl ?_
  refine l_iload_n rfl rfl ?_
  refine l_iconst rfl ?_
  refine l_iadd rfl ?_
  refine l_iastore (n := 24) rfl rfl (by omega) (by omega) (by unfold rg; omega) ?_
  obtain ⟨U3, eU3⟩ : ∃ T : sS, T = uI U2 11 ((first).toNat) (Int32.ofInt (first + 1)) := ⟨_, rfl⟩
  rw [← eU3]
  have hHU3 : HI U3 := by rw [eU3]; exact HI_w hHU2 (show -1 ≤ (first + 1) by omega) (show (first + 1) ≤ 23 by omega)
  have hFU3 : FR md_vo_makeContrary__2 S U3 := by rw [eU3]; exact FR.wI hFU2 (mdf_i (r := (11, 12, 0, 100000)) (List.mem_of_getElem? (i := 1) rfl) (inR_i (by omega) (by omega) (by omega) (by omega)))
  have w3 : Xi U3 11 ((first).toNat) = (first + 1) := by rw [eU3]; exact Xi_same (by unfold rg; omega)
  refine l_aload_n rfl rfl ?_
  refine l_gfr rfl rfl rfl rfl rfl (hHU3.r 1 10 11 rfl) ?_
  refine l_iload_n rfl rfl ?_
  refine l_iconst rfl ?_
  refine l_iadd rfl ?_
  refine l_iload_n rfl rfl ?_
  refine l_iastore (n := 24) rfl rfl (by omega) (by omega) (by unfold rg; omega) ?_
  obtain ⟨U4, eU4⟩ : ∃ T : sS, T = uI U3 11 (((first + 1)).toNat) (Int32.ofInt first) := ⟨_, rfl⟩
  rw [← eU4]
  have hHU4 : HI U4 := by rw [eU4]; exact HI_w hHU3 (show -1 ≤ first by omega) (show first ≤ 23 by omega)
  have hFU4 : FR md_vo_makeContrary__2 S U4 := by rw [eU4]; exact FR.wI hFU3 (mdf_i (r := (11, 12, 0, 100000)) (List.mem_of_getElem? (i := 1) rfl) (inR_i (by omega) (by omega) (by omega) (by omega)))
  have w4 : Xi U4 11 (((first + 1)).toNat) = first := by rw [eU4]; exact Xi_same (by unfold rg; omega)
  refine l_return rfl rfl ?_
  exact ⟨hHU4, hFU4, rfl, (⟨by rw [eU4, Xi_ne (by omega)]; omega, by omega⟩), (fun a h1 h2 => by rw [eU4, Xi_ne (by omega), eU3, Xi_ne (by omega), eU2, Xi_ne (by omega), eU1, Xi_ne (by omega)])⟩
def md_re_takeObjectOrNew__2 : List rec := [(876, 877, 8, 9), (876, 877, 9, 10), (891, 892, 9, 10), (892, 893, 0, 100000), (893, 894, 0, 100000)]
abbrev Q_re_takeObjectOrNew__2 (S : sS) (from_ : Int) (kind : Int) : pst := fun r S1 => HI S1 ∧ FR md_re_takeObjectOrNew__2 S S1 ∧ (∃ z : Int, r = some (iv z) ∧ (0 ≤ z ∧ z ≤ 1) ∧ (Xi S 891 9 ≤ Xi S1 891 9) ∧ (z = 0 → Xi S1 876 8 ≠ 0) ∧ (z = 1 → mnV S from_ (ruF S from_ (Xi S 876 7)) = -1 → Xi S1 891 9 = Xi S 891 9 + 1 ∧ Xi S1 892 (Xi S 891 9).toNat = from_ ∧ Xi S 5 2 + Xi S1 891 9 ≤ 24) ∧ (z = 1 → mnV S from_ (ruF S from_ (Xi S 876 7)) ≠ -1 → mnV S from_ (ruF S from_ (Xi S 876 7)) / 256 = 2 ∧ Xi S1 891 9 = Xi S 891 9) ∧ (∀ j : Nat, (j : Int) < Xi S 891 9 → Xi S1 892 j = Xi S 892 j))
set_option maxRecDepth 100000 in
theorem t_re_takeObjectOrNew__2 {S : sS} (hH : HI S) (from_ : Int) (kind : Int) (hfrom_ : 0 ≤ from_ ∧ from_ ≤ 5129) (hkind : -1 ≤ kind ∧ kind ≤ 15) (hL : LEX S) (d : Nat) : Mt lay0 (d + 3) m_re_takeObjectOrNew [.ref 891, iv from_, iv kind] S (Q_re_takeObjectOrNew__2 S from_ kind) := by
  refine Mt_R rfl rfl ?_
  have hF : FR md_re_takeObjectOrNew__2 S S := FR.rf
  have w1 : 0 ≤ Xi S 5 2 ∧ Xi S 5 2 ≤ 24 := hH.c _ _
  have w2 : 0 ≤ Xi S 876 7 ∧ Xi S 876 7 ≤ 5125 := hH.c _ _
  have w3 : 0 ≤ Xi S 891 9 ∧ Xi S 891 9 ≤ 24 := hH.c _ _
  have C81 : Rl lay0 (d + 2) m_re_takeObjectOrNew 81 [(0, .ref 891), (1, iv from_)] [] S (Q_re_takeObjectOrNew__2 S from_ kind) := by
    refine l_aload_n rfl rfl ?_
    refine l_gfr rfl rfl rfl rfl rfl (hH.r 891 0 876 rfl) ?_
    refine l_iconst rfl ?_
    refine l_iload_n rfl rfl ?_
    refine l_callV rfl rfl rfl (t_to_wrong hH 4 from_ ⟨by omega, by omega⟩ ⟨by omega, by omega⟩ _) ?_
    rintro _ T1 ⟨hHT1, w7, z6, rfl, w6, w4, w5⟩
    have hFT1 : FR md_re_takeObjectOrNew__2 S T1 := FR.tr hF w7 rfl
    show Rl _ _ _ _ _ [iv z6] _ _
    refine l_if_eq rfl rfl (by unfold rg; omega) (fun w8 => ?_) (fun w9 => ?_)
    · refine l_iconst rfl ?_
      refine l_ireturn rfl rfl ?_
      have w10 : 0 ≤ Xi T1 876 8 ∧ Xi T1 876 8 ≤ 9 := hHT1.c _ _
      have w11 : Xi T1 891 9 = Xi S 891 9 := (show Xi T1 891 9 = Xi S 891 9 from w7.x _ _ rfl)
      have w12 : 0 ≤ Xi S 891 9 ∧ Xi S 891 9 ≤ 24 := hH.c _ _
      exact ⟨hHT1, hFT1, _, rfl, ⟨by omega, by omega⟩, (by omega), (by omega), (by omega), (by omega), (by first | exact fun j hj => ((by assumption : ∀ j : Nat, (j : Int) < Xi S 891 9 → Xi T1 892 j = Xi S 892 j ∧ Xi T1 893 j = Xi S 893 j) j hj).1 | exact fun j _ => ((by assumption : FR md_to_wrong S T1).cx 892 rfl j).1 | exact fun j _ => rfl)⟩
    · refine l_iconst rfl ?_
      refine l_goto rfl rfl ?_
      refine l_ireturn rfl rfl ?_
      have w13 : 0 ≤ Xi T1 876 8 ∧ Xi T1 876 8 ≤ 9 := hHT1.c _ _
      have w14 : Xi T1 891 9 = Xi S 891 9 := (show Xi T1 891 9 = Xi S 891 9 from w7.x _ _ rfl)
      have w15 : 0 ≤ Xi S 891 9 ∧ Xi S 891 9 ≤ 24 := hH.c _ _
      exact ⟨hHT1, hFT1, _, rfl, ⟨by omega, by omega⟩, (by omega), (by omega), (by omega), (by omega), (by first | exact fun j hj => ((by assumption : ∀ j : Nat, (j : Int) < Xi S 891 9 → Xi T1 892 j = Xi S 892 j ∧ Xi T1 893 j = Xi S 893 j) j hj).1 | exact fun j _ => ((by assumption : FR md_to_wrong S T1).cx 892 rfl j).1 | exact fun j _ => rfl)⟩
  refine l_aload_n rfl rfl ?_
  refine l_gfr rfl rfl rfl rfl rfl (hH.r 891 0 876 rfl) ?_
  refine l_iload_n rfl rfl ?_
  have w16 : 0 ≤ Xi S 876 7 ∧ Xi S 876 7 ≤ 5125 := hH.c _ _
  refine l_callV rfl rfl rfl (t_to_runEnd hH from_ ⟨by omega, by omega⟩ _) ?_
  rintro _ _ ⟨rfl, z24, rfl, w24, w17, w18, w19, w20, w21, w22, w23⟩
  clear w19 w20 w21 w22
  show Rl _ _ _ _ _ [iv z24] _ _
  refine l_istore_n rfl rfl rfl ?_
  refine l_aload_n rfl rfl ?_
  refine l_gfr rfl rfl rfl rfl rfl (hH.r 891 2 1 rfl) ?_
  refine l_aload_n rfl rfl ?_
  refine l_gfr rfl rfl rfl rfl rfl (hH.r 891 0 876 rfl) ?_
  refine l_gfr rfl rfl rfl rfl rfl (hH.r 876 2 879 rfl) ?_
  refine l_iload_n rfl rfl ?_
  refine l_iload_n rfl rfl ?_
  refine l_callV rfl rfl rfl (t_vo_meaning hH 879 5130 from_ z24 rfl ⟨by omega, by omega⟩ ⟨by omega, by omega⟩ ⟨by omega, by omega⟩ (by first | assumption | exact (LEX_FR hF rfl rfl (by assumption : LEX S))) _) ?_
  rintro _ _ ⟨rfl, z28, rfl, w28, w25, w26, w27⟩
  show Rl _ _ _ _ _ [iv z28] _ _
  have hmnz28 := mOK_n (z := z28) (by assumption)
  have hmv : mnV S from_ (ruF S from_ (Xi S 876 7)) = z28 := by have t := mnV_of (S := S) (a := from_) (b := z24) (z := z28) (by assumption) (by assumption); rw [show z24 = ruF S from_ (Xi S 876 7) by omega] at t; exact t
  refine l_istore rfl rfl rfl ?_
  refine l_iload rfl rfl ?_
  refine l_iconst rfl ?_
  refine l_icmp_ne rfl rfl (by unfold rg; omega) (by unfold rg; omega) (fun w29 => ?_) (fun w30 => ?_)
  · refine l_iload rfl rfl ?_
    refine l_bipush rfl rfl ?_
    refine l_ishr8 rfl (by unfold rg; omega) ?_
    refine l_iconst rfl ?_
    refine l_icmp_ne rfl rfl (by unfold rg; omega) (by unfold rg; omega) (fun w32 => ?_) (fun w33 => ?_)
    · exact Rl_weak (C81  ) (And.intro rfl (And.intro rfl (True.intro)))
    · refine l_iload_n rfl rfl ?_
      refine l_iconst rfl ?_
      refine l_icmp_eq rfl rfl (by unfold rg; omega) (by unfold rg; omega) (fun w34 => ?_) (fun w35 => ?_)
      · refine l_iconst rfl ?_
        refine l_goto rfl rfl ?_
        refine l_ireturn rfl rfl ?_
        have w36 : 0 ≤ Xi S 876 8 ∧ Xi S 876 8 ≤ 9 := hH.c _ _
        have w37 : 0 ≤ Xi S 891 9 ∧ Xi S 891 9 ≤ 24 := hH.c _ _
        exact ⟨hH, hF, _, rfl, ⟨by omega, by omega⟩, (by omega), (by omega), (by omega), (by omega), (by first | exact fun j hj => ((by assumption : ∀ j : Nat, (j : Int) < Xi S 891 9 → Xi S 892 j = Xi S 892 j ∧ Xi S 893 j = Xi S 893 j) j hj).1 | exact fun j _ => ((by assumption : FR md_to_wrong S S).cx 892 rfl j).1 | exact fun j _ => rfl)⟩
      · refine l_aload_n rfl rfl ?_
        refine l_gfr rfl rfl rfl rfl rfl (hH.r 891 3 20 rfl) ?_
        refine l_iload rfl rfl ?_
        refine l_sipush rfl rfl ?_
        refine l_iand255 rfl (by unfold rg; omega) ?_
        have w39 := fb2 hH (lx (z := z28) (by assumption) (by omega) (by omega))
        refine l_iload_n rfl rfl ?_
        refine l_callV rfl rfl rfl (t_wo_isA hH (z28 % 256) kind ⟨by omega, by omega⟩ ⟨by omega, by omega⟩ _) ?_
        rintro _ _ ⟨rfl, z41, rfl, w41, w40⟩
        show Rl _ _ _ _ _ [iv z41] _ _
        refine l_if_ne rfl rfl (by unfold rg; omega) (fun w42 => ?_) (fun w43 => ?_)
        · refine l_iconst rfl ?_
          refine l_goto rfl rfl ?_
          refine l_ireturn rfl rfl ?_
          have w44 : 0 ≤ Xi S 876 8 ∧ Xi S 876 8 ≤ 9 := hH.c _ _
          have w45 : 0 ≤ Xi S 891 9 ∧ Xi S 891 9 ≤ 24 := hH.c _ _
          exact ⟨hH, hF, _, rfl, ⟨by omega, by omega⟩, (by omega), (by omega), (by omega), (by omega), (by first | exact fun j hj => ((by assumption : ∀ j : Nat, (j : Int) < Xi S 891 9 → Xi S 892 j = Xi S 892 j ∧ Xi S 893 j = Xi S 893 j) j hj).1 | exact fun j _ => ((by assumption : FR md_to_wrong S S).cx 892 rfl j).1 | exact fun j _ => rfl)⟩
        · exact Rl_weak (C81  ) (And.intro rfl (And.intro rfl (True.intro)))
  · refine l_aload_n rfl rfl ?_
    refine l_iload_n rfl rfl ?_
    refine l_iload_n rfl rfl ?_
    refine l_aload_n rfl rfl ?_
    refine l_gfr rfl rfl rfl rfl rfl (hH.r 891 2 1 rfl) ?_
    refine l_iconst rfl ?_
    refine l_callV rfl rfl rfl (t_vo_countOf hH 2 ⟨by omega, by omega⟩ _) ?_
    rintro _ _ ⟨rfl, z49, rfl, w49, w46, w47, w48⟩
    have w50 : z49 = Xi S 5 2 ∧ 0 ≤ Xi S 5 2 ∧ Xi S 5 2 ≤ 24 := ⟨(w46 (by omega) (by omega)).1, hH.c 5 2⟩
    clear w46 w47 w48
    show Rl _ _ _ _ _ [iv z49, iv z24, iv from_, .ref 891] _ _
    refine l_bipush rfl rfl ?_
    have w51 : 0 ≤ Xi S 891 9 ∧ Xi S 891 9 ≤ 24 := hH.c _ _
    refine l_callV rfl rfl rfl (t_re_takeNew hH from_ z24 z49 24 ⟨by omega, by omega⟩ ⟨by omega, by omega⟩ ⟨by omega, by omega⟩ ⟨by omega, by omega⟩ (by first | assumption | exact (LEX_FR hF rfl rfl (by assumption : LEX S))) _) ?_
    rintro _ T2 ⟨hHT2, w58, z57, rfl, w57, w52, w53, w54, w55, w56⟩
    have hFT2 : FR md_re_takeObjectOrNew__2 S T2 := FR.tr hF w58 rfl
    show Rl _ _ _ _ _ [iv z57] _ _
    refine l_ireturn rfl (retI_z (by omega)) ?_
    have w59 : 0 ≤ Xi T2 876 8 ∧ Xi T2 876 8 ≤ 9 := hHT2.c _ _
    have w60 : 0 ≤ Xi T2 891 9 ∧ Xi T2 891 9 ≤ 24 := hHT2.c _ _
    exact ⟨hHT2, hFT2, _, rfl, ⟨by omega, by omega⟩, (by omega), (by omega), (by omega), (by omega), (by first | exact fun j hj => ((by assumption : ∀ j : Nat, (j : Int) < Xi S 891 9 → Xi T2 892 j = Xi S 892 j ∧ Xi T2 893 j = Xi S 893 j) j hj).1 | exact fun j _ => ((by assumption : FR md_to_wrong S T2).cx 892 rfl j).1 | exact fun j _ => rfl)⟩
def md_re_tellWay : List rec := [(1, 2, 3, 4), (2, 3, 0, 100000), (3, 4, 0, 100000), (4, 5, 0, 100000), (5, 6, 0, 100000), (20, 21, 12, 13), (21, 22, 0, 100000), (22, 23, 0, 100000), (23, 24, 0, 100000), (196, 220, 0, 100000), (221, 245, 0, 100000), (876, 877, 8, 9), (876, 877, 9, 10), (891, 892, 9, 10), (891, 892, 10, 11), (892, 893, 0, 100000), (893, 894, 0, 100000)]
abbrev Q_re_tellWay (S : sS) : pst := fun r S1 => HI S1 ∧ FR md_re_tellWay S S1 ∧ (∃ z : Int, r = some (iv z) ∧ (0 ≤ z ∧ z ≤ 1) ∧ (z = 1 → WI S1) ∧ (z = 0 → Xi S1 876 8 ≠ 0))
set_option maxRecDepth 100000 in
theorem t_re_tellWay {S : sS} (hH : HI S) (hW : WI S) (hn0 : Xi S 891 9 = 0) (d : Nat) : Mt lay0 (d + 5) m_re_tellWay [.ref 891] S (Q_re_tellWay S) := by
  refine Mt_R rfl rfl ?_
  have hF : FR md_re_tellWay S S := FR.rf
  have w1 : 0 ≤ Xi S 891 9 ∧ Xi S 891 9 ≤ 24 := hH.c _ _
  have hL := hW.1
  have hX := hW.2.1
  refine l_aload_n rfl rfl ?_
  refine l_gfr rfl rfl rfl rfl rfl (hH.r 891 1 890 rfl) ?_
  refine l_gfi rfl rfl rfl rfl rfl ?_
  have w2 : -1 ≤ (Xi S 890 3) ∧ (Xi S 890 3) ≤ 5124 := hH.c _ _
  refine l_istore_n rfl rfl rfl ?_
  refine l_aload_n rfl rfl ?_
  refine l_gfr rfl rfl rfl rfl rfl (hH.r 891 0 876 rfl) ?_
  refine l_iconst rfl ?_
  have w3 : 0 ≤ Xi S 876 7 ∧ Xi S 876 7 ≤ 5125 := hH.c _ _
  refine l_callV rfl rfl rfl (t_to_behindArt hH 0 ⟨by omega, by omega⟩ _) ?_
  rintro _ _ ⟨rfl, z5, rfl, w5, w4⟩
  show Rl _ _ _ _ _ [iv z5] _ _
  refine l_istore_n rfl rfl rfl ?_
  refine l_aload_n rfl rfl ?_
  refine l_iload_n rfl rfl ?_
  refine l_iconst rfl ?_
  have w6 : 0 ≤ Xi S 5 2 ∧ Xi S 5 2 ≤ 24 := hH.c _ _
  have w7 : 0 ≤ Xi S 876 7 ∧ Xi S 876 7 ≤ 5125 := hH.c _ _
  have w8 : 0 ≤ Xi S 891 9 ∧ Xi S 891 9 ≤ 24 := hH.c _ _
  refine l_callV rfl rfl rfl (t_re_takeObjectOrNew__2 hH z5 1 ⟨by omega, by omega⟩ ⟨by omega, by omega⟩ (by first | assumption | exact (by first | assumption | exact (by assumption : WI S).1 : LEX S)) _) ?_
  rintro _ T1 ⟨hHT1, w15, z14, rfl, w14, w9, w10, w11, w12, w13⟩
  have hFT1 : FR md_re_tellWay S T1 := FR.tr hF w15 rfl
  show Rl _ _ _ _ _ [iv z14] _ _
  have hcw : z14 = 1 → fob T1 z5 = -1 → Xi T1 5 2 < 24 := fun q1 q2 => tw_c (z := z14) (by assumption : FR md_re_takeObjectOrNew__2 S T1) rfl rfl rfl (by assumption) (by assumption) (by omega) q1 q2
  refine l_if_ne rfl rfl (by unfold rg; omega) (fun w16 => ?_) (fun w17 => ?_)
  · refine l_aload_n rfl rfl ?_
    refine l_callV rfl rfl rfl (t_re_secondName hHT1 _) ?_
    rintro _ _ ⟨rfl, z18, rfl, w18⟩
    show Rl _ _ _ _ _ [iv z18] _ _
    refine l_iconst rfl ?_
    refine l_icmp_eq rfl rfl (by unfold rg; omega) (by unfold rg; omega) (fun w19 => ?_) (fun w20 => ?_)
    · refine l_aload_n rfl rfl ?_
      refine l_gfr rfl rfl rfl rfl rfl (hHT1.r 891 0 876 rfl) ?_
      refine l_iload_n rfl rfl ?_
      refine l_iconst rfl ?_
      refine l_iadd rfl ?_
      have w21 : Xi T1 876 7 = Xi S 876 7 := (show Xi T1 876 7 = Xi S 876 7 from w15.x _ _ rfl)
      have w22 : 0 ≤ Xi S 876 7 ∧ Xi S 876 7 ≤ 5125 := hH.c _ _
      refine l_callV rfl rfl rfl (t_to_runEnd hHT1 ((Xi S 890 3) + 1) ⟨by omega, by omega⟩ _) ?_
      rintro _ _ ⟨rfl, z30, rfl, w30, w23, w24, w25, w26, w27, w28, w29⟩
      clear w25 w26 w27 w28
      show Rl _ _ _ _ _ [iv z30] _ _
      refine l_istore_n rfl rfl rfl ?_
      refine l_aload_n rfl rfl ?_
      refine l_gfr rfl rfl rfl rfl rfl (hHT1.r 891 4 895 rfl) ?_
      refine l_bipush rfl rfl ?_
      refine l_iload_n rfl rfl ?_
      refine l_iconst rfl ?_
      refine l_iadd rfl ?_
      refine l_iload_n rfl rfl ?_
      refine l_callV rfl rfl rfl (t_me_find hHT1 14 ((Xi S 890 3) + 1) z30 ⟨by omega, by omega⟩ ⟨by omega, by omega⟩ ⟨by omega, by omega⟩ (by first | assumption | exact (LEX_FR w15 rfl rfl (by first | assumption | exact (by assumption : WI S).1 : LEX S))) _) ?_
      rintro _ _ ⟨rfl, z34, rfl, w34, w31, w32, w33⟩
      have w35 : z34 ≠ -1 → _ := fun h => fb14 hHT1 (w31 h)
      clear w32
      show Rl _ _ _ _ _ [iv z34] _ _
      refine l_istore rfl rfl rfl ?_
      refine l_iload rfl rfl ?_
      refine l_iconst rfl ?_
      refine l_icmp_ne rfl rfl (by unfold rg; omega) (by unfold rg; omega) (fun w36 => ?_) (fun w37 => ?_)
      · refine l_aload_n rfl rfl ?_
        refine l_gfr rfl rfl rfl rfl rfl (hHT1.r 891 0 876 rfl) ?_
        refine l_iload_n rfl rfl ?_
        refine l_iconst rfl ?_
        refine l_iadd rfl ?_
        have w38 : Xi T1 876 7 = Xi S 876 7 := (show Xi T1 876 7 = Xi S 876 7 from w15.x _ _ rfl)
        have w39 : 0 ≤ Xi S 876 7 ∧ Xi S 876 7 ≤ 5125 := hH.c _ _
        refine l_callV rfl rfl rfl (t_to_behindArt hHT1 (z30 + 1) ⟨by omega, by omega⟩ _) ?_
        rintro _ _ ⟨rfl, z41, rfl, w41, w40⟩
        show Rl _ _ _ _ _ [iv z41] _ _
        refine l_istore rfl rfl rfl ?_
        refine l_aload_n rfl rfl ?_
        refine l_gfr rfl rfl rfl rfl rfl (hHT1.r 891 4 895 rfl) ?_
        refine l_iconst rfl ?_
        refine l_iload rfl rfl ?_
        refine l_aload_n rfl rfl ?_
        refine l_gfr rfl rfl rfl rfl rfl (hHT1.r 891 0 876 rfl) ?_
        refine l_iload rfl rfl ?_
        have w42 : Xi T1 876 7 = Xi S 876 7 := (show Xi T1 876 7 = Xi S 876 7 from w15.x _ _ rfl)
        have w43 : 0 ≤ Xi S 876 7 ∧ Xi S 876 7 ≤ 5125 := hH.c _ _
        refine l_callV rfl rfl rfl (t_to_runEnd hHT1 z41 ⟨by omega, by omega⟩ _) ?_
        rintro _ _ ⟨rfl, z51, rfl, w51, w44, w45, w46, w47, w48, w49, w50⟩
        clear w46 w47 w48 w49
        show Rl _ _ _ _ _ [iv z51, iv z41, iv 2, .ref 895] _ _
        refine l_callV rfl rfl rfl (t_me_find hHT1 2 z41 z51 ⟨by omega, by omega⟩ ⟨by omega, by omega⟩ ⟨by omega, by omega⟩ (by first | assumption | exact (LEX_FR w15 rfl rfl (by first | assumption | exact (by assumption : WI S).1 : LEX S))) _) ?_
        rintro _ _ ⟨rfl, z55, rfl, w55, w52, w53, w54⟩
        have w56 : z55 ≠ -1 → _ := fun h => fb2 hHT1 (w52 h)
        clear w53
        show Rl _ _ _ _ _ [iv z55] _ _
        refine l_istore rfl rfl rfl ?_
        refine l_iload rfl rfl ?_
        refine l_iconst rfl ?_
        refine l_icmp_eq rfl rfl (by unfold rg; omega) (by unfold rg; omega) (fun w57 => ?_) (fun w58 => ?_)
        · refine l_aload_n rfl rfl ?_
          refine l_gfr rfl rfl rfl rfl rfl (hHT1.r 891 0 876 rfl) ?_
          refine l_iconst rfl ?_
          refine l_iload rfl rfl ?_
          refine l_callV rfl rfl rfl (t_to_wrong hHT1 4 z41 ⟨by omega, by omega⟩ ⟨by omega, by omega⟩ _) ?_
          rintro _ T2 ⟨hHT2, w62, z61, rfl, w61, w59, w60⟩
          have hFT2 : FR md_re_tellWay S T2 := FR.tr hFT1 w62 rfl
          show Rl _ _ _ _ _ [iv z61] _ _
          refine l_ireturn rfl (retI_z (by omega)) ?_
          have w63 : 0 ≤ Xi T2 876 8 ∧ Xi T2 876 8 ≤ 9 := hHT2.c _ _
          exact ⟨hHT2, hFT2, _, rfl, ⟨by omega, by omega⟩, (by first | (intro hz; omega) | (intro _; assumption) | (intro hz; apply_assumption; omega) | (intro _; exact (WI_FR hHT1 w62 rfl rfl rfl rfl rfl rfl rfl rfl rfl (WI_FR hH w15 rfl rfl rfl rfl rfl rfl rfl rfl rfl (by assumption : WI S))))), (by omega)⟩
        · refine l_aload_n rfl rfl ?_
          refine l_gfr rfl rfl rfl rfl rfl (hHT1.r 891 3 20 rfl) ?_
          refine l_iload rfl rfl ?_
          refine l_iconst rfl ?_
          refine l_callV rfl rfl rfl (t_wo_isA hHT1 z55 1 ⟨by omega, by omega⟩ ⟨by omega, by omega⟩ _) ?_
          rintro _ _ ⟨rfl, z65, rfl, w65, w64⟩
          show Rl _ _ _ _ _ [iv z65] _ _
          refine l_if_ne rfl rfl (by unfold rg; omega) (fun w66 => ?_) (fun w67 => ?_)
          · refine l_aload_n rfl rfl ?_
            refine l_aload_n rfl rfl ?_
            refine l_iload_n rfl rfl ?_
            refine l_iconst rfl ?_
            have hWp : WI T1 := (WI_FR hH w15 rfl rfl rfl rfl rfl rfl rfl rfl rfl (by assumption : WI S))
            have hHp := hHT1
            have w68 : Xi T1 5 2 = Xi S 5 2 := (show Xi T1 5 2 = Xi S 5 2 from w15.x _ _ rfl)
            have w69 : 0 ≤ Xi S 5 2 ∧ Xi S 5 2 ≤ 24 := hH.c _ _
            refine l_callV rfl rfl rfl (t_re_objectOrNew hHT1 z5 1 ⟨by omega, by omega⟩ ⟨by omega, by omega⟩ (by first | assumption | exact (LEX_FR w15 rfl rfl (by first | assumption | exact (by assumption : WI S).1 : LEX S))) (hcw (by omega)) _) ?_
            rintro _ T3 ⟨hHT3, w76, z75, rfl, w75, w70, w71, w72, w73, w74⟩
            have hFT3 : FR md_re_tellWay S T3 := FR.tr hFT1 w76 rfl
            show Rl _ _ _ _ _ [iv z75, .ref 891] _ _
            have hWo : WI T3 := WI_on hHp (by assumption : FR md_re_objectOrNew T1 T3) (by assumption) (by assumption) (by assumption) (by assumption) hWp
            refine l_pfi rfl rfl rfl rfl ?_
            obtain ⟨U4, eU4⟩ : ∃ T : sS, T = uI T3 891 10 (Int32.ofInt z75) := ⟨_, rfl⟩
            rw [← eU4]
            have hHU4 : HI U4 := by rw [eU4]; exact HI_w hHT3 (show -1 ≤ z75 by omega) (show z75 ≤ 23 by omega)
            have hFU4 : FR md_re_tellWay S U4 := by rw [eU4]; exact FR.wI hFT3 (mdf_i (r := (891, 892, 10, 11)) (List.mem_of_getElem? (i := 14) rfl) (inR_i (by omega) (by omega) (by omega) (by omega)))
            have w77 : Xi U4 891 10 = z75 := by rw [eU4]; exact Xi_same (by unfold rg; omega)
            refine l_aload_n rfl rfl ?_
            refine l_gfr rfl rfl rfl rfl rfl (hHU4.r 891 3 20 rfl) ?_
            refine l_iload rfl rfl ?_
            refine l_iload rfl rfl ?_
            refine l_aload_n rfl rfl ?_
            refine l_gfi rfl rfl rfl rfl rfl ?_
            refine l_callV rfl rfl rfl (t_wo_tellWay hHU4 z55 z34 (Xi U4 891 10) ⟨by omega, by omega⟩ ⟨by omega, by omega⟩ ⟨by omega, by omega⟩ _) ?_
            rintro _ T5 ⟨hHT5, w79, z78, rfl, w78⟩
            have hFT5 : FR md_re_tellWay S T5 := FR.tr hFU4 w79 rfl
            show Rl _ _ _ _ _ [iv z78] _ _
            refine l_if_ne rfl rfl (by unfold rg; omega) (fun w80 => ?_) (fun w81 => ?_)
            · refine l_iconst rfl ?_
              refine l_goto rfl rfl ?_
              refine l_ireturn rfl rfl ?_
              have w82 : Xi T5 876 8 = Xi T1 876 8 := (show Xi T5 876 8 = Xi U4 876 8 from w79.x _ _ rfl).trans ( (show Xi U4 876 8 = Xi T3 876 8 from by rw [eU4]; exact Xi_ne (by omega)).trans ((show Xi T3 876 8 = Xi T1 876 8 from w76.x _ _ rfl)))
              have w83 : 0 ≤ Xi T1 876 8 ∧ Xi T1 876 8 ≤ 9 := hHT1.c _ _
              exact ⟨hHT5, hFT5, _, rfl, ⟨by omega, by omega⟩, (by first | (intro hz; omega) | (intro _; assumption) | (intro hz; apply_assumption; omega) | (intro _; exact (WI_FR hHU4 w79 rfl rfl rfl rfl rfl rfl rfl rfl rfl (WI_FR hHT3 (FR_e eU4) rfl rfl rfl rfl rfl rfl rfl rfl rfl (by assumption : WI T3))))), (by omega)⟩
            · refine l_aload_n rfl rfl ?_
              refine l_gfr rfl rfl rfl rfl rfl (hHT5.r 891 0 876 rfl) ?_
              refine l_iconst rfl ?_
              refine l_iload_n rfl rfl ?_
              refine l_callV rfl rfl rfl (t_to_wrong hHT5 5 z5 ⟨by omega, by omega⟩ ⟨by omega, by omega⟩ _) ?_
              rintro _ T6 ⟨hHT6, w87, z86, rfl, w86, w84, w85⟩
              have hFT6 : FR md_re_tellWay S T6 := FR.tr hFT5 w87 rfl
              show Rl _ _ _ _ _ [iv z86] _ _
              refine l_if_eq rfl rfl (by unfold rg; omega) (fun w88 => ?_) (fun w89 => ?_)
              · refine l_iconst rfl ?_
                refine l_ireturn rfl rfl ?_
                have w90 : 0 ≤ Xi T6 876 8 ∧ Xi T6 876 8 ≤ 9 := hHT6.c _ _
                exact ⟨hHT6, hFT6, _, rfl, ⟨by omega, by omega⟩, (by first | (intro hz; omega) | (intro _; assumption) | (intro hz; apply_assumption; omega) | (intro _; exact (WI_FR hHT5 w87 rfl rfl rfl rfl rfl rfl rfl rfl rfl (WI_FR hHU4 w79 rfl rfl rfl rfl rfl rfl rfl rfl rfl (WI_FR hHT3 (FR_e eU4) rfl rfl rfl rfl rfl rfl rfl rfl rfl (by assumption : WI T3)))))), (by omega)⟩
              · refine l_iconst rfl ?_
                refine l_goto rfl rfl ?_
                refine l_ireturn rfl rfl ?_
                have w91 : 0 ≤ Xi T6 876 8 ∧ Xi T6 876 8 ≤ 9 := hHT6.c _ _
                exact ⟨hHT6, hFT6, _, rfl, ⟨by omega, by omega⟩, (by first | (intro hz; omega) | (intro _; assumption) | (intro hz; apply_assumption; omega) | (intro _; exact (WI_FR hHT5 w87 rfl rfl rfl rfl rfl rfl rfl rfl rfl (WI_FR hHU4 w79 rfl rfl rfl rfl rfl rfl rfl rfl rfl (WI_FR hHT3 (FR_e eU4) rfl rfl rfl rfl rfl rfl rfl rfl rfl (by assumption : WI T3)))))), (by omega)⟩
          · refine l_aload_n rfl rfl ?_
            refine l_gfr rfl rfl rfl rfl rfl (hHT1.r 891 0 876 rfl) ?_
            refine l_iconst rfl ?_
            refine l_iload rfl rfl ?_
            refine l_callV rfl rfl rfl (t_to_wrong hHT1 4 z41 ⟨by omega, by omega⟩ ⟨by omega, by omega⟩ _) ?_
            rintro _ T7 ⟨hHT7, w95, z94, rfl, w94, w92, w93⟩
            have hFT7 : FR md_re_tellWay S T7 := FR.tr hFT1 w95 rfl
            show Rl _ _ _ _ _ [iv z94] _ _
            refine l_ireturn rfl (retI_z (by omega)) ?_
            have w96 : 0 ≤ Xi T7 876 8 ∧ Xi T7 876 8 ≤ 9 := hHT7.c _ _
            exact ⟨hHT7, hFT7, _, rfl, ⟨by omega, by omega⟩, (by first | (intro hz; omega) | (intro _; assumption) | (intro hz; apply_assumption; omega) | (intro _; exact (WI_FR hHT1 w95 rfl rfl rfl rfl rfl rfl rfl rfl rfl (WI_FR hH w15 rfl rfl rfl rfl rfl rfl rfl rfl rfl (by assumption : WI S))))), (by omega)⟩
      · refine l_aload_n rfl rfl ?_
        refine l_gfr rfl rfl rfl rfl rfl (hHT1.r 891 0 876 rfl) ?_
        refine l_iconst rfl ?_
        refine l_iload_n rfl rfl ?_
        refine l_iconst rfl ?_
        refine l_iadd rfl ?_
        refine l_callV rfl rfl rfl (t_to_wrong hHT1 4 ((Xi S 890 3) + 1) ⟨by omega, by omega⟩ ⟨by omega, by omega⟩ _) ?_
        rintro _ T8 ⟨hHT8, w100, z99, rfl, w99, w97, w98⟩
        have hFT8 : FR md_re_tellWay S T8 := FR.tr hFT1 w100 rfl
        show Rl _ _ _ _ _ [iv z99] _ _
        refine l_ireturn rfl (retI_z (by omega)) ?_
        have w101 : 0 ≤ Xi T8 876 8 ∧ Xi T8 876 8 ≤ 9 := hHT8.c _ _
        exact ⟨hHT8, hFT8, _, rfl, ⟨by omega, by omega⟩, (by first | (intro hz; omega) | (intro _; assumption) | (intro hz; apply_assumption; omega) | (intro _; exact (WI_FR hHT1 w100 rfl rfl rfl rfl rfl rfl rfl rfl rfl (WI_FR hH w15 rfl rfl rfl rfl rfl rfl rfl rfl rfl (by assumption : WI S))))), (by omega)⟩
    · refine l_aload_n rfl rfl ?_
      refine l_gfr rfl rfl rfl rfl rfl (hHT1.r 891 0 876 rfl) ?_
      refine l_iconst rfl ?_
      refine l_aload_n rfl rfl ?_
      refine l_callV rfl rfl rfl (t_re_secondName hHT1 _) ?_
      rintro _ _ ⟨rfl, z102, rfl, w102⟩
      show Rl _ _ _ _ _ [iv z102, iv 4, .ref 876] _ _
      refine l_callV rfl rfl rfl (t_to_wrong hHT1 4 z102 ⟨by omega, by omega⟩ ⟨by omega, by omega⟩ _) ?_
      rintro _ T9 ⟨hHT9, w106, z105, rfl, w105, w103, w104⟩
      have hFT9 : FR md_re_tellWay S T9 := FR.tr hFT1 w106 rfl
      show Rl _ _ _ _ _ [iv z105] _ _
      refine l_ireturn rfl (retI_z (by omega)) ?_
      have w107 : 0 ≤ Xi T9 876 8 ∧ Xi T9 876 8 ≤ 9 := hHT9.c _ _
      exact ⟨hHT9, hFT9, _, rfl, ⟨by omega, by omega⟩, (by first | (intro hz; omega) | (intro _; assumption) | (intro hz; apply_assumption; omega) | (intro _; exact (WI_FR hHT1 w106 rfl rfl rfl rfl rfl rfl rfl rfl rfl (WI_FR hH w15 rfl rfl rfl rfl rfl rfl rfl rfl rfl (by assumption : WI S))))), (by omega)⟩
  · refine l_iconst rfl ?_
    refine l_ireturn rfl rfl ?_
    have w108 : 0 ≤ Xi T1 876 8 ∧ Xi T1 876 8 ≤ 9 := hHT1.c _ _
    exact ⟨hHT1, hFT1, _, rfl, ⟨by omega, by omega⟩, (by first | (intro hz; omega) | (intro _; assumption) | (intro hz; apply_assumption; omega) | (intro _; exact (WI_FR hH w15 rfl rfl rfl rfl rfl rfl rfl rfl rfl (by assumption : WI S)))), (by omega)⟩
def md_re_tellHas : List rec := [(1, 2, 3, 4), (2, 3, 0, 100000), (3, 4, 0, 100000), (4, 5, 0, 100000), (5, 6, 0, 100000), (7, 8, 0, 100000), (9, 10, 0, 100000), (876, 877, 8, 9), (876, 877, 9, 10), (891, 892, 9, 10), (892, 893, 0, 100000), (893, 894, 0, 100000)]
abbrev Q_re_tellHas (S : sS) : pst := fun r S1 => HI S1 ∧ FR md_re_tellHas S S1 ∧ (∃ z : Int, r = some (iv z) ∧ (0 ≤ z ∧ z ≤ 1) ∧ (z = 1 → WI S1) ∧ (z = 0 → Xi S1 876 8 ≠ 0))
set_option maxRecDepth 100000 in
theorem t_re_tellHas {S : sS} (hH : HI S) (hW : WI S) (hn0 : Xi S 891 9 = 0) (d : Nat) : Mt lay0 (d + 4) m_re_tellHas [.ref 891] S (Q_re_tellHas S) := by
  refine Mt_R rfl rfl ?_
  have hF : FR md_re_tellHas S S := FR.rf
  have w1 : 0 ≤ Xi S 5 5 ∧ Xi S 5 5 ≤ 12 := hH.c _ _
  have w2 : 0 ≤ Xi S 891 9 ∧ Xi S 891 9 ≤ 24 := hH.c _ _
  have hL := hW.1
  have hX := hW.2.1
  have hc1 : 0 ≤ Xi S 5 1 ∧ Xi S 5 1 ≤ 8 := hH.c _ _
  have hc5 : 0 ≤ Xi S 5 5 ∧ Xi S 5 5 ≤ 12 := hH.c _ _
  have h890 : -1 ≤ Xi S 890 3 ∧ Xi S 890 3 ≤ 5124 := hH.c _ _
  have C126 : ∀  (v1 : Int) (v4 : Int) (v5 : Int) (v6 : Int) (v7 : Int), (0 ≤ v1 ∧ v1 ≤ 1) → (2 ≤ v4 ∧ v4 ≤ 5127) → (2 ≤ v5 ∧ v5 ≤ 5127) → (0 ≤ v6 ∧ v6 ≤ 15) → (-1 ≤ v7 ∧ v7 ≤ 3647) → (v7 % 256 ≤ 7 ∧ 0 ≤ v7 % 256) → Rl lay0 (d + 3) m_re_tellHas 126 [(0, .ref 891), (1, iv v1), (4, iv v4), (5, iv v5), (6, iv v6), (7, iv v7)] [] S (Q_re_tellHas S) := by
    intro v1 v4 v5 v6 v7 w3 w4 w5 w6 w7 w8
    have C175 : ∀  (T1 : sS) (_ : HI T1) (_ : FR md_re_tellHas S T1) (v1 : Int) (v4 : Int) (v5 : Int) (v6 : Int) (v7 : Int) (v8 : Int), (0 ≤ v1 ∧ v1 ≤ 1) → (2 ≤ v4 ∧ v4 ≤ 5127) → (2 ≤ v5 ∧ v5 ≤ 5127) → (0 ≤ v6 ∧ v6 ≤ 15) → (-1 ≤ v7 ∧ v7 ≤ 3647) → (-1 ≤ v8 ∧ v8 ≤ 3647) → (WI T1) → (v7 % 256 ≤ 7 ∧ 0 ≤ v7 % 256) → (v8 = -1 → Xi S 5 5 < 12) → (v8 / 256 = 5 → v8 % 256 < Xi S 5 5 ∧ 0 ≤ v8 % 256) → (Xi T1 5 5 = Xi S 5 5) → Rl lay0 (d + 3) m_re_tellHas 175 [(0, .ref 891), (1, iv v1), (4, iv v4), (5, iv v5), (6, iv v6), (7, iv v7), (8, iv v8)] [] T1 (Q_re_tellHas S) := by
      intro T1 hHT1 hFT1 v1 v4 v5 v6 v7 v8 w9 w10 w11 w12 w13 w14 hW175 w15 w16 w17 w18
      have w19 : Xi T1 876 7 = Xi S 876 7 := hFT1.x _ _ rfl
      have w20 : 0 ≤ Xi T1 5 5 ∧ Xi T1 5 5 ≤ 12 := hHT1.c _ _
      have C201 : ∀  (v1 : Int) (v4 : Int) (v5 : Int) (v6 : Int) (v7 : Int) (v8 : Int), (0 ≤ v1 ∧ v1 ≤ 1) → (2 ≤ v4 ∧ v4 ≤ 5127) → (2 ≤ v5 ∧ v5 ≤ 5127) → (0 ≤ v6 ∧ v6 ≤ 15) → (-1 ≤ v7 ∧ v7 ≤ 3647) → (-1 ≤ v8 ∧ v8 ≤ 3647) → (WI T1) → (v7 % 256 ≤ 7 ∧ 0 ≤ v7 % 256) → (v8 = -1 → Xi S 5 5 < 12) → (v8 = -1 ∨ (v8 % 256 < Xi S 5 5 ∧ 0 ≤ v8 % 256)) → (Xi T1 5 5 = Xi S 5 5) → Rl lay0 (d + 3) m_re_tellHas 201 [(0, .ref 891), (1, iv v1), (4, iv v4), (5, iv v5), (6, iv v6), (7, iv v7), (8, iv v8)] [] T1 (Q_re_tellHas S) := by
        intro v1 v4 v5 v6 v7 v8 w21 w22 w23 w24 w25 w26 hW201 w27 w28 w29 w30
        have C252 : ∀  (T2 : sS) (_ : HI T2) (_ : FR md_re_tellHas S T2) (v1 : Int) (v6 : Int) (v7 : Int) (v9 : Int), (0 ≤ v1 ∧ v1 ≤ 1) → (0 ≤ v6 ∧ v6 ≤ 15) → (-1 ≤ v7 ∧ v7 ≤ 3647) → (0 ≤ v9 ∧ v9 ≤ 11) → (WI T2) → (v7 % 256 ≤ 7 ∧ 0 ≤ v7 % 256) → (0 ≤ v9 ∧ v9 ≤ 11) → Rl lay0 (d + 3) m_re_tellHas 252 [(0, .ref 891), (1, iv v1), (6, iv v6), (7, iv v7), (9, iv v9)] [] T2 (Q_re_tellHas S) := by
          intro T2 hHT2 hFT2 v1 v6 v7 v9 w31 w32 w33 w34 hW252 w35 w36
          have w37 : Xi T2 876 7 = Xi S 876 7 := hFT2.x _ _ rfl
          refine l_aload_n rfl rfl ?_
          refine l_gfr rfl rfl rfl rfl rfl (hHT2.r 891 2 1 rfl) ?_
          refine l_gfr rfl rfl rfl rfl rfl (hHT2.r 1 8 9 rfl) ?_
          refine l_iload rfl rfl ?_
          refine l_iaload (n := 12) rfl rfl (by omega) (by omega) (by unfold rg; omega) ?_
          have w38 : 0 ≤ (Xi T2 9 ((v9).toNat)) ∧ (Xi T2 9 ((v9).toNat)) ≤ 7 := hHT2.c _ _
          refine l_iload rfl rfl ?_
          refine l_sipush rfl rfl ?_
          refine l_iand255 rfl (by unfold rg; omega) ?_
          refine l_icmp_eq rfl rfl (by unfold rg; omega) (by unfold rg; omega) (fun w40 => ?_) (fun w41 => ?_)
          · refine l_aload_n rfl rfl ?_
            refine l_gfr rfl rfl rfl rfl rfl (hHT2.r 891 2 1 rfl) ?_
            refine l_gfr rfl rfl rfl rfl rfl (hHT2.r 1 6 7 rfl) ?_
            refine l_iload rfl rfl ?_
            refine l_dup2 rfl rfl ?_
            refine l_iaload (n := 16) rfl rfl (by omega) (by omega) (by unfold rg; omega) ?_
            have w42 : -2147483648 ≤ (Xi T2 7 ((v6).toNat)) ∧ (Xi T2 7 ((v6).toNat)) ≤ 2147483647 := Xi_rgI
            refine l_iconst rfl ?_
            refine l_iload rfl rfl ?_
            refine l_ishlF rfl ?_
            have w43 : -2147483648 ≤ (ishlF 1 v9) ∧ (ishlF 1 v9) ≤ 2147483647 := ishlF_rg
            refine l_iorF rfl ?_
            have w44 : -2147483648 ≤ (iorF (Xi T2 7 ((v6).toNat)) (ishlF 1 v9)) ∧ (iorF (Xi T2 7 ((v6).toNat)) (ishlF 1 v9)) ≤ 2147483647 := iorF_rg
            have w44b : (0 : Int) ≤ (Xi T2 7 ((v6).toNat)) → (0 : Int) ≤ (ishlF 1 v9) → 0 ≤ (iorF (Xi T2 7 ((v6).toNat)) (ishlF 1 v9)) := iorF_nn (by unfold rg; omega) (by unfold rg; omega)
            refine l_iastore (n := 16) rfl rfl (by omega) (by omega) (by unfold rg; omega) ?_
            obtain ⟨U3, eU3⟩ : ∃ T : sS, T = uI T2 7 ((v6).toNat) (Int32.ofInt (iorF (Xi T2 7 ((v6).toNat)) (ishlF 1 v9))) := ⟨_, rfl⟩
            rw [← eU3]
            have hHU3 : HI U3 := by rw [eU3]; exact HI_any hHT2 (rfl)
            have hFU3 : FR md_re_tellHas S U3 := by rw [eU3]; exact FR.wI hFT2 (mdf_i (r := (7, 8, 0, 100000)) (List.mem_of_getElem? (i := 5) rfl) (inR_i (by omega) (by omega) (by omega) (by omega)))
            have w45 : Xi U3 7 ((v6).toNat) = (iorF (Xi T2 7 ((v6).toNat)) (ishlF 1 v9)) := by rw [eU3]; exact Xi_same (by unfold rg; omega)
            refine l_iconst rfl ?_
            refine l_ireturn rfl rfl ?_
            have w46 : Xi U3 5 5 = Xi T2 5 5 := (show Xi U3 5 5 = Xi T2 5 5 from by rw [eU3]; exact Xi_ne (by omega))
            have w47 : 0 ≤ Xi T2 5 5 ∧ Xi T2 5 5 ≤ 12 := hHT2.c _ _
            have w48 : Xi U3 876 8 = Xi T2 876 8 := (show Xi U3 876 8 = Xi T2 876 8 from by rw [eU3]; exact Xi_ne (by omega))
            have w49 : 0 ≤ Xi T2 876 8 ∧ Xi T2 876 8 ≤ 9 := hHT2.c _ _
            exact ⟨hHU3, hFU3, _, rfl, ⟨by omega, by omega⟩, (by first | (intro hz; omega) | (intro _; assumption) | (intro hz; apply_assumption; omega) | (intro _; exact (WI_FR hHT2 (FR_e eU3) rfl rfl rfl rfl rfl rfl rfl rfl rfl (by assumption : WI T2)))), (by omega)⟩
          · refine l_aload_n rfl rfl ?_
            refine l_gfr rfl rfl rfl rfl rfl (hHT2.r 891 0 876 rfl) ?_
            refine l_iconst rfl ?_
            refine l_iload_n rfl rfl ?_
            have w50 : 0 ≤ Xi T2 5 5 ∧ Xi T2 5 5 ≤ 12 := hHT2.c _ _
            refine l_callV rfl rfl rfl (t_to_wrong hHT2 5 v1 ⟨by omega, by omega⟩ ⟨by omega, by omega⟩ _) ?_
            rintro _ T4 ⟨hHT4, w54, z53, rfl, w53, w51, w52⟩
            have hFT4 : FR md_re_tellHas S T4 := FR.tr hFT2 w54 rfl
            show Rl _ _ _ _ _ [iv z53] _ _
            refine l_ireturn rfl (retI_z (by omega)) ?_
            have w55 : Xi T4 5 5 = Xi T2 5 5 := (show Xi T4 5 5 = Xi T2 5 5 from w54.x _ _ rfl)
            have w56 : 0 ≤ Xi T2 5 5 ∧ Xi T2 5 5 ≤ 12 := hHT2.c _ _
            have w57 : 0 ≤ Xi T4 876 8 ∧ Xi T4 876 8 ≤ 9 := hHT4.c _ _
            exact ⟨hHT4, hFT4, _, rfl, ⟨by omega, by omega⟩, (by first | (intro hz; omega) | (intro _; assumption) | (intro hz; apply_assumption; omega) | (intro _; exact (WI_FR hHT2 w54 rfl rfl rfl rfl rfl rfl rfl rfl rfl (by assumption : WI T2)))), (by omega)⟩
        refine l_iload rfl rfl ?_
        refine l_sipush rfl rfl ?_
        refine l_iand255 rfl (by unfold rg; omega) ?_
        refine l_istore rfl rfl rfl ?_
        refine l_iload rfl rfl ?_
        refine l_iconst rfl ?_
        refine l_icmp_ne rfl rfl (by unfold rg; omega) (by unfold rg; omega) (fun w59 => ?_) (fun w60 => ?_)
        · have w61 : 0 ≤ Xi T1 5 5 ∧ Xi T1 5 5 ≤ 12 := hHT1.c _ _
          exact Rl_weak (C252 T1 hHT1 hFT1 (v1) (v6) (v7) ((v8 % 256)) (by omega) (by omega) (by omega) (by omega) (by first | assumption | exact (by assumption : WI T1)) (by omega) (by omega)) (And.intro rfl (And.intro rfl (And.intro rfl (And.intro rfl (And.intro rfl (True.intro))))))
        · refine l_aload_n rfl rfl ?_
          refine l_gfr rfl rfl rfl rfl rfl (hHT1.r 891 2 1 rfl) ?_
          refine l_iconst rfl ?_
          refine l_aload_n rfl rfl ?_
          refine l_gfr rfl rfl rfl rfl rfl (hHT1.r 891 0 876 rfl) ?_
          refine l_gfr rfl rfl rfl rfl rfl (hHT1.r 876 2 879 rfl) ?_
          refine l_iload rfl rfl ?_
          refine l_iload rfl rfl ?_
          have hWp : WI T1 := (by assumption : WI T1)
          have hHp := hHT1
          have w62 : 0 ≤ Xi T1 5 5 ∧ Xi T1 5 5 ≤ 12 := hHT1.c _ _
          refine l_callV rfl rfl rfl (t_vo_tellNew hHT1 5 879 5130 v4 v5 ⟨by omega, by omega⟩ rfl ⟨by omega, by omega⟩ ⟨by omega, by omega⟩ ⟨by omega, by omega⟩ (by first | assumption | exact (by first | assumption | exact (by assumption : WI T1).1 : LEX T1)) (show Xi T1 5 5 + 1 ≤ 12 by first | omega | (have hz : Xi T1 5 5 = Xi T1 5 (5 : Int).toNat := rfl; omega)) (by first | assumption | omega) _) ?_
          rintro _ T5 ⟨hHT5, w69, z68, rfl, w68, w63, w64, w65, w66, w67⟩
          have hFT5 : FR md_re_tellHas S T5 := FR.tr hFT1 w69 rfl
          show Rl _ _ _ _ _ [iv z68] _ _
          have hz5 : z68 = Xi T1 5 5 := by have t := (by assumption : z68 = Xi T1 5 (5 : Int).toNat); exact t
          have hc5 : Xi T5 5 5 = Xi T1 5 5 + 1 := by have t := (by assumption : Xi T5 5 (5 : Int).toNat = Xi T1 5 (5 : Int).toNat + 1); exact t
          have hWt : WI T5 := WI_tn (s := 5) hHp (by assumption : FR md_vo_tellNew T1 T5) (by assumption) (by assumption) (by assumption) (by decide) (by decide) hWp
          refine l_istore rfl rfl rfl ?_
          refine l_aload_n rfl rfl ?_
          refine l_gfr rfl rfl rfl rfl rfl (hHT5.r 891 2 1 rfl) ?_
          refine l_gfr rfl rfl rfl rfl rfl (hHT5.r 1 8 9 rfl) ?_
          refine l_iload rfl rfl ?_
          refine l_iload rfl rfl ?_
          refine l_sipush rfl rfl ?_
          refine l_iand255 rfl (by unfold rg; omega) ?_
          refine l_iastore (n := 12) rfl rfl (by omega) (by omega) (by unfold rg; omega) ?_
          obtain ⟨U6, eU6⟩ : ∃ T : sS, T = uI T5 9 ((z68).toNat) (Int32.ofInt (v7 % 256)) := ⟨_, rfl⟩
          rw [← eU6]
          have hHU6 : HI U6 := by rw [eU6]; exact HI_w hHT5 (show 0 ≤ (v7 % 256) by omega) (show (v7 % 256) ≤ 7 by omega)
          have hFU6 : FR md_re_tellHas S U6 := by rw [eU6]; exact FR.wI hFT5 (mdf_i (r := (9, 10, 0, 100000)) (List.mem_of_getElem? (i := 6) rfl) (inR_i (by omega) (by omega) (by omega) (by omega)))
          have w71 : Xi U6 9 ((z68).toNat) = (v7 % 256) := by rw [eU6]; exact Xi_same (by unfold rg; omega)
          have w72 : Xi U6 5 5 = Xi T5 5 5 := (show Xi U6 5 5 = Xi T5 5 5 from by rw [eU6]; exact Xi_ne (by omega))
          have w73 : 0 ≤ Xi T5 5 5 ∧ Xi T5 5 5 ≤ 12 := hHT5.c _ _
          exact Rl_weak (C252 U6 hHU6 hFU6 (v1) (v6) (v7) (z68) (by omega) (by omega) (by omega) (by omega) (by first | assumption | exact (WI_FR hHT5 (FR_e eU6) rfl rfl rfl rfl rfl rfl rfl rfl rfl (by assumption : WI T5))) (by omega) (by omega)) (And.intro rfl (And.intro rfl (And.intro rfl (And.intro rfl (And.intro rfl (True.intro))))))
      refine l_iload rfl rfl ?_
      refine l_iconst rfl ?_
      refine l_icmp_eq rfl rfl (by unfold rg; omega) (by unfold rg; omega) (fun w74 => ?_) (fun w75 => ?_)
      · have w76 : 0 ≤ Xi T1 5 5 ∧ Xi T1 5 5 ≤ 12 := hHT1.c _ _
        exact Rl_weak (C201 (v1) (v4) (v5) (v6) (v7) (v8) (by omega) (by omega) (by omega) (by omega) (by omega) (by omega) (by first | assumption | exact (by assumption : WI T1)) (by omega) (by omega) (by omega) (by omega)) (And.intro rfl (And.intro rfl (And.intro rfl (And.intro rfl (And.intro rfl (And.intro rfl (And.intro rfl (True.intro))))))))
      · refine l_iload rfl rfl ?_
        refine l_bipush rfl rfl ?_
        refine l_ishr8 rfl (by unfold rg; omega) ?_
        refine l_iconst rfl ?_
        refine l_icmp_eq rfl rfl (by unfold rg; omega) (by unfold rg; omega) (fun w78 => ?_) (fun w79 => ?_)
        · have w80 : 0 ≤ Xi T1 5 5 ∧ Xi T1 5 5 ≤ 12 := hHT1.c _ _
          exact Rl_weak (C201 (v1) (v4) (v5) (v6) (v7) (v8) (by omega) (by omega) (by omega) (by omega) (by omega) (by omega) (by first | assumption | exact (by assumption : WI T1)) (by omega) (by omega) (by omega) (by omega)) (And.intro rfl (And.intro rfl (And.intro rfl (And.intro rfl (And.intro rfl (And.intro rfl (And.intro rfl (True.intro))))))))
        · refine l_aload_n rfl rfl ?_
          refine l_gfr rfl rfl rfl rfl rfl (hHT1.r 891 0 876 rfl) ?_
          refine l_iconst rfl ?_
          refine l_iload rfl rfl ?_
          have w81 : 0 ≤ Xi T1 5 5 ∧ Xi T1 5 5 ≤ 12 := hHT1.c _ _
          refine l_callV rfl rfl rfl (t_to_wrong hHT1 4 v4 ⟨by omega, by omega⟩ ⟨by omega, by omega⟩ _) ?_
          rintro _ T7 ⟨hHT7, w85, z84, rfl, w84, w82, w83⟩
          have hFT7 : FR md_re_tellHas S T7 := FR.tr hFT1 w85 rfl
          show Rl _ _ _ _ _ [iv z84] _ _
          refine l_ireturn rfl (retI_z (by omega)) ?_
          have w86 : Xi T7 5 5 = Xi T1 5 5 := (show Xi T7 5 5 = Xi T1 5 5 from w85.x _ _ rfl)
          have w87 : 0 ≤ Xi T1 5 5 ∧ Xi T1 5 5 ≤ 12 := hHT1.c _ _
          have w88 : 0 ≤ Xi T7 876 8 ∧ Xi T7 876 8 ≤ 9 := hHT7.c _ _
          exact ⟨hHT7, hFT7, _, rfl, ⟨by omega, by omega⟩, (by first | (intro hz; omega) | (intro _; assumption) | (intro hz; apply_assumption; omega) | (intro _; exact (WI_FR hHT1 w85 rfl rfl rfl rfl rfl rfl rfl rfl rfl (by assumption : WI T1)))), (by omega)⟩
    refine l_aload_n rfl rfl ?_
    refine l_gfr rfl rfl rfl rfl rfl (hH.r 891 2 1 rfl) ?_
    refine l_aload_n rfl rfl ?_
    refine l_gfr rfl rfl rfl rfl rfl (hH.r 891 0 876 rfl) ?_
    refine l_gfr rfl rfl rfl rfl rfl (hH.r 876 2 879 rfl) ?_
    refine l_iload rfl rfl ?_
    refine l_iload rfl rfl ?_
    have w89 : 0 ≤ Xi S 5 5 ∧ Xi S 5 5 ≤ 12 := hH.c _ _
    refine l_callV rfl rfl rfl (t_vo_meaning hH 879 5130 v4 v5 rfl ⟨by omega, by omega⟩ ⟨by omega, by omega⟩ ⟨by omega, by omega⟩ (by first | assumption | exact (by first | assumption | exact (by assumption : WI S).1 : LEX S)) _) ?_
    rintro _ _ ⟨rfl, z93, rfl, w93, w90, w91, w92⟩
    show Rl _ _ _ _ _ [iv z93] _ _
    have hmnz93 := mOK_n (z := z93) (by assumption)
    have hfb5 : z93 / 256 = 5 → z93 % 256 < Xi S 5 5 ∧ 0 ≤ z93 % 256 := fun e => ⟨(fb5 hH (lx (by assumption) e (by omega))).2.2, (fb5 hH (lx (by assumption) e (by omega))).1⟩
    refine l_istore rfl rfl rfl ?_
    refine l_iload rfl rfl ?_
    refine l_iconst rfl ?_
    refine l_icmp_ne rfl rfl (by unfold rg; omega) (by unfold rg; omega) (fun w94 => ?_) (fun w95 => ?_)
    · have w96 : 0 ≤ Xi S 5 5 ∧ Xi S 5 5 ≤ 12 := hH.c _ _
      exact Rl_weak (C175 S hH hF (v1) (v4) (v5) (v6) (v7) (z93) (by omega) (by omega) (by omega) (by omega) (by omega) (by omega) (by first | assumption | exact (by assumption : WI S)) (by omega) (by omega) (by omega) (by omega)) (And.intro rfl (And.intro rfl (And.intro rfl (And.intro rfl (And.intro rfl (And.intro rfl (And.intro rfl (True.intro))))))))
    · refine l_aload_n rfl rfl ?_
      refine l_iload rfl rfl ?_
      refine l_iload rfl rfl ?_
      refine l_aload_n rfl rfl ?_
      refine l_gfr rfl rfl rfl rfl rfl (hH.r 891 2 1 rfl) ?_
      refine l_iconst rfl ?_
      have w97 : 0 ≤ Xi S 5 5 ∧ Xi S 5 5 ≤ 12 := hH.c _ _
      refine l_callV rfl rfl rfl (t_vo_countOf hH 5 ⟨by omega, by omega⟩ _) ?_
      rintro _ _ ⟨rfl, z101, rfl, w101, w98, w99, w100⟩
      have w102 : z101 = Xi S 5 5 ∧ 0 ≤ Xi S 5 5 ∧ Xi S 5 5 ≤ 12 := ⟨(w98 (by omega) (by omega)).1, hH.c 5 5⟩
      clear w98 w99 w100
      show Rl _ _ _ _ _ [iv z101, iv v5, iv v4, .ref 891] _ _
      refine l_bipush rfl rfl ?_
      have w103 : 0 ≤ Xi S 5 5 ∧ Xi S 5 5 ≤ 12 := hH.c _ _
      have w104 : 0 ≤ Xi S 891 9 ∧ Xi S 891 9 ≤ 24 := hH.c _ _
      refine l_callV rfl rfl rfl (t_re_takeNew hH v4 v5 z101 12 ⟨by omega, by omega⟩ ⟨by omega, by omega⟩ ⟨by omega, by omega⟩ ⟨by omega, by omega⟩ (by first | assumption | exact (by first | assumption | exact (by assumption : WI S).1 : LEX S)) _) ?_
      rintro _ T8 ⟨hHT8, w111, z110, rfl, w110, w105, w106, w107, w108, w109⟩
      have hFT8 : FR md_re_tellHas S T8 := FR.tr hF w111 rfl
      show Rl _ _ _ _ _ [iv z110] _ _
      refine l_if_ne rfl rfl (by unfold rg; omega) (fun w112 => ?_) (fun w113 => ?_)
      · have w114 : Xi T8 5 5 = Xi S 5 5 := (show Xi T8 5 5 = Xi S 5 5 from w111.x _ _ rfl)
        have w115 : 0 ≤ Xi S 5 5 ∧ Xi S 5 5 ≤ 12 := hH.c _ _
        exact Rl_weak (C175 T8 hHT8 hFT8 (v1) (v4) (v5) (v6) (v7) (z93) (by omega) (by omega) (by omega) (by omega) (by omega) (by omega) (by first | assumption | exact (WI_FR hH w111 rfl rfl rfl rfl rfl rfl rfl rfl rfl (by assumption : WI S))) (by omega) (by omega) (by omega) (by omega)) (And.intro rfl (And.intro rfl (And.intro rfl (And.intro rfl (And.intro rfl (And.intro rfl (And.intro rfl (True.intro))))))))
      · refine l_iconst rfl ?_
        refine l_ireturn rfl rfl ?_
        have w116 : Xi T8 5 5 = Xi S 5 5 := (show Xi T8 5 5 = Xi S 5 5 from w111.x _ _ rfl)
        have w117 : 0 ≤ Xi S 5 5 ∧ Xi S 5 5 ≤ 12 := hH.c _ _
        have w118 : 0 ≤ Xi T8 876 8 ∧ Xi T8 876 8 ≤ 9 := hHT8.c _ _
        exact ⟨hHT8, hFT8, _, rfl, ⟨by omega, by omega⟩, (by first | (intro hz; omega) | (intro _; assumption) | (intro hz; apply_assumption; omega) | (intro _; exact (WI_FR hH w111 rfl rfl rfl rfl rfl rfl rfl rfl rfl (by assumption : WI S)))), (by omega)⟩
  refine l_aload_n rfl rfl ?_
  refine l_gfr rfl rfl rfl rfl rfl (hH.r 891 0 876 rfl) ?_
  refine l_iconst rfl ?_
  have w119 : 0 ≤ Xi S 5 5 ∧ Xi S 5 5 ≤ 12 := hH.c _ _
  have w120 : 0 ≤ Xi S 876 7 ∧ Xi S 876 7 ≤ 5125 := hH.c _ _
  refine l_callV rfl rfl rfl (t_to_behindArt hH 0 ⟨by omega, by omega⟩ _) ?_
  rintro _ _ ⟨rfl, z122, rfl, w122, w121⟩
  show Rl _ _ _ _ _ [iv z122] _ _
  refine l_istore_n rfl rfl rfl ?_
  refine l_aload_n rfl rfl ?_
  refine l_gfr rfl rfl rfl rfl rfl (hH.r 891 1 890 rfl) ?_
  refine l_gfi rfl rfl rfl rfl rfl ?_
  have w123 : -1 ≤ (Xi S 890 3) ∧ (Xi S 890 3) ≤ 5124 := hH.c _ _
  refine l_iconst rfl ?_
  refine l_iadd rfl ?_
  refine l_istore_n rfl rfl rfl ?_
  refine l_aload_n rfl rfl ?_
  refine l_gfr rfl rfl rfl rfl rfl (hH.r 891 0 876 rfl) ?_
  refine l_iload_n rfl rfl ?_
  have w124 : 0 ≤ Xi S 5 5 ∧ Xi S 5 5 ≤ 12 := hH.c _ _
  have w125 : 0 ≤ Xi S 876 7 ∧ Xi S 876 7 ≤ 5125 := hH.c _ _
  refine l_callV rfl rfl rfl (t_to_runEnd hH ((Xi S 890 3) + 2) ⟨by omega, by omega⟩ _) ?_
  rintro _ _ ⟨rfl, z133, rfl, w133, w126, w127, w128, w129, w130, w131, w132⟩
  clear w128 w129 w130 w131
  show Rl _ _ _ _ _ [iv z133] _ _
  refine l_istore_n rfl rfl rfl ?_
  refine l_iload_n rfl rfl ?_
  refine l_iconst rfl ?_
  refine l_iadd rfl ?_
  refine l_istore rfl rfl rfl ?_
  refine l_aload_n rfl rfl ?_
  refine l_gfr rfl rfl rfl rfl rfl (hH.r 891 0 876 rfl) ?_
  refine l_iload rfl rfl ?_
  have w134 : 0 ≤ Xi S 5 5 ∧ Xi S 5 5 ≤ 12 := hH.c _ _
  have w135 : 0 ≤ Xi S 876 7 ∧ Xi S 876 7 ≤ 5125 := hH.c _ _
  refine l_callV rfl rfl rfl (t_to_runEnd hH (z133 + 1) ⟨by omega, by omega⟩ _) ?_
  rintro _ _ ⟨rfl, z143, rfl, w143, w136, w137, w138, w139, w140, w141, w142⟩
  clear w138 w139 w140 w141
  show Rl _ _ _ _ _ [iv z143] _ _
  refine l_istore rfl rfl rfl ?_
  refine l_aload_n rfl rfl ?_
  refine l_gfr rfl rfl rfl rfl rfl (hH.r 891 4 895 rfl) ?_
  refine l_iconst rfl ?_
  refine l_iload_n rfl rfl ?_
  refine l_aload_n rfl rfl ?_
  refine l_gfr rfl rfl rfl rfl rfl (hH.r 891 0 876 rfl) ?_
  refine l_iload_n rfl rfl ?_
  have w144 : 0 ≤ Xi S 5 5 ∧ Xi S 5 5 ≤ 12 := hH.c _ _
  have w145 : 0 ≤ Xi S 876 7 ∧ Xi S 876 7 ≤ 5125 := hH.c _ _
  refine l_callV rfl rfl rfl (t_to_runEnd hH z122 ⟨by omega, by omega⟩ _) ?_
  rintro _ _ ⟨rfl, z153, rfl, w153, w146, w147, w148, w149, w150, w151, w152⟩
  clear w148 w149 w150 w151
  show Rl _ _ _ _ _ [iv z153, iv z122, iv 0, .ref 895] _ _
  have w154 : 0 ≤ Xi S 5 5 ∧ Xi S 5 5 ≤ 12 := hH.c _ _
  refine l_callV rfl rfl rfl (t_me_find hH 0 z122 z153 ⟨by omega, by omega⟩ ⟨by omega, by omega⟩ ⟨by omega, by omega⟩ (by first | assumption | exact (by first | assumption | exact (by assumption : WI S).1 : LEX S)) _) ?_
  rintro _ _ ⟨rfl, z158, rfl, w158, w155, w156, w157⟩
  have w159 : z158 ≠ -1 → _ := fun h => fb0 hH (w155 h)
  clear w156
  show Rl _ _ _ _ _ [iv z158] _ _
  refine l_istore rfl rfl rfl ?_
  refine l_iload rfl rfl ?_
  refine l_iconst rfl ?_
  refine l_icmp_ne rfl rfl (by unfold rg; omega) (by unfold rg; omega) (fun w160 => ?_) (fun w161 => ?_)
  · refine l_aload_n rfl rfl ?_
    refine l_gfr rfl rfl rfl rfl rfl (hH.r 891 2 1 rfl) ?_
    refine l_aload_n rfl rfl ?_
    refine l_gfr rfl rfl rfl rfl rfl (hH.r 891 0 876 rfl) ?_
    refine l_gfr rfl rfl rfl rfl rfl (hH.r 876 2 879 rfl) ?_
    refine l_iload_n rfl rfl ?_
    refine l_iload_n rfl rfl ?_
    have w162 : 0 ≤ Xi S 5 5 ∧ Xi S 5 5 ≤ 12 := hH.c _ _
    refine l_callV rfl rfl rfl (t_vo_meaning hH 879 5130 ((Xi S 890 3) + 2) z133 rfl ⟨by omega, by omega⟩ ⟨by omega, by omega⟩ ⟨by omega, by omega⟩ (by first | assumption | exact (by first | assumption | exact (by assumption : WI S).1 : LEX S)) _) ?_
    rintro _ _ ⟨rfl, z166, rfl, w166, w163, w164, w165⟩
    show Rl _ _ _ _ _ [iv z166] _ _
    have hmnz166 := mOK_n (z := z166) (by assumption)
    have hfb1 : z166 / 256 = 1 → z166 % 256 < Xi S 5 1 ∧ 0 ≤ z166 % 256 := fun e => ⟨(fb1 hH (lx (by assumption) e (by omega))).2.2, (fb1 hH (lx (by assumption) e (by omega))).1⟩
    have hfb12 : z166 / 256 = 12 → z166 % 256 < Xi S 5 1 ∧ 0 ≤ z166 % 256 := fun e => ⟨(fb12 hH (lx (by assumption) e (by omega))).2.2, (fb12 hH (lx (by assumption) e (by omega))).1⟩
    refine l_istore rfl rfl rfl ?_
    refine l_iload rfl rfl ?_
    refine l_bipush rfl rfl ?_
    refine l_ishr8 rfl (by unfold rg; omega) ?_
    refine l_iconst rfl ?_
    refine l_icmp_eq rfl rfl (by unfold rg; omega) (by unfold rg; omega) (fun w168 => ?_) (fun w169 => ?_)
    · have w170 : 0 ≤ Xi S 5 5 ∧ Xi S 5 5 ≤ 12 := hH.c _ _
      exact Rl_weak (C126 (z122) ((z133 + 1)) (z143) (z158) (z166) (by omega) (by omega) (by omega) (by omega) (by omega) (by omega)) (And.intro rfl (And.intro rfl (And.intro rfl (And.intro rfl (And.intro rfl (And.intro rfl (True.intro)))))))
    · refine l_iload rfl rfl ?_
      refine l_bipush rfl rfl ?_
      refine l_ishr8 rfl (by unfold rg; omega) ?_
      refine l_bipush rfl rfl ?_
      refine l_icmp_eq rfl rfl (by unfold rg; omega) (by unfold rg; omega) (fun w172 => ?_) (fun w173 => ?_)
      · have w174 : 0 ≤ Xi S 5 5 ∧ Xi S 5 5 ≤ 12 := hH.c _ _
        exact Rl_weak (C126 (z122) ((z133 + 1)) (z143) (z158) (z166) (by omega) (by omega) (by omega) (by omega) (by omega) (by omega)) (And.intro rfl (And.intro rfl (And.intro rfl (And.intro rfl (And.intro rfl (And.intro rfl (True.intro)))))))
      · refine l_aload_n rfl rfl ?_
        refine l_gfr rfl rfl rfl rfl rfl (hH.r 891 0 876 rfl) ?_
        refine l_iconst rfl ?_
        refine l_iload_n rfl rfl ?_
        have w175 : 0 ≤ Xi S 5 5 ∧ Xi S 5 5 ≤ 12 := hH.c _ _
        refine l_callV rfl rfl rfl (t_to_wrong hH 4 ((Xi S 890 3) + 2) ⟨by omega, by omega⟩ ⟨by omega, by omega⟩ _) ?_
        rintro _ T9 ⟨hHT9, w179, z178, rfl, w178, w176, w177⟩
        have hFT9 : FR md_re_tellHas S T9 := FR.tr hF w179 rfl
        show Rl _ _ _ _ _ [iv z178] _ _
        refine l_ireturn rfl (retI_z (by omega)) ?_
        have w180 : Xi T9 5 5 = Xi S 5 5 := (show Xi T9 5 5 = Xi S 5 5 from w179.x _ _ rfl)
        have w181 : 0 ≤ Xi S 5 5 ∧ Xi S 5 5 ≤ 12 := hH.c _ _
        have w182 : 0 ≤ Xi T9 876 8 ∧ Xi T9 876 8 ≤ 9 := hHT9.c _ _
        exact ⟨hHT9, hFT9, _, rfl, ⟨by omega, by omega⟩, (by first | (intro hz; omega) | (intro _; assumption) | (intro hz; apply_assumption; omega) | (intro _; exact (WI_FR hH w179 rfl rfl rfl rfl rfl rfl rfl rfl rfl (by assumption : WI S)))), (by omega)⟩
  · refine l_aload_n rfl rfl ?_
    refine l_gfr rfl rfl rfl rfl rfl (hH.r 891 0 876 rfl) ?_
    refine l_iconst rfl ?_
    refine l_iload_n rfl rfl ?_
    have w183 : 0 ≤ Xi S 5 5 ∧ Xi S 5 5 ≤ 12 := hH.c _ _
    refine l_callV rfl rfl rfl (t_to_wrong hH 4 z122 ⟨by omega, by omega⟩ ⟨by omega, by omega⟩ _) ?_
    rintro _ T10 ⟨hHT10, w187, z186, rfl, w186, w184, w185⟩
    have hFT10 : FR md_re_tellHas S T10 := FR.tr hF w187 rfl
    show Rl _ _ _ _ _ [iv z186] _ _
    refine l_ireturn rfl (retI_z (by omega)) ?_
    have w188 : Xi T10 5 5 = Xi S 5 5 := (show Xi T10 5 5 = Xi S 5 5 from w187.x _ _ rfl)
    have w189 : 0 ≤ Xi S 5 5 ∧ Xi S 5 5 ≤ 12 := hH.c _ _
    have w190 : 0 ≤ Xi T10 876 8 ∧ Xi T10 876 8 ≤ 9 := hHT10.c _ _
    exact ⟨hHT10, hFT10, _, rfl, ⟨by omega, by omega⟩, (by first | (intro hz; omega) | (intro _; assumption) | (intro hz; apply_assumption; omega) | (intro _; exact (WI_FR hH w187 rfl rfl rfl rfl rfl rfl rfl rfl rfl (by assumption : WI S)))), (by omega)⟩
def md_re_tellCan : List rec := [(1, 2, 3, 4), (2, 3, 0, 100000), (3, 4, 0, 100000), (4, 5, 0, 100000), (5, 6, 0, 100000), (10, 11, 0, 100000), (11, 12, 0, 100000), (876, 877, 8, 9), (876, 877, 9, 10), (891, 892, 9, 10), (892, 893, 0, 100000), (893, 894, 0, 100000)]
abbrev Q_re_tellCan (S : sS) : pst := fun r S1 => HI S1 ∧ FR md_re_tellCan S S1 ∧ (∃ z : Int, r = some (iv z) ∧ (0 ≤ z ∧ z ≤ 1) ∧ (z = 1 → WI S1) ∧ (z = 0 → Xi S1 876 8 ≠ 0))
set_option maxRecDepth 100000 in
theorem t_re_tellCan {S : sS} (hH : HI S) (hW : WI S) (hn0 : Xi S 891 9 = 0) (d : Nat) : Mt lay0 (d + 4) m_re_tellCan [.ref 891] S (Q_re_tellCan S) := by
  refine Mt_R rfl rfl ?_
  have hF : FR md_re_tellCan S S := FR.rf
  have w1 : 0 ≤ Xi S 891 9 ∧ Xi S 891 9 ≤ 24 := hH.c _ _
  have hL := hW.1
  have hX := hW.2.1
  have h890 : -1 ≤ Xi S 890 3 ∧ Xi S 890 3 ≤ 5124 := hH.c _ _
  have hc3 : 0 ≤ Xi S 5 3 ∧ Xi S 5 3 ≤ 24 := hH.c _ _
  refine l_aload_n rfl rfl ?_
  refine l_gfr rfl rfl rfl rfl rfl (hH.r 891 0 876 rfl) ?_
  refine l_iconst rfl ?_
  have w2 : 0 ≤ Xi S 5 3 ∧ Xi S 5 3 ≤ 24 := hH.c _ _
  have w3 : 0 ≤ Xi S 876 7 ∧ Xi S 876 7 ≤ 5125 := hH.c _ _
  refine l_callV rfl rfl rfl (t_to_behindArt hH 0 ⟨by omega, by omega⟩ _) ?_
  rintro _ _ ⟨rfl, z5, rfl, w5, w4⟩
  show Rl _ _ _ _ _ [iv z5] _ _
  refine l_istore_n rfl rfl rfl ?_
  refine l_aload_n rfl rfl ?_
  refine l_gfr rfl rfl rfl rfl rfl (hH.r 891 1 890 rfl) ?_
  refine l_gfi rfl rfl rfl rfl rfl ?_
  have w6 : -1 ≤ (Xi S 890 3) ∧ (Xi S 890 3) ≤ 5124 := hH.c _ _
  refine l_iconst rfl ?_
  refine l_iadd rfl ?_
  refine l_istore_n rfl rfl rfl ?_
  refine l_aload_n rfl rfl ?_
  refine l_gfr rfl rfl rfl rfl rfl (hH.r 891 0 876 rfl) ?_
  refine l_iload_n rfl rfl ?_
  have w7 : 0 ≤ Xi S 5 3 ∧ Xi S 5 3 ≤ 24 := hH.c _ _
  have w8 : 0 ≤ Xi S 876 7 ∧ Xi S 876 7 ≤ 5125 := hH.c _ _
  refine l_callV rfl rfl rfl (t_to_runEnd hH ((Xi S 890 3) + 2) ⟨by omega, by omega⟩ _) ?_
  rintro _ _ ⟨rfl, z16, rfl, w16, w9, w10, w11, w12, w13, w14, w15⟩
  clear w11 w12 w13 w14
  show Rl _ _ _ _ _ [iv z16] _ _
  refine l_istore_n rfl rfl rfl ?_
  refine l_aload_n rfl rfl ?_
  refine l_gfr rfl rfl rfl rfl rfl (hH.r 891 0 876 rfl) ?_
  refine l_iload_n rfl rfl ?_
  refine l_iconst rfl ?_
  refine l_iadd rfl ?_
  have w17 : 0 ≤ Xi S 5 3 ∧ Xi S 5 3 ≤ 24 := hH.c _ _
  have w18 : 0 ≤ Xi S 876 7 ∧ Xi S 876 7 ≤ 5125 := hH.c _ _
  refine l_callV rfl rfl rfl (t_to_runEnd hH (z16 + 1) ⟨by omega, by omega⟩ _) ?_
  rintro _ _ ⟨rfl, z26, rfl, w26, w19, w20, w21, w22, w23, w24, w25⟩
  clear w21 w22 w23 w24
  show Rl _ _ _ _ _ [iv z26] _ _
  refine l_istore rfl rfl rfl ?_
  refine l_aload_n rfl rfl ?_
  refine l_gfr rfl rfl rfl rfl rfl (hH.r 891 4 895 rfl) ?_
  refine l_iconst rfl ?_
  refine l_iload_n rfl rfl ?_
  refine l_aload_n rfl rfl ?_
  refine l_gfr rfl rfl rfl rfl rfl (hH.r 891 0 876 rfl) ?_
  refine l_iload_n rfl rfl ?_
  have w27 : 0 ≤ Xi S 5 3 ∧ Xi S 5 3 ≤ 24 := hH.c _ _
  have w28 : 0 ≤ Xi S 876 7 ∧ Xi S 876 7 ≤ 5125 := hH.c _ _
  refine l_callV rfl rfl rfl (t_to_runEnd hH z5 ⟨by omega, by omega⟩ _) ?_
  rintro _ _ ⟨rfl, z36, rfl, w36, w29, w30, w31, w32, w33, w34, w35⟩
  clear w31 w32 w33 w34
  show Rl _ _ _ _ _ [iv z36, iv z5, iv 0, .ref 895] _ _
  have w37 : 0 ≤ Xi S 5 3 ∧ Xi S 5 3 ≤ 24 := hH.c _ _
  refine l_callV rfl rfl rfl (t_me_find hH 0 z5 z36 ⟨by omega, by omega⟩ ⟨by omega, by omega⟩ ⟨by omega, by omega⟩ (by first | assumption | exact (by first | assumption | exact (by assumption : WI S).1 : LEX S)) _) ?_
  rintro _ _ ⟨rfl, z41, rfl, w41, w38, w39, w40⟩
  have w42 : z41 ≠ -1 → _ := fun h => fb0 hH (w38 h)
  clear w39
  show Rl _ _ _ _ _ [iv z41] _ _
  refine l_istore rfl rfl rfl ?_
  refine l_iload rfl rfl ?_
  refine l_iconst rfl ?_
  refine l_icmp_ne rfl rfl (by unfold rg; omega) (by unfold rg; omega) (fun w43 => ?_) (fun w44 => ?_)
  · refine l_aload_n rfl rfl ?_
    refine l_gfr rfl rfl rfl rfl rfl (hH.r 891 2 1 rfl) ?_
    refine l_iconst rfl ?_
    have w45 : 0 ≤ Xi S 5 3 ∧ Xi S 5 3 ≤ 24 := hH.c _ _
    refine l_callV rfl rfl rfl (t_vo_countOf hH 3 ⟨by omega, by omega⟩ _) ?_
    rintro _ _ ⟨rfl, z49, rfl, w49, w46, w47, w48⟩
    have w50 : z49 = Xi S 5 3 ∧ 0 ≤ Xi S 5 3 ∧ Xi S 5 3 ≤ 24 := ⟨(w46 (by omega) (by omega)).1, hH.c 5 3⟩
    clear w46 w47 w48
    show Rl _ _ _ _ _ [iv z49] _ _
    refine l_istore rfl rfl rfl ?_
    refine l_aload_n rfl rfl ?_
    refine l_iload_n rfl rfl ?_
    refine l_iload_n rfl rfl ?_
    refine l_iload rfl rfl ?_
    refine l_bipush rfl rfl ?_
    have w51 : 0 ≤ Xi S 5 3 ∧ Xi S 5 3 ≤ 24 := hH.c _ _
    have w52 : 0 ≤ Xi S 891 9 ∧ Xi S 891 9 ≤ 24 := hH.c _ _
    refine l_callV rfl rfl rfl (t_re_takeNew hH ((Xi S 890 3) + 2) z16 z49 24 ⟨by omega, by omega⟩ ⟨by omega, by omega⟩ ⟨by omega, by omega⟩ ⟨by omega, by omega⟩ (by first | assumption | exact (by first | assumption | exact (by assumption : WI S).1 : LEX S)) _) ?_
    rintro _ T1 ⟨hHT1, w59, z58, rfl, w58, w53, w54, w55, w56, w57⟩
    have hFT1 : FR md_re_tellCan S T1 := FR.tr hF w59 rfl
    show Rl _ _ _ _ _ [iv z58] _ _
    refine l_if_eq rfl rfl (by unfold rg; omega) (fun w60 => ?_) (fun w61 => ?_)
    · refine l_iconst rfl ?_
      refine l_ireturn rfl rfl ?_
      have w62 : Xi T1 5 3 = Xi S 5 3 := (show Xi T1 5 3 = Xi S 5 3 from w59.x _ _ rfl)
      have w63 : 0 ≤ Xi S 5 3 ∧ Xi S 5 3 ≤ 24 := hH.c _ _
      have w64 : 0 ≤ Xi T1 876 8 ∧ Xi T1 876 8 ≤ 9 := hHT1.c _ _
      exact ⟨hHT1, hFT1, _, rfl, ⟨by omega, by omega⟩, (by first | (intro hz; omega) | (intro _; assumption) | (intro hz; apply_assumption; omega) | (intro _; exact (WI_FR hH w59 rfl rfl rfl rfl rfl rfl rfl rfl rfl (by assumption : WI S)))), (by omega)⟩
    · refine l_aload_n rfl rfl ?_
      refine l_iload_n rfl rfl ?_
      refine l_iconst rfl ?_
      refine l_iadd rfl ?_
      refine l_iload rfl rfl ?_
      refine l_iload rfl rfl ?_
      refine l_bipush rfl rfl ?_
      have w65 : Xi T1 5 3 = Xi S 5 3 := (show Xi T1 5 3 = Xi S 5 3 from w59.x _ _ rfl)
      have w66 : 0 ≤ Xi S 5 3 ∧ Xi S 5 3 ≤ 24 := hH.c _ _
      have w67 : 0 ≤ Xi T1 891 9 ∧ Xi T1 891 9 ≤ 24 := hHT1.c _ _
      refine l_callV rfl rfl rfl (t_re_takeNew hHT1 (z16 + 1) z26 z49 24 ⟨by omega, by omega⟩ ⟨by omega, by omega⟩ ⟨by omega, by omega⟩ ⟨by omega, by omega⟩ (by first | assumption | exact (LEX_FR w59 rfl rfl (by first | assumption | exact (by assumption : WI S).1 : LEX S))) _) ?_
      rintro _ T2 ⟨hHT2, w74, z73, rfl, w73, w68, w69, w70, w71, w72⟩
      have hFT2 : FR md_re_tellCan S T2 := FR.tr hFT1 w74 rfl
      show Rl _ _ _ _ _ [iv z73] _ _
      refine l_if_ne rfl rfl (by unfold rg; omega) (fun w75 => ?_) (fun w76 => ?_)
      · refine l_aload_n rfl rfl ?_
        refine l_gfr rfl rfl rfl rfl rfl (hHT2.r 891 2 1 rfl) ?_
        refine l_iconst rfl ?_
        refine l_aload_n rfl rfl ?_
        refine l_gfr rfl rfl rfl rfl rfl (hHT2.r 891 0 876 rfl) ?_
        refine l_gfr rfl rfl rfl rfl rfl (hHT2.r 876 2 879 rfl) ?_
        refine l_iload_n rfl rfl ?_
        refine l_iload_n rfl rfl ?_
        have hWp : WI T2 := (WI_FR hHT1 w74 rfl rfl rfl rfl rfl rfl rfl rfl rfl (WI_FR hH w59 rfl rfl rfl rfl rfl rfl rfl rfl rfl (by assumption : WI S)))
        have hHp := hHT2
        have hP0 := FR.rf (l := md_re_tellCan) (S := T2)
        have w77 : Xi T2 5 3 = Xi S 5 3 := (show Xi T2 5 3 = Xi T1 5 3 from w74.x _ _ rfl).trans ((show Xi T1 5 3 = Xi S 5 3 from w59.x _ _ rfl))
        have w78 : 0 ≤ Xi S 5 3 ∧ Xi S 5 3 ≤ 24 := hH.c _ _
        refine l_callV rfl rfl rfl (t_vo_tellNew hHT2 3 879 5130 ((Xi S 890 3) + 2) z16 ⟨by omega, by omega⟩ rfl ⟨by omega, by omega⟩ ⟨by omega, by omega⟩ ⟨by omega, by omega⟩ (by first | assumption | exact (LEX_FR w74 rfl rfl (LEX_FR w59 rfl rfl (by first | assumption | exact (by assumption : WI S).1 : LEX S)))) (show Xi T2 5 3 + 1 ≤ 24 by first | omega | (have hz : Xi T2 5 3 = Xi T2 5 (3 : Int).toNat := rfl; omega)) (by first | assumption | omega) _) ?_
        rintro _ T3 ⟨hHT3, w85, z84, rfl, w84, w79, w80, w81, w82, w83⟩
        have hFT3 : FR md_re_tellCan S T3 := FR.tr hFT2 w85 rfl
        show Rl _ _ _ _ _ [iv z84] _ _
        have hz3 : z84 = Xi T2 5 3 := by have t := (by assumption : z84 = Xi T2 5 (3 : Int).toNat); exact t
        have hc3a : Xi T3 5 3 = Xi T2 5 3 + 1 := by have t := (by assumption : Xi T3 5 (3 : Int).toNat = Xi T2 5 (3 : Int).toNat + 1); exact t
        have ho3a : ∀ j, j ≠ 3 → Xi T3 5 j = Xi T2 5 j := by have t := (by assumption : ∀ j, j ≠ (3 : Int).toNat → Xi T3 5 j = Xi T2 5 j); exact t
        have h11a : ∀ a, Xi T3 11 a = Xi T2 11 a := fun a => ((by assumption : FR md_vo_tellNew T2 T3).cx 11 rfl a).1
        have hP1 := FR.tr hP0 (by assumption : FR md_vo_tellNew T2 T3) rfl
        refine l_istore rfl rfl rfl ?_
        refine l_aload_n rfl rfl ?_
        refine l_gfr rfl rfl rfl rfl rfl (hHT3.r 891 2 1 rfl) ?_
        refine l_iconst rfl ?_
        refine l_aload_n rfl rfl ?_
        refine l_gfr rfl rfl rfl rfl rfl (hHT3.r 891 0 876 rfl) ?_
        refine l_gfr rfl rfl rfl rfl rfl (hHT3.r 876 2 879 rfl) ?_
        refine l_iload_n rfl rfl ?_
        refine l_iconst rfl ?_
        refine l_iadd rfl ?_
        refine l_iload rfl rfl ?_
        have w86 : 0 ≤ Xi T3 5 3 ∧ Xi T3 5 3 ≤ 24 := hHT3.c _ _
        refine l_callV rfl rfl rfl (t_vo_tellNew hHT3 3 879 5130 (z16 + 1) z26 ⟨by omega, by omega⟩ rfl ⟨by omega, by omega⟩ ⟨by omega, by omega⟩ ⟨by omega, by omega⟩ (by first | assumption | exact (by first | assumption | exact (by assumption : WI T3).1 : LEX T3)) (show Xi T3 5 3 + 1 ≤ 24 by first | omega | (have hz : Xi T3 5 3 = Xi T3 5 (3 : Int).toNat := rfl; omega)) (by first | assumption | omega) _) ?_
        rintro _ T4 ⟨hHT4, w93, z92, rfl, w92, w87, w88, w89, w90, w91⟩
        have hFT4 : FR md_re_tellCan S T4 := FR.tr hFT3 w93 rfl
        show Rl _ _ _ _ _ [iv z92] _ _
        have hc3b : Xi T4 5 3 = Xi T3 5 3 + 1 := by have t := (by assumption : Xi T4 5 (3 : Int).toNat = Xi T3 5 (3 : Int).toNat + 1); exact t
        have ho3b : ∀ j, j ≠ 3 → Xi T4 5 j = Xi T3 5 j := by have t := (by assumption : ∀ j, j ≠ (3 : Int).toNat → Xi T4 5 j = Xi T3 5 j); exact t
        have h11b : ∀ a, Xi T4 11 a = Xi T3 11 a := fun a => ((by assumption : FR md_vo_tellNew T3 T4).cx 11 rfl a).1
        have hP2 := FR.tr hP1 (by assumption : FR md_vo_tellNew T3 T4) rfl
        have hL2 : LEX T4 := by assumption
        refine l_pop rfl rfl ?_
        refine l_aload_n rfl rfl ?_
        refine l_gfr rfl rfl rfl rfl rfl (hHT4.r 891 2 1 rfl) ?_
        refine l_iload rfl rfl ?_
        refine l_iload rfl rfl ?_
        have w94 : 0 ≤ Xi T4 5 3 ∧ Xi T4 5 3 ≤ 24 := hHT4.c _ _
        refine l_callV rfl rfl rfl (t_vo_makeContrary__2 hHT4 z84 z41 ⟨by omega, by omega⟩ ⟨by omega, by omega⟩ _) ?_
        rintro _ T5 ⟨hHT5, w98, rfl, w95, w96⟩
        have hFT5 : FR md_re_tellCan S T5 := FR.tr hFT4 w98 rfl
        show Rl _ _ _ _ _ [] _ _
        have hP3 := FR.tr hP2 (by assumption : FR md_vo_makeContrary__2 T4 T5) rfl
        have hL3 : LEX T5 := LEX_FR (by assumption : FR md_vo_makeContrary__2 T4 T5) rfl rfl hL2
        have h5q : ∀ j, Xi T5 5 j = Xi T4 5 j := fun j => ((by assumption : FR md_vo_makeContrary__2 T4 T5).cx 5 rfl j).1
        have hWe : WI T5 := WI_can hHp hP3 rfl rfl rfl rfl rfl rfl hL3 (fun j hj => (h5q j).trans ((ho3b j hj).trans (ho3a j hj))) (by have t := h5q 3; omega) hz3 (fun a h1 h2 => ((by assumption : ∀ a : Nat, a ≠ (z84).toNat → a ≠ (z84 + 1).toNat → Xi T5 11 a = Xi T4 11 a) a h1 h2).trans ((h11b a).trans (h11a a))) (by omega) (by omega) hWp
        refine l_iconst rfl ?_
        refine l_ireturn rfl rfl ?_
        have w99 : Xi T5 5 3 = Xi T4 5 3 := (show Xi T5 5 3 = Xi T4 5 3 from w98.x _ _ rfl)
        have w100 : 0 ≤ Xi T4 5 3 ∧ Xi T4 5 3 ≤ 24 := hHT4.c _ _
        have w101 : Xi T5 876 8 = Xi T2 876 8 := (show Xi T5 876 8 = Xi T4 876 8 from w98.x _ _ rfl).trans ( (show Xi T4 876 8 = Xi T3 876 8 from w93.x _ _ rfl).trans ((show Xi T3 876 8 = Xi T2 876 8 from w85.x _ _ rfl)))
        have w102 : 0 ≤ Xi T2 876 8 ∧ Xi T2 876 8 ≤ 9 := hHT2.c _ _
        exact ⟨hHT5, hFT5, _, rfl, ⟨by omega, by omega⟩, (by first | (intro hz; omega) | (intro _; assumption) | (intro hz; apply_assumption; omega) | (intro _; exact (by assumption : WI T5))), (by omega)⟩
      · refine l_iconst rfl ?_
        refine l_ireturn rfl rfl ?_
        have w103 : Xi T2 5 3 = Xi S 5 3 := (show Xi T2 5 3 = Xi T1 5 3 from w74.x _ _ rfl).trans ((show Xi T1 5 3 = Xi S 5 3 from w59.x _ _ rfl))
        have w104 : 0 ≤ Xi S 5 3 ∧ Xi S 5 3 ≤ 24 := hH.c _ _
        have w105 : 0 ≤ Xi T2 876 8 ∧ Xi T2 876 8 ≤ 9 := hHT2.c _ _
        exact ⟨hHT2, hFT2, _, rfl, ⟨by omega, by omega⟩, (by first | (intro hz; omega) | (intro _; assumption) | (intro hz; apply_assumption; omega) | (intro _; exact (WI_FR hHT1 w74 rfl rfl rfl rfl rfl rfl rfl rfl rfl (WI_FR hH w59 rfl rfl rfl rfl rfl rfl rfl rfl rfl (by assumption : WI S))))), (by omega)⟩
  · refine l_aload_n rfl rfl ?_
    refine l_gfr rfl rfl rfl rfl rfl (hH.r 891 0 876 rfl) ?_
    refine l_iconst rfl ?_
    refine l_iload_n rfl rfl ?_
    have w106 : 0 ≤ Xi S 5 3 ∧ Xi S 5 3 ≤ 24 := hH.c _ _
    refine l_callV rfl rfl rfl (t_to_wrong hH 4 z5 ⟨by omega, by omega⟩ ⟨by omega, by omega⟩ _) ?_
    rintro _ T6 ⟨hHT6, w110, z109, rfl, w109, w107, w108⟩
    have hFT6 : FR md_re_tellCan S T6 := FR.tr hF w110 rfl
    show Rl _ _ _ _ _ [iv z109] _ _
    refine l_ireturn rfl (retI_z (by omega)) ?_
    have w111 : Xi T6 5 3 = Xi S 5 3 := (show Xi T6 5 3 = Xi S 5 3 from w110.x _ _ rfl)
    have w112 : 0 ≤ Xi S 5 3 ∧ Xi S 5 3 ≤ 24 := hH.c _ _
    have w113 : 0 ≤ Xi T6 876 8 ∧ Xi T6 876 8 ≤ 9 := hHT6.c _ _
    exact ⟨hHT6, hFT6, _, rfl, ⟨by omega, by omega⟩, (by first | (intro hz; omega) | (intro _; assumption) | (intro hz; apply_assumption; omega) | (intro _; exact (WI_FR hH w110 rfl rfl rfl rfl rfl rfl rfl rfl rfl (by assumption : WI S)))), (by omega)⟩

