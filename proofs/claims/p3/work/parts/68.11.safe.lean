def md_tu_move : List rec := [(22, 23, 0, 100000), (23, 24, 0, 100000)]
abbrev Q_tu_move (S : sS) (who : Int) (to : Int) : pst := fun r S1 => HI S1 ∧ FR md_tu_move S S1 ∧ (r = none)
set_option maxRecDepth 100000 in
theorem t_tu_move {S : sS} (hH : HI S) (who : Int) (to : Int) (hwho : 0 ≤ who ∧ who ≤ 23) (hto : 0 ≤ to ∧ to ≤ 23) (d : Nat) : Mt lay0 (d + 3) m_tu_move [.ref 900, iv who, iv to] S (Q_tu_move S who to) := by
  refine Mt_R rfl rfl ?_
  have hF : FR md_tu_move S S := FR.rf
  have C87 : ∀  (v3 : Int), (1 ≤ v3 ∧ v3 ≤ 4) → Rl lay0 (d + 2) m_tu_move 87 [(0, .ref 900), (1, iv who), (2, iv to), (3, iv v3)] [] S (Q_tu_move S who to) := by
    intro v3 w1
    refine l_aload_n rfl rfl ?_
    refine l_gfr rfl rfl rfl rfl rfl (hH.r 900 1 20 rfl) ?_
    refine l_iload_n rfl rfl ?_
    refine l_iload_n rfl rfl ?_
    refine l_iload_n rfl rfl ?_
    refine l_callV rfl rfl rfl (t_wo_place hH who v3 to ⟨by omega, by omega⟩ ⟨by omega, by omega⟩ ⟨by omega, by omega⟩ _) ?_
    rintro _ T1 ⟨hHT1, w3, rfl⟩
    have hFT1 : FR md_tu_move S T1 := FR.tr hF w3 rfl
    show Rl _ _ _ _ _ [] _ _
    refine l_return rfl rfl ?_
    exact ⟨hHT1, hFT1, rfl⟩
  have C51 : Rl lay0 (d + 2) m_tu_move 51 [(0, .ref 900), (1, iv who), (2, iv to)] [] S (Q_tu_move S who to) := by
    refine l_iconst rfl ?_
    refine l_istore_n rfl rfl rfl ?_
    refine l_goto rfl rfl ?_
    exact Rl_weak (C87 (1) (by omega)) (And.intro rfl (And.intro rfl (And.intro rfl (And.intro rfl (True.intro)))))
  refine l_aload_n rfl rfl ?_
  refine l_gfr rfl rfl rfl rfl rfl (hH.r 900 1 20 rfl) ?_
  refine l_iload_n rfl rfl ?_
  refine l_iconst rfl ?_
  refine l_callV rfl rfl rfl (t_wo_isA hH who 0 ⟨by omega, by omega⟩ ⟨by omega, by omega⟩ _) ?_
  rintro _ _ ⟨rfl, z5, rfl, w5, w4⟩
  show Rl _ _ _ _ _ [iv z5] _ _
  refine l_if_eq rfl rfl (by unfold rg; omega) (fun w6 => ?_) (fun w7 => ?_)
  · refine l_return rfl rfl ?_
    exact ⟨hH, hF, rfl⟩
  · refine l_aload_n rfl rfl ?_
    refine l_gfr rfl rfl rfl rfl rfl (hH.r 900 1 20 rfl) ?_
    refine l_iload_n rfl rfl ?_
    refine l_iload_n rfl rfl ?_
    refine l_callV rfl rfl rfl (t_wo_isWithin hH to who ⟨by omega, by omega⟩ ⟨by omega, by omega⟩ _) ?_
    rintro _ _ ⟨rfl, z9, rfl, w9, w8⟩
    show Rl _ _ _ _ _ [iv z9] _ _
    refine l_if_eq rfl rfl (by unfold rg; omega) (fun w10 => ?_) (fun w11 => ?_)
    · refine l_iconst rfl ?_
      refine l_istore_n rfl rfl rfl ?_
      refine l_aload_n rfl rfl ?_
      refine l_gfr rfl rfl rfl rfl rfl (hH.r 900 1 20 rfl) ?_
      refine l_iload_n rfl rfl ?_
      refine l_iconst rfl ?_
      refine l_callV rfl rfl rfl (t_wo_isA hH to 1 ⟨by omega, by omega⟩ ⟨by omega, by omega⟩ _) ?_
      rintro _ _ ⟨rfl, z13, rfl, w13, w12⟩
      show Rl _ _ _ _ _ [iv z13] _ _
      refine l_if_ne rfl rfl (by unfold rg; omega) (fun w14 => ?_) (fun w15 => ?_)
      · exact Rl_weak (C51  ) (And.intro rfl (And.intro rfl (And.intro rfl (True.intro))))
      · refine l_aload_n rfl rfl ?_
        refine l_gfr rfl rfl rfl rfl rfl (hH.r 900 1 20 rfl) ?_
        refine l_iload_n rfl rfl ?_
        refine l_iconst rfl ?_
        refine l_callV rfl rfl rfl (t_wo_isA hH to 2 ⟨by omega, by omega⟩ ⟨by omega, by omega⟩ _) ?_
        rintro _ _ ⟨rfl, z17, rfl, w17, w16⟩
        show Rl _ _ _ _ _ [iv z17] _ _
        refine l_if_eq rfl rfl (by unfold rg; omega) (fun w18 => ?_) (fun w19 => ?_)
        · refine l_aload_n rfl rfl ?_
          refine l_gfr rfl rfl rfl rfl rfl (hH.r 900 1 20 rfl) ?_
          refine l_iload_n rfl rfl ?_
          refine l_iconst rfl ?_
          refine l_callV rfl rfl rfl (t_wo_isA hH to 3 ⟨by omega, by omega⟩ ⟨by omega, by omega⟩ _) ?_
          rintro _ _ ⟨rfl, z21, rfl, w21, w20⟩
          show Rl _ _ _ _ _ [iv z21] _ _
          refine l_if_eq rfl rfl (by unfold rg; omega) (fun w22 => ?_) (fun w23 => ?_)
          · refine l_aload_n rfl rfl ?_
            refine l_gfr rfl rfl rfl rfl rfl (hH.r 900 1 20 rfl) ?_
            refine l_iload_n rfl rfl ?_
            refine l_iconst rfl ?_
            refine l_callV rfl rfl rfl (t_wo_isA hH to 4 ⟨by omega, by omega⟩ ⟨by omega, by omega⟩ _) ?_
            rintro _ _ ⟨rfl, z25, rfl, w25, w24⟩
            show Rl _ _ _ _ _ [iv z25] _ _
            refine l_if_eq rfl rfl (by unfold rg; omega) (fun w26 => ?_) (fun w27 => ?_)
            · exact Rl_weak (C87 (3) (by omega)) (And.intro rfl (And.intro rfl (And.intro rfl (And.intro rfl (True.intro)))))
            · refine l_iconst rfl ?_
              refine l_istore_n rfl rfl rfl ?_
              exact Rl_weak (C87 (4) (by omega)) (And.intro rfl (And.intro rfl (And.intro rfl (And.intro rfl (True.intro)))))
          · refine l_iconst rfl ?_
            refine l_istore_n rfl rfl rfl ?_
            refine l_goto rfl rfl ?_
            exact Rl_weak (C87 (2) (by omega)) (And.intro rfl (And.intro rfl (And.intro rfl (And.intro rfl (True.intro)))))
        · exact Rl_weak (C51  ) (And.intro rfl (And.intro rfl (And.intro rfl (True.intro))))
    · refine l_return rfl rfl ?_
      exact ⟨hH, hF, rfl⟩
def md_tu_take : List rec := [(22, 23, 0, 100000), (23, 24, 0, 100000)]
abbrev Q_tu_take (S : sS) (o : Int) : pst := fun r S1 => HI S1 ∧ FR md_tu_take S S1 ∧ (∃ z : Int, r = some (iv z) ∧ (0 ≤ z ∧ z ≤ 1))
set_option maxRecDepth 100000 in
theorem t_tu_take {S : sS} (hH : HI S) (o : Int) (ho : 0 ≤ o ∧ o ≤ 23) (d : Nat) : Mt lay0 (d + 2) m_tu_take [.ref 900, iv o] S (Q_tu_take S o) := by
  refine Mt_R rfl rfl ?_
  have hF : FR md_tu_take S S := FR.rf
  refine l_aload_n rfl rfl ?_
  refine l_gfr rfl rfl rfl rfl rfl (hH.r 900 1 20 rfl) ?_
  refine l_iload_n rfl rfl ?_
  refine l_iconst rfl ?_
  refine l_callV rfl rfl rfl (t_wo_hasAdjective hH o 0 ⟨by omega, by omega⟩ ⟨by omega, by omega⟩ _) ?_
  rintro _ _ ⟨rfl, z2, rfl, w2, w1⟩
  show Rl _ _ _ _ _ [iv z2] _ _
  refine l_if_ne rfl rfl (by unfold rg; omega) (fun w3 => ?_) (fun w4 => ?_)
  · refine l_iconst rfl ?_
    refine l_ireturn rfl rfl ?_
    exact ⟨hH, hF, _, rfl, ⟨by omega, by omega⟩⟩
  · refine l_aload_n rfl rfl ?_
    refine l_iload_n rfl rfl ?_
    refine l_callV rfl rfl rfl (t_tu_playerHas hH o ⟨by omega, by omega⟩ _) ?_
    rintro _ _ ⟨rfl, z5, rfl, w5⟩
    show Rl _ _ _ _ _ [iv z5] _ _
    refine l_if_ne rfl rfl (by unfold rg; omega) (fun w6 => ?_) (fun w7 => ?_)
    · refine l_iconst rfl ?_
      refine l_ireturn rfl rfl ?_
      exact ⟨hH, hF, _, rfl, ⟨by omega, by omega⟩⟩
    · refine l_aload_n rfl rfl ?_
      refine l_gfr rfl rfl rfl rfl rfl (hH.r 900 1 20 rfl) ?_
      refine l_iconst rfl ?_
      refine l_iload_n rfl rfl ?_
      refine l_callV rfl rfl rfl (t_wo_isWithin hH 0 o ⟨by omega, by omega⟩ ⟨by omega, by omega⟩ _) ?_
      rintro _ _ ⟨rfl, z9, rfl, w9, w8⟩
      show Rl _ _ _ _ _ [iv z9] _ _
      refine l_if_eq rfl rfl (by unfold rg; omega) (fun w10 => ?_) (fun w11 => ?_)
      · refine l_aload_n rfl rfl ?_
        refine l_gfr rfl rfl rfl rfl rfl (hH.r 900 1 20 rfl) ?_
        refine l_iload_n rfl rfl ?_
        refine l_iconst rfl ?_
        refine l_iconst rfl ?_
        refine l_callV rfl rfl rfl (t_wo_place hH o 4 0 ⟨by omega, by omega⟩ ⟨by omega, by omega⟩ ⟨by omega, by omega⟩ _) ?_
        rintro _ T1 ⟨hHT1, w13, rfl⟩
        have hFT1 : FR md_tu_take S T1 := FR.tr hF w13 rfl
        show Rl _ _ _ _ _ [] _ _
        refine l_iconst rfl ?_
        refine l_ireturn rfl rfl ?_
        exact ⟨hHT1, hFT1, _, rfl, ⟨by omega, by omega⟩⟩
      · refine l_iconst rfl ?_
        refine l_ireturn rfl rfl ?_
        exact ⟨hH, hF, _, rfl, ⟨by omega, by omega⟩⟩
def md_tu_go : List rec := [(22, 23, 0, 100000), (23, 24, 0, 100000)]
abbrev Q_tu_go (S : sS) (dir : Int) : pst := fun r S1 => HI S1 ∧ FR md_tu_go S S1 ∧ (∃ z : Int, r = some (iv z) ∧ (0 ≤ z ∧ z ≤ 1))
set_option maxRecDepth 100000 in
theorem t_tu_go {S : sS} (hH : HI S) (dir : Int) (hdir : 0 ≤ dir ∧ dir ≤ 5) (d : Nat) : Mt lay0 (d + 2) m_tu_go [.ref 900, iv dir] S (Q_tu_go S dir) := by
  refine Mt_R rfl rfl ?_
  have hF : FR md_tu_go S S := FR.rf
  refine l_aload_n rfl rfl ?_
  refine l_gfr rfl rfl rfl rfl rfl (hH.r 900 1 20 rfl) ?_
  refine l_gfr rfl rfl rfl rfl rfl (hH.r 20 4 23 rfl) ?_
  refine l_iconst rfl ?_
  refine l_iaload (n := 24) rfl rfl (by omega) (by omega) (by unfold rg; omega) ?_
  have w1 : -1 ≤ (Xi S 23 ((0 : Int).toNat)) ∧ (Xi S 23 ((0 : Int).toNat)) ≤ 23 := hH.c _ _
  have w2 : (Xi S 23 ((0 : Int).toNat)) = Xi S 23 0 := rfl
  refine l_istore_n rfl rfl rfl ?_
  refine l_aload_n rfl rfl ?_
  refine l_gfr rfl rfl rfl rfl rfl (hH.r 900 1 20 rfl) ?_
  refine l_gfr rfl rfl rfl rfl rfl (hH.r 20 3 22 rfl) ?_
  refine l_iconst rfl ?_
  refine l_iaload (n := 24) rfl rfl (by omega) (by omega) (by unfold rg; omega) ?_
  have w3 : 0 ≤ (Xi S 22 ((0 : Int).toNat)) ∧ (Xi S 22 ((0 : Int).toNat)) ≤ 5 := hH.c _ _
  have w4 : (Xi S 22 ((0 : Int).toNat)) = Xi S 22 0 := rfl
  refine l_iconst rfl ?_
  refine l_icmp_ne rfl rfl (by unfold rg; omega) (by unfold rg; omega) (fun w5 => ?_) (fun w6 => ?_)
  · refine l_iconst rfl ?_
    refine l_ireturn rfl rfl ?_
    exact ⟨hH, hF, _, rfl, ⟨by omega, by omega⟩⟩
  · refine l_iload_n rfl rfl ?_
    refine l_if_lt rfl rfl (by unfold rg; omega) (fun w7 => ?_) (fun w8 => ?_)
    · refine l_iconst rfl ?_
      refine l_ireturn rfl rfl ?_
      exact ⟨hH, hF, _, rfl, ⟨by omega, by omega⟩⟩
    · refine l_aload_n rfl rfl ?_
      refine l_gfr rfl rfl rfl rfl rfl (hH.r 900 0 1 rfl) ?_
      refine l_aload_n rfl rfl ?_
      refine l_gfr rfl rfl rfl rfl rfl (hH.r 900 1 20 rfl) ?_
      refine l_gfr rfl rfl rfl rfl rfl (hH.r 20 2 21 rfl) ?_
      refine l_iload_n rfl rfl ?_
      refine l_iaload (n := 24) rfl rfl (by omega) (by omega) (by unfold rg; omega) ?_
      have w9 : 0 ≤ (Xi S 21 (((Xi S 23 ((0 : Int).toNat))).toNat)) ∧ (Xi S 21 (((Xi S 23 ((0 : Int).toNat))).toNat)) ≤ 15 := hH.c _ _
      refine l_iconst rfl ?_
      refine l_callV rfl rfl rfl (t_vo_isKind hH (Xi S 21 (((Xi S 23 ((0 : Int).toNat))).toNat)) 1 ⟨by omega, by omega⟩ ⟨by omega, by omega⟩ _) ?_
      rintro _ _ ⟨rfl, z11, rfl, w11, w10⟩
      show Rl _ _ _ _ _ [iv z11] _ _
      refine l_if_ne rfl rfl (by unfold rg; omega) (fun w12 => ?_) (fun w13 => ?_)
      · refine l_aload_n rfl rfl ?_
        refine l_gfr rfl rfl rfl rfl rfl (hH.r 900 1 20 rfl) ?_
        refine l_iload_n rfl rfl ?_
        refine l_iload_n rfl rfl ?_
        refine l_callV rfl rfl rfl (t_wo_roomBehind hH (Xi S 23 ((0 : Int).toNat)) dir ⟨by omega, by omega⟩ ⟨by omega, by omega⟩ _) ?_
        rintro _ _ ⟨rfl, z15, rfl, w15, w14⟩
        show Rl _ _ _ _ _ [iv z15] _ _
        refine l_istore_n rfl rfl rfl ?_
        refine l_iload_n rfl rfl ?_
        refine l_iconst rfl ?_
        refine l_icmp_ne rfl rfl (by unfold rg; omega) (by unfold rg; omega) (fun w16 => ?_) (fun w17 => ?_)
        · refine l_aload_n rfl rfl ?_
          refine l_gfr rfl rfl rfl rfl rfl (hH.r 900 1 20 rfl) ?_
          refine l_iconst rfl ?_
          refine l_iconst rfl ?_
          refine l_iload_n rfl rfl ?_
          refine l_callV rfl rfl rfl (t_wo_place hH 0 1 z15 ⟨by omega, by omega⟩ ⟨by omega, by omega⟩ ⟨by omega, by omega⟩ _) ?_
          rintro _ T1 ⟨hHT1, w19, rfl⟩
          have hFT1 : FR md_tu_go S T1 := FR.tr hF w19 rfl
          show Rl _ _ _ _ _ [] _ _
          refine l_iconst rfl ?_
          refine l_ireturn rfl rfl ?_
          exact ⟨hHT1, hFT1, _, rfl, ⟨by omega, by omega⟩⟩
        · refine l_iconst rfl ?_
          refine l_ireturn rfl rfl ?_
          exact ⟨hH, hF, _, rfl, ⟨by omega, by omega⟩⟩
      · refine l_iconst rfl ?_
        refine l_ireturn rfl rfl ?_
        exact ⟨hH, hF, _, rfl, ⟨by omega, by omega⟩⟩
def md_re_nameWithS : List rec := [(1, 2, 3, 4), (2, 3, 0, 100000), (3, 4, 0, 100000), (4, 5, 0, 100000), (894, 895, 0, 100000)]
abbrev Q_re_nameWithS (S : sS) (sort : Int) (which : Int) (from_ : Int) (to : Int) : pst := fun r S1 => HI S1 ∧ FR md_re_nameWithS S S1 ∧ (r = none ∧ (LEX S1) ∧ (∀ j, Xi S1 5 j = Xi S 5 j))
set_option maxRecDepth 100000 in
theorem t_re_nameWithS {S : sS} (hH : HI S) (sort : Int) (which : Int) (from_ : Int) (to : Int) (hsort : 11 ≤ sort ∧ sort ≤ 12) (hwhich : 0 ≤ which ∧ which ≤ 63) (hfrom_ : 0 ≤ from_ ∧ from_ ≤ 5130) (hto : 0 ≤ to ∧ to ≤ 5130) (hL : LEX S) (hb : lexB S sort which) (hn : 1 ≤ to - from_ ∧ to - from_ ≤ 3) (d : Nat) : Mt lay0 (d + 3) m_re_nameWithS [.ref 891, iv sort, iv which, iv from_, iv to] S (Q_re_nameWithS S sort which from_ to) := by
  refine Mt_R rfl rfl ?_
  have hF : FR md_re_nameWithS S S := FR.rf
  have C9 : ∀ (n9 : Nat) (T1 : sS) (_ : HI T1) (_ : FR md_re_nameWithS S T1) (v5 : Int) (v6 : Int), (1 ≤ v5 ∧ v5 ≤ 3) → (0 ≤ v6 ∧ v6 ≤ 3) → (LEX T1) → (v5 = to - from_) → n9 = (4 - v6).toNat → Rl lay0 (d + 2) m_re_nameWithS 9 [(0, .ref 891), (1, iv sort), (2, iv which), (3, iv from_), (5, iv v5), (6, iv v6)] [] T1 (Q_re_nameWithS S sort which from_ to) := by
    intro n9
    induction n9 using Nat.strongRecOn with
    | ind n9 ih9 =>
      intro T1 hHT1 hFT1 v5 v6 w1 w2 hl9 w3 hm9
      refine l_iload rfl rfl ?_
      refine l_iload rfl rfl ?_
      refine l_icmp_ge rfl rfl (by unfold rg; omega) (by unfold rg; omega) (fun w4 => ?_) (fun w5 => ?_)
      · refine l_aload_n rfl rfl ?_
        refine l_gfr rfl rfl rfl rfl rfl (hHT1.r 891 13 894 rfl) ?_
        refine l_iload rfl rfl ?_
        refine l_iconst rfl ?_
        refine l_isub rfl ?_
        refine l_aload_n rfl rfl ?_
        refine l_gfr rfl rfl rfl rfl rfl (hHT1.r 891 13 894 rfl) ?_
        refine l_iload rfl rfl ?_
        refine l_iconst rfl ?_
        refine l_isub rfl ?_
        refine l_laload (n := 3) rfl rfl (by omega) (by omega) (by unfold rg; omega) ?_
        have w6 : -9223372036854775808 ≤ (Xj T1 894 (((v5 - 1)).toNat)) ∧ (Xj T1 894 (((v5 - 1)).toNat)) < 9223372036854775808 := Xj_rg
        refine l_ldc2 (z := 27) rfl rfl ?_
        refine l_lmul rfl ?_
        refine l_ldc2 (z := 19) rfl rfl ?_
        refine l_ladd rfl ?_
        refine l_lastore (n := 3) rfl rfl (by omega) (by omega) (by unfold rg; omega) ?_
        obtain ⟨U2, eU2⟩ : ∃ T : sS, T = uJ T1 894 (((v5 - 1)).toNat) (Int64.ofInt (((Xj T1 894 (((v5 - 1)).toNat)) * 27) + 19)) := ⟨_, rfl⟩
        rw [← eU2]
        have hHU2 : HI U2 := by rw [eU2]; exact HI_J hHT1
        have hFU2 : FR md_re_nameWithS S U2 := by rw [eU2]; exact FR.wJ hFT1 (mdf_i (r := (894, 895, 0, 100000)) (List.mem_of_getElem? (i := 4) rfl) (inR_i (by omega) (by omega) (by omega) (by omega)))
        have hl66 : LEX U2 := LEX_J eU2 (by assumption)
        refine l_aload_n rfl rfl ?_
        refine l_gfr rfl rfl rfl rfl rfl (hHU2.r 891 2 1 rfl) ?_
        refine l_aload_n rfl rfl ?_
        refine l_gfr rfl rfl rfl rfl rfl (hHU2.r 891 13 894 rfl) ?_
        refine l_iconst rfl ?_
        refine l_iload rfl rfl ?_
        refine l_callV rfl rfl rfl (t_vo_meaning hHU2 894 3 0 v5 rfl ⟨by omega, by omega⟩ ⟨by omega, by omega⟩ ⟨by omega, by omega⟩ (by assumption) _) ?_
        rintro _ _ ⟨rfl, z10, rfl, w10, w7, w8, w9⟩
        show Rl _ _ _ _ _ [iv z10] _ _
        have hmnz10 := mOK_n (z := z10) (by assumption)
        refine l_iconst rfl ?_
        refine l_icmp_ne rfl rfl (by unfold rg; omega) (by unfold rg; omega) (fun w11 => ?_) (fun w12 => ?_)
        · refine l_return rfl rfl ?_
          exact ⟨hHU2, hFU2, rfl, (by assumption), (fun j => (hFU2.cx 5 rfl j).1)⟩
        · refine l_aload_n rfl rfl ?_
          refine l_gfr rfl rfl rfl rfl rfl (hHU2.r 891 2 1 rfl) ?_
          refine l_iload_n rfl rfl ?_
          refine l_iload_n rfl rfl ?_
          refine l_aload_n rfl rfl ?_
          refine l_gfr rfl rfl rfl rfl rfl (hHU2.r 891 13 894 rfl) ?_
          refine l_iconst rfl ?_
          refine l_iload rfl rfl ?_
          have w13 : Xi U2 1 3 = Xi T1 1 3 := (show Xi U2 1 3 = Xi T1 1 3 from by rw [eU2]; rfl)
          have w14 : 0 ≤ Xi T1 1 3 ∧ Xi T1 1 3 ≤ 200 := hHT1.c _ _
          refine l_callV rfl rfl rfl (t_vo_nameIt hHU2 sort which 894 3 0 v5 ⟨by omega, by omega⟩ ⟨by omega, by omega⟩ rfl ⟨by omega, by omega⟩ ⟨by omega, by omega⟩ ⟨by omega, by omega⟩ (by assumption) (lexB_fr (fun j => (hFU2.cx 5 rfl j).1) hb) (by first | assumption | omega) _) ?_
          rintro _ T3 ⟨hHT3, w19, rfl, w15, w16, w17⟩
          have hFT3 : FR md_re_nameWithS S T3 := FR.tr hFU2 w19 rfl
          show Rl _ _ _ _ _ [] _ _
          refine l_return rfl rfl ?_
          exact ⟨hHT3, hFT3, rfl, (by assumption), (fun j => (hFT3.cx 5 rfl j).1)⟩
      · refine l_aload_n rfl rfl ?_
        refine l_gfr rfl rfl rfl rfl rfl (hHT1.r 891 13 894 rfl) ?_
        refine l_iload rfl rfl ?_
        refine l_aload_n rfl rfl ?_
        refine l_gfr rfl rfl rfl rfl rfl (hHT1.r 891 0 876 rfl) ?_
        refine l_gfr rfl rfl rfl rfl rfl (hHT1.r 876 2 879 rfl) ?_
        refine l_iload_n rfl rfl ?_
        refine l_iload rfl rfl ?_
        refine l_iadd rfl ?_
        refine l_laload (n := 5130) rfl rfl (by omega) (by omega) (by unfold rg; omega) ?_
        have w20 : -9223372036854775808 ≤ (Xj T1 879 (((from_ + v6)).toNat)) ∧ (Xj T1 879 (((from_ + v6)).toNat)) < 9223372036854775808 := Xj_rg
        refine l_lastore (n := 3) rfl rfl (by omega) (by omega) (by unfold rg; omega) ?_
        obtain ⟨U4, eU4⟩ : ∃ T : sS, T = uJ T1 894 ((v6).toNat) (Int64.ofInt (Xj T1 879 (((from_ + v6)).toNat))) := ⟨_, rfl⟩
        rw [← eU4]
        have hHU4 : HI U4 := by rw [eU4]; exact HI_J hHT1
        have hFU4 : FR md_re_nameWithS S U4 := by rw [eU4]; exact FR.wJ hFT1 (mdf_i (r := (894, 895, 0, 100000)) (List.mem_of_getElem? (i := 4) rfl) (inR_i (by omega) (by omega) (by omega) (by omega)))
        refine l_iinc rfl rfl rfl rfl ?_
        refine l_goto rfl rfl ?_
        exact Rl_weak (ih9 _ (by omega) U4 hHU4 hFU4 (v5) ((v6 + 1)) (by omega) (by omega) (by first | assumption | exact LEX_J eU4 (by assumption)) (by omega) rfl) (And.intro rfl (And.intro rfl (And.intro rfl (And.intro rfl (And.intro rfl (And.intro rfl (True.intro)))))))
  refine l_iload rfl rfl ?_
  refine l_iload_n rfl rfl ?_
  refine l_isub rfl ?_
  refine l_istore rfl rfl rfl ?_
  refine l_iconst rfl ?_
  refine l_istore rfl rfl rfl ?_
  exact Rl_weak (C9 _ S hH hF ((to - from_)) (0) (by omega) (by omega) (by first | assumption | exact LEX_J rfl (by assumption)) (by omega) rfl) (And.intro rfl (And.intro rfl (And.intro rfl (And.intro rfl (And.intro rfl (And.intro rfl (True.intro)))))))
abbrev Q_vo_codeOf (S : sS) (i : Nat) (xi : String × Nat × String × List Int32) : pst := fun r S1 => S = S1 ∧ (∃ z : Int, r = some (jw z))
set_option maxRecDepth 100000 in
theorem t_vo_codeOf {S : sS} (hH : HI S) (i : Nat) (xi : String × Nat × String × List Int32) (hi : strT[i]? = some xi) (d : Nat) : Mt lay0 (d + 4) m_vo_codeOf [.ref (SB + i)] S (Q_vo_codeOf S i xi) := by
  refine Mt_R rfl rfl ?_
  have hsli := str_sm hi
  have C4 : ∀ (n4 : Nat) (v1 : Int) (v3 : Int), (0 ≤ v3 ∧ v3 ≤ 400) → n4 = (400 - v3).toNat → Rl lay0 (d + 3) m_vo_codeOf 4 [(0, .ref (SB + i)), (1, jw v1), (3, iv v3)] [] S (Q_vo_codeOf S i xi) := by
    intro n4
    induction n4 using Nat.strongRecOn with
    | ind n4 ih4 =>
      intro v1 v3 w1 hm4
      refine l_iload_n rfl rfl ?_
      refine l_aload_n rfl rfl ?_
      refine l_callT rfl rfl (cOkT0 (str_is hi) rfl) (t_js_length hi _) ?_
      rintro _ _ ⟨rfl, rfl⟩
      show Rl _ _ _ _ _ [iv (xi.2.2.2.length : Int), iv v3] _ _
      refine l_icmp_ge rfl rfl (by unfold rg; omega) (by unfold rg; omega) (fun w3 => ?_) (fun w4 => ?_)
      · refine l_lload_n rfl rfl ?_
        refine l_lreturn rfl rfl ?_
        exact ⟨rfl, _, rfl⟩
      · refine l_lload_n rfl rfl ?_
        refine l_ldc2 (z := 27) rfl rfl ?_
        refine l_lmul rfl ?_
        refine l_aload_n rfl rfl ?_
        refine l_iload_n rfl rfl ?_
        refine l_callT rfl rfl (cOkT1 (str_is hi) rfl) (t_js_charAt hi (by omega) (by omega) _) ?_
        rintro _ _ ⟨rfl, c5, rfl, w5⟩
        show Rl _ _ _ _ _ [iv c5, jw (v1 * 27)] _ _
        refine l_callS rfl rfl (by decide) rfl (t_rs_letterOf hH c5 ⟨by omega, by omega⟩ _) ?_
        rintro _ _ ⟨rfl, z6, rfl, w6⟩
        show Rl _ _ _ _ _ [iv z6, jw (v1 * 27)] _ _
        refine l_i2l rfl (by unfold rg; omega) ?_
        refine l_ladd rfl ?_
        refine l_lstore_n rfl rfl rfl rfl ?_
        refine l_iinc rfl rfl rfl rfl ?_
        refine l_goto rfl rfl ?_
        exact Rl_weak (ih4 _ (by omega) (((v1 * 27) + z6)) ((v3 + 1)) (by omega) rfl) (And.intro rfl (And.intro rfl (And.intro rfl (True.intro))))
  refine l_lconst (z := 0) rfl rfl ?_
  refine l_lstore_n rfl rfl rfl rfl ?_
  refine l_iconst rfl ?_
  refine l_istore_n rfl rfl rfl ?_
  exact Rl_weak (C4 _ (0) (0) (by omega) rfl) (And.intro rfl (And.intro rfl (And.intro rfl (True.intro))))
def md_vo_addFirst : List rec := [(1, 2, 3, 4), (2, 3, 0, 100000), (3, 4, 0, 100000), (4, 5, 0, 100000), (5, 6, 0, 100000)]
abbrev Q_vo_addFirst (S : sS) (sort : Int) (i : Nat) (xi : String × Nat × String × List Int32) : pst := fun r S1 => HI S1 ∧ FR md_vo_addFirst S S1 ∧ (∃ z : Int, r = some (iv z) ∧ (0 ≤ z ∧ z ≤ 63) ∧ (z = Xi S 5 sort.toNat) ∧ (LEX S1) ∧ (Xi S1 5 sort.toNat = Xi S 5 sort.toNat + 1) ∧ (∀ j, j ≠ sort.toNat → Xi S1 5 j = Xi S 5 j) ∧ (Xi S1 1 3 ≤ Xi S 1 3 + 1))
set_option maxRecDepth 100000 in
theorem t_vo_addFirst {S : sS} (hH : HI S) (sort : Int) (i : Nat) (xi : String × Nat × String × List Int32) (hsort : 0 ≤ sort ∧ sort ≤ 8) (hi : strT[i]? = some xi) (hL : LEX S) (hc : Xi S 5 sort.toNat + 1 ≤ (lh 5 sort.toNat).2) (d : Nat) : Mt lay0 (d + 5) m_vo_addFirst [.ref 1, iv sort, .ref (SB + i)] S (Q_vo_addFirst S sort i xi) := by
  refine Mt_R rfl rfl ?_
  have hF : FR md_vo_addFirst S S := FR.rf
  have hsli := str_sm hi
  have w1 : 0 ≤ Xi S 1 3 ∧ Xi S 1 3 ≤ 200 := hH.c _ _
  refine l_aload_n rfl rfl ?_
  refine l_gfr rfl rfl rfl rfl rfl (hH.r 1 4 5 rfl) ?_
  refine l_iload_n rfl rfl ?_
  refine l_iaload (n := 9) rfl rfl (by omega) (by omega) (by unfold rg; omega) ?_
  have w2 : -2147483648 ≤ (Xi S 5 ((sort).toNat)) ∧ (Xi S 5 ((sort).toNat)) ≤ 2147483647 := Xi_rgI
  have hcr := cnt_rg hH (by omega) (by omega) _ (Eq.refl (Xi S 5 sort.toNat))
  have h64 := lh5hi (s := sort) (by omega) (by omega)
  refine l_istore_n rfl rfl rfl ?_
  refine l_aload_n rfl rfl ?_
  refine l_gfr rfl rfl rfl rfl rfl (hH.r 1 4 5 rfl) ?_
  refine l_iload_n rfl rfl ?_
  refine l_dup2 rfl rfl ?_
  refine l_iaload (n := 9) rfl rfl (by omega) (by omega) (by unfold rg; omega) ?_
  refine l_iconst rfl ?_
  refine l_iadd rfl ?_
  refine l_iastore (n := 9) rfl rfl (by omega) (by omega) (by unfold rg; omega) ?_
  obtain ⟨U1, eU1⟩ : ∃ T : sS, T = uI S 5 ((sort).toNat) (Int32.ofInt ((Xi S 5 ((sort).toNat)) + 1)) := ⟨_, rfl⟩
  rw [← eU1]
  have hHU1 : HI U1 := by rw [eU1]; exact HI_w hH (Int.le_trans lh5 (by omega)) hc
  have hFU1 : FR md_vo_addFirst S U1 := by rw [eU1]; exact FR.wI hF (mdf_i (r := (5, 6, 0, 100000)) (List.mem_of_getElem? (i := 4) rfl) (inR_i (by omega) (by omega) (by omega) (by omega)))
  have w3 : Xi U1 5 ((sort).toNat) = ((Xi S 5 ((sort).toNat)) + 1) := by rw [eU1]; exact Xi_same (by unfold rg; omega)
  have hL1 : LEX U1 := LEX_cnt eU1 (by omega) hL
  have hb1 := lexB_new eU1 (by omega) (by omega) (by omega) (by omega)
  refine l_aload_n rfl rfl ?_
  refine l_iload_n rfl rfl ?_
  refine l_iload_n rfl rfl ?_
  refine l_aload_n rfl rfl ?_
  refine l_callS rfl rfl (by decide) rfl (t_vo_codeOf hHU1 i xi hi _) ?_
  rintro _ _ ⟨rfl, z4, rfl⟩
  show Rl _ _ _ _ _ [jw z4, iv (Xi S 5 ((sort).toNat)), iv sort, .ref 1] _ _
  have w5 : Xi U1 1 3 = Xi S 1 3 := (show Xi U1 1 3 = Xi S 1 3 from by rw [eU1]; exact Xi_ne (by omega))
  have w6 : 0 ≤ Xi S 1 3 ∧ Xi S 1 3 ≤ 200 := hH.c _ _
  refine l_callV rfl rfl rfl (t_vo_addEntry hHU1 sort (Xi S 5 ((sort).toNat)) z4 ⟨by omega, by omega⟩ ⟨by omega, by omega⟩ (by first | assumption | exact (by assumption : LEX U1)) (by first | assumption | omega) _) ?_
  rintro _ T2 ⟨hHT2, w11, rfl, w7, w8, w9⟩
  have hFT2 : FR md_vo_addFirst S T2 := FR.tr hFU1 w11 rfl
  show Rl _ _ _ _ _ [] _ _
  refine l_iload_n rfl rfl ?_
  refine l_ireturn rfl rfl ?_
  have w12 : 0 ≤ Xi T2 1 3 ∧ Xi T2 1 3 ≤ 200 := hHT2.c _ _
  exact ⟨hHT2, hFT2, _, rfl, ⟨by omega, by omega⟩, (by omega), (by assumption), (tn_c (fun j => ((by assumption : FR md_vo_addEntry U1 T2).cx 5 rfl j).1) eU1 (by unfold rg; omega)), (tn_o (fun j => ((by assumption : FR md_vo_addEntry U1 T2).cx 5 rfl j).1) eU1), (by omega)⟩
def md_vo_addDirection : List rec := [(1, 2, 3, 4), (2, 3, 0, 100000), (3, 4, 0, 100000), (4, 5, 0, 100000)]
abbrev Q_vo_addDirection (S : sS) (i : Nat) (xi : String × Nat × String × List Int32) (n : Int) : pst := fun r S1 => HI S1 ∧ FR md_vo_addDirection S S1 ∧ (r = none ∧ (LEX S1) ∧ (∀ j, Xi S1 5 j = Xi S 5 j))
set_option maxRecDepth 100000 in
theorem t_vo_addDirection {S : sS} (hH : HI S) (i : Nat) (xi : String × Nat × String × List Int32) (n : Int) (hi : strT[i]? = some xi) (hn : 0 ≤ n ∧ n ≤ 5) (hL : LEX S) (d : Nat) : Mt lay0 (d + 5) m_vo_addDirection [.ref 1, .ref (SB + i), iv n] S (Q_vo_addDirection S i xi n) := by
  refine Mt_R rfl rfl ?_
  have hF : FR md_vo_addDirection S S := FR.rf
  have hsli := str_sm hi
  refine l_aload_n rfl rfl ?_
  refine l_bipush rfl rfl ?_
  refine l_iload_n rfl rfl ?_
  refine l_aload_n rfl rfl ?_
  refine l_callS rfl rfl (by decide) rfl (t_vo_codeOf hH i xi hi _) ?_
  rintro _ _ ⟨rfl, z1, rfl⟩
  show Rl _ _ _ _ _ [jw z1, iv n, iv 14, .ref 1] _ _
  have w2 : 0 ≤ Xi S 1 3 ∧ Xi S 1 3 ≤ 200 := hH.c _ _
  refine l_callV rfl rfl rfl (t_vo_addEntry hH 14 n z1 ⟨by omega, by omega⟩ ⟨by omega, by omega⟩ (by first | assumption | exact (by assumption : LEX S)) (lexB14 (by omega) (by omega)) _) ?_
  rintro _ T1 ⟨hHT1, w7, rfl, w3, w4, w5⟩
  have hFT1 : FR md_vo_addDirection S T1 := FR.tr hF w7 rfl
  show Rl _ _ _ _ _ [] _ _
  refine l_return rfl rfl ?_
  exact ⟨hHT1, hFT1, rfl, (by assumption), (fun j => (hFT1.cx 5 rfl j).1)⟩
