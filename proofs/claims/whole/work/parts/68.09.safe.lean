/-! SAFETY of methods: printed by wip/safe (vc.py, decl.py) -/
abbrev Q_re_wasNew (S : sS) (from_ : Int) (to : Int) : pst := fun r S1 => S = S1 ∧ (∃ z : Int, r = some (iv z) ∧ (0 ≤ z ∧ z ≤ 1))
set_option maxRecDepth 100000 in
theorem t_re_wasNew {S : sS} (hH : HI S) (from_ : Int) (to : Int) (hfrom_ : 0 ≤ from_ ∧ from_ ≤ 5130) (hto : 0 ≤ to ∧ to ≤ 5130) (d : Nat) : Mt lay0 (d + 1) m_re_wasNew [.ref 891, iv from_, iv to] S (Q_re_wasNew S from_ to) := by
  refine Mt_R rfl rfl ?_
  have w1 : 0 ≤ Xi S 891 9 ∧ Xi S 891 9 ≤ 24 := hH.c _ _
  have C2 : ∀ (n2 : Nat) (v3 : Int), (0 ≤ v3 ∧ v3 ≤ 24) → n2 = (25 - v3).toNat → Rl lay0 (d + 0) m_re_wasNew 2 [(0, .ref 891), (1, iv from_), (2, iv to), (3, iv v3)] [] S (Q_re_wasNew S from_ to) := by
    intro n2
    induction n2 using Nat.strongRecOn with
    | ind n2 ih2 =>
      intro v3 w2 hm2
      have C36 : ∀ (n36 : Nat) (v3 : Int) (v4 : Int), (0 ≤ v3 ∧ v3 ≤ 23) → (-1 ≤ v4 ∧ v4 ≤ 5130) → (v4 ≠ -1 → Xi S 893 v3.toNat - Xi S 892 v3.toNat = to - from_ ∧ (v4 = 0 ∨ v4 ≤ to - from_)) → (v3 < Xi S 891 9) → (Xi S 893 v3.toNat ≤ 5130) → ((25 - v3).toNat ≤ n2) → n36 = (if v4 < 0 then 0 else 5131 - v4).toNat → Rl lay0 (d + 0) m_re_wasNew 36 [(0, .ref 891), (1, iv from_), (2, iv to), (3, iv v3), (4, iv v4)] [] S (Q_re_wasNew S from_ to) := by
        intro n36
        induction n36 using Nat.strongRecOn with
        | ind n36 ih36 =>
          intro v3 v4 w3 w4 w5 w6 w7 w8 hm36
          refine l_iload rfl rfl ?_
          refine l_if_lt rfl rfl (by unfold rg; omega) (fun w9 => ?_) (fun w10 => ?_)
          · refine l_iload rfl rfl ?_
            refine l_iconst rfl ?_
            refine l_icmp_eq rfl rfl (by unfold rg; omega) (by unfold rg; omega) (fun w11 => ?_) (fun w12 => ?_)
            · refine l_iinc rfl rfl rfl rfl ?_
              refine l_goto rfl rfl ?_
              exact Rl_weak (ih2 _ (by omega) ((v3 + 1)) (by omega) rfl) (And.intro rfl (And.intro rfl (And.intro rfl (And.intro rfl (True.intro)))))
            · refine l_iconst rfl ?_
              refine l_ireturn rfl rfl ?_
              exact ⟨rfl, _, rfl, ⟨by omega, by omega⟩⟩
          · refine l_iload rfl rfl ?_
            refine l_iload_n rfl rfl ?_
            refine l_iload_n rfl rfl ?_
            refine l_isub rfl ?_
            refine l_icmp_ge rfl rfl (by unfold rg; omega) (by unfold rg; omega) (fun w13 => ?_) (fun w14 => ?_)
            · refine l_iload rfl rfl ?_
              refine l_iconst rfl ?_
              refine l_icmp_eq rfl rfl (by unfold rg; omega) (by unfold rg; omega) (fun w15 => ?_) (fun w16 => ?_)
              · refine l_iinc rfl rfl rfl rfl ?_
                refine l_goto rfl rfl ?_
                exact Rl_weak (ih2 _ (by omega) ((v3 + 1)) (by omega) rfl) (And.intro rfl (And.intro rfl (And.intro rfl (And.intro rfl (True.intro)))))
              · refine l_iconst rfl ?_
                refine l_ireturn rfl rfl ?_
                exact ⟨rfl, _, rfl, ⟨by omega, by omega⟩⟩
            · refine l_aload_n rfl rfl ?_
              refine l_gfr rfl rfl rfl rfl rfl (hH.r 891 0 876 rfl) ?_
              refine l_gfr rfl rfl rfl rfl rfl (hH.r 876 2 879 rfl) ?_
              refine l_aload_n rfl rfl ?_
              refine l_gfr rfl rfl rfl rfl rfl (hH.r 891 7 892 rfl) ?_
              refine l_iload_n rfl rfl ?_
              refine l_iaload (n := 24) rfl rfl (by omega) (by omega) (by unfold rg; omega) ?_
              have w17 : 0 ≤ (Xi S 892 ((v3).toNat)) ∧ (Xi S 892 ((v3).toNat)) ≤ 5130 := hH.c _ _
              refine l_iload rfl rfl ?_
              refine l_iadd rfl ?_
              refine l_laload (n := 5130) rfl rfl (by omega) (by omega) (by unfold rg; omega) ?_
              have w18 : -9223372036854775808 ≤ (Xj S 879 ((((Xi S 892 ((v3).toNat)) + v4)).toNat)) ∧ (Xj S 879 ((((Xi S 892 ((v3).toNat)) + v4)).toNat)) < 9223372036854775808 := Xj_rg
              refine l_aload_n rfl rfl ?_
              refine l_gfr rfl rfl rfl rfl rfl (hH.r 891 0 876 rfl) ?_
              refine l_gfr rfl rfl rfl rfl rfl (hH.r 876 2 879 rfl) ?_
              refine l_iload_n rfl rfl ?_
              refine l_iload rfl rfl ?_
              refine l_iadd rfl ?_
              refine l_laload (n := 5130) rfl rfl (by omega) (by omega) (by unfold rg; omega) ?_
              have w19 : -9223372036854775808 ≤ (Xj S 879 (((from_ + v4)).toNat)) ∧ (Xj S 879 (((from_ + v4)).toNat)) < 9223372036854775808 := Xj_rg
              refine l_lcmpA rfl (fun c20 w20 => ?_)
              refine l_if_ne rfl rfl (by unfold rg; omega) (fun w21 => ?_) (fun w22 => ?_)
              · refine l_iconst rfl ?_
                refine l_istore rfl rfl rfl ?_
                refine l_goto rfl rfl ?_
                exact Rl_weak (ih36 _ (by omega) (v3) ((-1)) (by omega) (by omega) (by omega) (by omega) (by omega) (by omega) rfl) (And.intro rfl (And.intro rfl (And.intro rfl (And.intro rfl (And.intro rfl (True.intro))))))
              · refine l_iload rfl rfl ?_
                refine l_iconst rfl ?_
                refine l_iadd rfl ?_
                refine l_goto rfl rfl ?_
                refine l_istore rfl rfl rfl ?_
                refine l_goto rfl rfl ?_
                exact Rl_weak (ih36 _ (by omega) (v3) ((v4 + 1)) (by omega) (by omega) (by omega) (by omega) (by omega) (by omega) rfl) (And.intro rfl (And.intro rfl (And.intro rfl (And.intro rfl (And.intro rfl (True.intro))))))
      refine l_iload_n rfl rfl ?_
      refine l_aload_n rfl rfl ?_
      refine l_gfi rfl rfl rfl rfl rfl ?_
      refine l_icmp_ge rfl rfl (by unfold rg; omega) (by unfold rg; omega) (fun w23 => ?_) (fun w24 => ?_)
      · refine l_iconst rfl ?_
        refine l_ireturn rfl rfl ?_
        exact ⟨rfl, _, rfl, ⟨by omega, by omega⟩⟩
      · refine l_aload_n rfl rfl ?_
        refine l_gfr rfl rfl rfl rfl rfl (hH.r 891 8 893 rfl) ?_
        refine l_iload_n rfl rfl ?_
        refine l_iaload (n := 24) rfl rfl (by omega) (by omega) (by unfold rg; omega) ?_
        have w25 : 0 ≤ (Xi S 893 ((v3).toNat)) ∧ (Xi S 893 ((v3).toNat)) ≤ 5130 := hH.c _ _
        refine l_aload_n rfl rfl ?_
        refine l_gfr rfl rfl rfl rfl rfl (hH.r 891 7 892 rfl) ?_
        refine l_iload_n rfl rfl ?_
        refine l_iaload (n := 24) rfl rfl (by omega) (by omega) (by unfold rg; omega) ?_
        have w26 : 0 ≤ (Xi S 892 ((v3).toNat)) ∧ (Xi S 892 ((v3).toNat)) ≤ 5130 := hH.c _ _
        refine l_isub rfl ?_
        refine l_iload_n rfl rfl ?_
        refine l_iload_n rfl rfl ?_
        refine l_isub rfl ?_
        refine l_icmp_ne rfl rfl (by unfold rg; omega) (by unfold rg; omega) (fun w27 => ?_) (fun w28 => ?_)
        · refine l_iconst rfl ?_
          refine l_istore rfl rfl rfl ?_
          exact Rl_weak (C36 _ (v3) ((-1)) (by omega) (by omega) (by omega) (by omega) (by omega) (by omega) rfl) (And.intro rfl (And.intro rfl (And.intro rfl (And.intro rfl (And.intro rfl (True.intro))))))
        · refine l_iconst rfl ?_
          refine l_goto rfl rfl ?_
          refine l_istore rfl rfl rfl ?_
          exact Rl_weak (C36 _ (v3) (0) (by omega) (by omega) (by omega) (by omega) (by omega) (by omega) rfl) (And.intro rfl (And.intro rfl (And.intro rfl (And.intro rfl (And.intro rfl (True.intro))))))
  refine l_iconst rfl ?_
  refine l_istore_n rfl rfl rfl ?_
  exact Rl_weak (C2 _ (0) (by omega) rfl) (And.intro rfl (And.intro rfl (And.intro rfl (And.intro rfl (True.intro)))))
abbrev Q_re_beginsName (S : sS) (row : Int) : pst := fun r S1 => S = S1 ∧ (∃ z : Int, r = some (iv z) ∧ (0 ≤ z ∧ z ≤ 1) ∧ (z = 1 → 0 ≤ row ∧ row < Xi S 876 7 ∧ row < Xi S 890 3 ∧ Xi S 877 row.toNat = 100) ∧ (z = bgn S row))
set_option maxRecDepth 100000 in
theorem t_re_beginsName {S : sS} (hH : HI S) (row : Int) (hrow : 0 ≤ row ∧ row ≤ 5131) (d : Nat) : Mt lay0 (d + 2) m_re_beginsName [.ref 891, iv row] S (Q_re_beginsName S row) := by
  refine Mt_R rfl rfl ?_
  have w1 : 0 ≤ Xi S 876 7 ∧ Xi S 876 7 ≤ 5125 := hH.c _ _
  have w2 : -1 ≤ Xi S 890 3 ∧ Xi S 890 3 ≤ 5124 := hH.c _ _
  refine l_aload_n rfl rfl ?_
  refine l_gfr rfl rfl rfl rfl rfl (hH.r 891 0 876 rfl) ?_
  refine l_iload_n rfl rfl ?_
  refine l_iconst rfl ?_
  refine l_callV rfl rfl rfl (t_to_beginsRun hH row 0 ⟨by omega, by omega⟩ ⟨by omega, by omega⟩ _) ?_
  rintro _ _ ⟨rfl, z6, rfl, w6, w4, w5⟩
  show Rl _ _ _ _ _ [iv z6] _ _
  refine l_if_eq rfl rfl (by unfold rg; omega) (fun w7 => ?_) (fun w8 => ?_)
  · refine l_iconst rfl ?_
    refine l_ireturn rfl rfl ?_
    exact ⟨rfl, _, rfl, ⟨by omega, by omega⟩, (by omega), (by unfold bgn; first | exact (if_pos (by omega)).symm | exact (if_neg (by omega)).symm)⟩
  · refine l_iload_n rfl rfl ?_
    refine l_aload_n rfl rfl ?_
    refine l_gfr rfl rfl rfl rfl rfl (hH.r 891 1 890 rfl) ?_
    refine l_gfi rfl rfl rfl rfl rfl ?_
    refine l_icmp_ge rfl rfl (by unfold rg; omega) (by unfold rg; omega) (fun w9 => ?_) (fun w10 => ?_)
    · refine l_iconst rfl ?_
      refine l_ireturn rfl rfl ?_
      exact ⟨rfl, _, rfl, ⟨by omega, by omega⟩, (by omega), (by unfold bgn; first | exact (if_pos (by omega)).symm | exact (if_neg (by omega)).symm)⟩
    · refine l_iconst rfl ?_
      refine l_goto rfl rfl ?_
      refine l_ireturn rfl rfl ?_
      exact ⟨rfl, _, rfl, ⟨by omega, by omega⟩, (by omega), (by unfold bgn; first | exact (if_pos (by omega)).symm | exact (if_neg (by omega)).symm)⟩
abbrev Q_re_secondName (S : sS) : pst := fun r S1 => S = S1 ∧ (∃ z : Int, r = some (iv z) ∧ (-1 ≤ z ∧ z ≤ 5131))
set_option maxRecDepth 100000 in
theorem t_re_secondName {S : sS} (hH : HI S) (d : Nat) : Mt lay0 (d + 3) m_re_secondName [.ref 891] S (Q_re_secondName S) := by
  refine Mt_R rfl rfl ?_
  have C16 : ∀ (n16 : Nat) (v1 : Int), (0 ≤ v1 ∧ v1 ≤ 5140) → n16 = (5131 - v1).toNat → Rl lay0 (d + 2) m_re_secondName 16 [(0, .ref 891), (1, iv v1)] [] S (Q_re_secondName S) := by
    intro n16
    induction n16 using Nat.strongRecOn with
    | ind n16 ih16 =>
      intro v1 w1 hm16
      refine l_iload_n rfl rfl ?_
      refine l_aload_n rfl rfl ?_
      refine l_gfr rfl rfl rfl rfl rfl (hH.r 891 1 890 rfl) ?_
      refine l_gfi rfl rfl rfl rfl rfl ?_
      have w2 : -1 ≤ (Xi S 890 3) ∧ (Xi S 890 3) ≤ 5124 := hH.c _ _
      refine l_icmp_ge rfl rfl (by unfold rg; omega) (by unfold rg; omega) (fun w3 => ?_) (fun w4 => ?_)
      · refine l_iconst rfl ?_
        refine l_ireturn rfl rfl ?_
        exact ⟨rfl, _, rfl, ⟨by omega, by omega⟩⟩
      · refine l_aload_n rfl rfl ?_
        refine l_iload_n rfl rfl ?_
        have w5 : 0 ≤ Xi S 876 7 ∧ Xi S 876 7 ≤ 5125 := hH.c _ _
        have w6 : -1 ≤ Xi S 890 3 ∧ Xi S 890 3 ≤ 5124 := hH.c _ _
        refine l_callV rfl rfl rfl (t_re_beginsName hH v1 ⟨by omega, by omega⟩ _) ?_
        rintro _ _ ⟨rfl, z9, rfl, w9, w7, w8⟩
        show Rl _ _ _ _ _ [iv z9] _ _
        refine l_if_eq rfl rfl (by unfold rg; omega) (fun w10 => ?_) (fun w11 => ?_)
        · refine l_iinc rfl rfl rfl rfl ?_
          refine l_goto rfl rfl ?_
          exact Rl_weak (ih16 _ (by omega) ((v1 + 1)) (by omega) rfl) (And.intro rfl (And.intro rfl (True.intro)))
        · refine l_iload_n rfl rfl ?_
          refine l_ireturn rfl rfl ?_
          exact ⟨rfl, _, rfl, ⟨by omega, by omega⟩⟩
  refine l_aload_n rfl rfl ?_
  refine l_gfr rfl rfl rfl rfl rfl (hH.r 891 0 876 rfl) ?_
  refine l_aload_n rfl rfl ?_
  refine l_gfr rfl rfl rfl rfl rfl (hH.r 891 0 876 rfl) ?_
  refine l_iconst rfl ?_
  have w12 : 0 ≤ Xi S 876 7 ∧ Xi S 876 7 ≤ 5125 := hH.c _ _
  refine l_callV rfl rfl rfl (t_to_behindArt hH 0 ⟨by omega, by omega⟩ _) ?_
  rintro _ _ ⟨rfl, z14, rfl, w14, w13⟩
  show Rl _ _ _ _ _ [iv z14, .ref 876] _ _
  refine l_callV rfl rfl rfl (t_to_runEnd hH z14 ⟨by omega, by omega⟩ _) ?_
  rintro _ _ ⟨rfl, z23, rfl, w23, w16, w17, w18, w19, w20, w21, w22⟩
  show Rl _ _ _ _ _ [iv z23] _ _
  refine l_istore_n rfl rfl rfl ?_
  exact Rl_weak (C16 _ (z23) (by omega) rfl) (And.intro rfl (And.intro rfl (True.intro)))
abbrev Q_re_tellsUsually (S : sS) : pst := fun r S1 => S = S1 ∧ (∃ z : Int, r = some (iv z) ∧ (0 ≤ z ∧ z ≤ 1))
set_option maxRecDepth 100000 in
theorem t_re_tellsUsually {S : sS} (hH : HI S) (d : Nat) : Mt lay0 (d + 2) m_re_tellsUsually [.ref 891] S (Q_re_tellsUsually S) := by
  refine Mt_R rfl rfl ?_
  refine l_aload_n rfl rfl ?_
  refine l_gfr rfl rfl rfl rfl rfl (hH.r 891 0 876 rfl) ?_
  refine l_aload_n rfl rfl ?_
  refine l_gfr rfl rfl rfl rfl rfl (hH.r 891 1 890 rfl) ?_
  refine l_gfi rfl rfl rfl rfl rfl ?_
  have w1 : -1 ≤ (Xi S 890 3) ∧ (Xi S 890 3) ≤ 5124 := hH.c _ _
  refine l_iconst rfl ?_
  refine l_iadd rfl ?_
  have w2 : 0 ≤ Xi S 876 7 ∧ Xi S 876 7 ≤ 5125 := hH.c _ _
  refine l_callV rfl rfl rfl (t_to_typeAt hH ((Xi S 890 3) + 1) ⟨by omega, by omega⟩ _) ?_
  rintro _ _ ⟨rfl, z6, rfl, w6, w3, w4, w5⟩
  show Rl _ _ _ _ _ [iv z6] _ _
  refine l_bipush rfl rfl ?_
  refine l_icmp_ne rfl rfl (by unfold rg; omega) (by unfold rg; omega) (fun w7 => ?_) (fun w8 => ?_)
  · refine l_iconst rfl ?_
    refine l_ireturn rfl rfl ?_
    exact ⟨rfl, _, rfl, ⟨by omega, by omega⟩⟩
  · refine l_iconst rfl ?_
    refine l_goto rfl rfl ?_
    refine l_ireturn rfl rfl ?_
    exact ⟨rfl, _, rfl, ⟨by omega, by omega⟩⟩
abbrev Q_re_typeMeant (S : sS) (from_ : Int) : pst := fun r S1 => S = S1 ∧ (∃ z : Int, r = some (iv z) ∧ (-1 ≤ z ∧ z ≤ 7))
set_option maxRecDepth 100000 in
theorem t_re_typeMeant {S : sS} (hH : HI S) (from_ : Int) (hfrom_ : 0 ≤ from_ ∧ from_ ≤ 5140) (hL : LEX S) (d : Nat) : Mt lay0 (d + 3) m_re_typeMeant [.ref 891, iv from_] S (Q_re_typeMeant S from_) := by
  refine Mt_R rfl rfl ?_
  refine l_aload_n rfl rfl ?_
  refine l_gfr rfl rfl rfl rfl rfl (hH.r 891 2 1 rfl) ?_
  refine l_aload_n rfl rfl ?_
  refine l_gfr rfl rfl rfl rfl rfl (hH.r 891 0 876 rfl) ?_
  refine l_gfr rfl rfl rfl rfl rfl (hH.r 876 2 879 rfl) ?_
  refine l_iload_n rfl rfl ?_
  refine l_aload_n rfl rfl ?_
  refine l_gfr rfl rfl rfl rfl rfl (hH.r 891 0 876 rfl) ?_
  refine l_iload_n rfl rfl ?_
  have w1 : 0 ≤ Xi S 876 7 ∧ Xi S 876 7 ≤ 5125 := hH.c _ _
  refine l_callV rfl rfl rfl (t_to_runEnd hH from_ ⟨by omega, by omega⟩ _) ?_
  rintro _ _ ⟨rfl, z9, rfl, w9, w2, w3, w4, w5, w6, w7, w8⟩
  show Rl _ _ _ _ _ [iv z9, iv from_, .ref 879, .ref 1] _ _
  refine l_callV rfl rfl rfl (t_vo_meaning hH 879 5130 from_ z9 rfl ⟨by omega, by omega⟩ ⟨by omega, by omega⟩ ⟨by omega, by omega⟩ (by first | assumption | exact (by assumption : LEX S)) _) ?_
  rintro _ _ ⟨rfl, z13, rfl, w13, w10, w11, w12⟩
  show Rl _ _ _ _ _ [iv z13] _ _
  have hmnz13 := mOK_n (z := z13) (by assumption)
  refine l_istore_n rfl rfl rfl ?_
  refine l_iload_n rfl rfl ?_
  refine l_bipush rfl rfl ?_
  refine l_ishr8 rfl (by unfold rg; omega) ?_
  refine l_iconst rfl ?_
  refine l_icmp_eq rfl rfl (by unfold rg; omega) (by unfold rg; omega) (fun w15 => ?_) (fun w16 => ?_)
  · refine l_iconst rfl ?_
    refine l_goto rfl rfl ?_
    refine l_istore_n rfl rfl rfl ?_
    refine l_iload_n rfl rfl ?_
    refine l_if_eq rfl rfl (by unfold rg; omega) (fun w17 => absurd w17 (by omega)) (fun w18 => ?_)
    · refine l_iload_n rfl rfl ?_
      refine l_sipush rfl rfl ?_
      refine l_iand255 rfl (by unfold rg; omega) ?_
      have w20 := fb1 hH (lx (z := z13) (by assumption) (by omega) (by omega))
      refine l_iconst rfl ?_
      refine l_icmp_le rfl rfl (by unfold rg; omega) (by unfold rg; omega) (fun w21 => ?_) (fun w22 => ?_)
      · refine l_iconst rfl ?_
        refine l_ireturn rfl rfl ?_
        exact ⟨rfl, _, rfl, ⟨by omega, by omega⟩⟩
      · refine l_iload_n rfl rfl ?_
        refine l_sipush rfl rfl ?_
        refine l_iand255 rfl (by unfold rg; omega) ?_
        have w24 := fb1 hH (lx (z := z13) (by assumption) (by omega) (by omega))
        refine l_goto rfl rfl ?_
        refine l_ireturn rfl rfl ?_
        exact ⟨rfl, _, rfl, ⟨by omega, by omega⟩⟩
  · refine l_iload_n rfl rfl ?_
    refine l_bipush rfl rfl ?_
    refine l_ishr8 rfl (by unfold rg; omega) ?_
    refine l_bipush rfl rfl ?_
    refine l_icmp_ne rfl rfl (by unfold rg; omega) (by unfold rg; omega) (fun w26 => ?_) (fun w27 => ?_)
    · refine l_iconst rfl ?_
      refine l_istore_n rfl rfl rfl ?_
      refine l_iload_n rfl rfl ?_
      refine l_if_eq rfl rfl (by unfold rg; omega) (fun w28 => ?_) (fun w29 => absurd w29 (by omega))
      · refine l_iconst rfl ?_
        refine l_ireturn rfl rfl ?_
        exact ⟨rfl, _, rfl, ⟨by omega, by omega⟩⟩
    · refine l_iconst rfl ?_
      refine l_goto rfl rfl ?_
      refine l_istore_n rfl rfl rfl ?_
      refine l_iload_n rfl rfl ?_
      refine l_if_eq rfl rfl (by unfold rg; omega) (fun w30 => absurd w30 (by omega)) (fun w31 => ?_)
      · refine l_iload_n rfl rfl ?_
        refine l_sipush rfl rfl ?_
        refine l_iand255 rfl (by unfold rg; omega) ?_
        have w33 := fb12 hH (lx (z := z13) (by assumption) (by omega) (by omega))
        refine l_iconst rfl ?_
        refine l_icmp_le rfl rfl (by unfold rg; omega) (by unfold rg; omega) (fun w34 => ?_) (fun w35 => ?_)
        · refine l_iconst rfl ?_
          refine l_ireturn rfl rfl ?_
          exact ⟨rfl, _, rfl, ⟨by omega, by omega⟩⟩
        · refine l_iload_n rfl rfl ?_
          refine l_sipush rfl rfl ?_
          refine l_iand255 rfl (by unfold rg; omega) ?_
          have w37 := fb12 hH (lx (z := z13) (by assumption) (by omega) (by omega))
          refine l_goto rfl rfl ?_
          refine l_ireturn rfl rfl ?_
          exact ⟨rfl, _, rfl, ⟨by omega, by omega⟩⟩
abbrev Q_re_tellsValues (S : sS) : pst := fun r S1 => S = S1 ∧ (∃ z : Int, r = some (iv z) ∧ (0 ≤ z ∧ z ≤ 1))
set_option maxRecDepth 100000 in
theorem t_re_tellsValues {S : sS} (hH : HI S) (hL : LEX S) (d : Nat) : Mt lay0 (d + 4) m_re_tellsValues [.ref 891] S (Q_re_tellsValues S) := by
  refine Mt_R rfl rfl ?_
  refine l_aload_n rfl rfl ?_
  refine l_gfr rfl rfl rfl rfl rfl (hH.r 891 0 876 rfl) ?_
  refine l_aload_n rfl rfl ?_
  refine l_gfr rfl rfl rfl rfl rfl (hH.r 891 1 890 rfl) ?_
  refine l_gfi rfl rfl rfl rfl rfl ?_
  have w1 : -1 ≤ (Xi S 890 3) ∧ (Xi S 890 3) ≤ 5124 := hH.c _ _
  refine l_iconst rfl ?_
  refine l_iadd rfl ?_
  have w2 : 0 ≤ Xi S 876 7 ∧ Xi S 876 7 ≤ 5125 := hH.c _ _
  refine l_callV rfl rfl rfl (t_to_typeAt hH ((Xi S 890 3) + 1) ⟨by omega, by omega⟩ _) ?_
  rintro _ _ ⟨rfl, z6, rfl, w6, w3, w4, w5⟩
  show Rl _ _ _ _ _ [iv z6] _ _
  refine l_bipush rfl rfl ?_
  refine l_icmp_eq rfl rfl (by unfold rg; omega) (by unfold rg; omega) (fun w7 => ?_) (fun w8 => ?_)
  · refine l_iconst rfl ?_
    refine l_ireturn rfl rfl ?_
    exact ⟨rfl, _, rfl, ⟨by omega, by omega⟩⟩
  · refine l_aload_n rfl rfl ?_
    refine l_callV rfl rfl rfl (t_re_secondName hH _) ?_
    rintro _ _ ⟨rfl, z9, rfl, w9⟩
    show Rl _ _ _ _ _ [iv z9] _ _
    refine l_iconst rfl ?_
    refine l_icmp_ne rfl rfl (by unfold rg; omega) (by unfold rg; omega) (fun w10 => ?_) (fun w11 => ?_)
    · refine l_iconst rfl ?_
      refine l_ireturn rfl rfl ?_
      exact ⟨rfl, _, rfl, ⟨by omega, by omega⟩⟩
    · refine l_aload_n rfl rfl ?_
      refine l_aload_n rfl rfl ?_
      refine l_gfr rfl rfl rfl rfl rfl (hH.r 891 0 876 rfl) ?_
      refine l_iconst rfl ?_
      refine l_callV rfl rfl rfl (t_to_behindArt hH 0 ⟨by omega, by omega⟩ _) ?_
      rintro _ _ ⟨rfl, z14, rfl, w14, w13⟩
      show Rl _ _ _ _ _ [iv z14, .ref 891] _ _
      refine l_callV rfl rfl rfl (t_re_typeMeant hH z14 ⟨by omega, by omega⟩ (by first | assumption | exact (by assumption : LEX S)) _) ?_
      rintro _ _ ⟨rfl, z15, rfl, w15⟩
      show Rl _ _ _ _ _ [iv z15] _ _
      refine l_iconst rfl ?_
      refine l_icmp_eq rfl rfl (by unfold rg; omega) (by unfold rg; omega) (fun w16 => ?_) (fun w17 => ?_)
      · refine l_iconst rfl ?_
        refine l_ireturn rfl rfl ?_
        exact ⟨rfl, _, rfl, ⟨by omega, by omega⟩⟩
      · refine l_iconst rfl ?_
        refine l_goto rfl rfl ?_
        refine l_ireturn rfl rfl ?_
        exact ⟨rfl, _, rfl, ⟨by omega, by omega⟩⟩
abbrev Q_re_kindMeant (S : sS) (from_ : Int) : pst := fun r S1 => S = S1 ∧ (∃ z : Int, r = some (iv z) ∧ (-1 ≤ z ∧ z ≤ 15))
set_option maxRecDepth 100000 in
theorem t_re_kindMeant {S : sS} (hH : HI S) (from_ : Int) (hfrom_ : 0 ≤ from_ ∧ from_ ≤ 5140) (hL : LEX S) (d : Nat) : Mt lay0 (d + 3) m_re_kindMeant [.ref 891, iv from_] S (Q_re_kindMeant S from_) := by
  refine Mt_R rfl rfl ?_
  refine l_aload_n rfl rfl ?_
  refine l_gfr rfl rfl rfl rfl rfl (hH.r 891 2 1 rfl) ?_
  refine l_aload_n rfl rfl ?_
  refine l_gfr rfl rfl rfl rfl rfl (hH.r 891 0 876 rfl) ?_
  refine l_gfr rfl rfl rfl rfl rfl (hH.r 876 2 879 rfl) ?_
  refine l_iload_n rfl rfl ?_
  refine l_aload_n rfl rfl ?_
  refine l_gfr rfl rfl rfl rfl rfl (hH.r 891 0 876 rfl) ?_
  refine l_iload_n rfl rfl ?_
  have w1 : 0 ≤ Xi S 876 7 ∧ Xi S 876 7 ≤ 5125 := hH.c _ _
  refine l_callV rfl rfl rfl (t_to_runEnd hH from_ ⟨by omega, by omega⟩ _) ?_
  rintro _ _ ⟨rfl, z9, rfl, w9, w2, w3, w4, w5, w6, w7, w8⟩
  show Rl _ _ _ _ _ [iv z9, iv from_, .ref 879, .ref 1] _ _
  refine l_callV rfl rfl rfl (t_vo_meaning hH 879 5130 from_ z9 rfl ⟨by omega, by omega⟩ ⟨by omega, by omega⟩ ⟨by omega, by omega⟩ (by first | assumption | exact (by assumption : LEX S)) _) ?_
  rintro _ _ ⟨rfl, z13, rfl, w13, w10, w11, w12⟩
  show Rl _ _ _ _ _ [iv z13] _ _
  have hmnz13 := mOK_n (z := z13) (by assumption)
  refine l_istore_n rfl rfl rfl ?_
  refine l_iload_n rfl rfl ?_
  refine l_bipush rfl rfl ?_
  refine l_ishr8 rfl (by unfold rg; omega) ?_
  refine l_if_eq rfl rfl (by unfold rg; omega) (fun w15 => ?_) (fun w16 => ?_)
  · refine l_iload_n rfl rfl ?_
    refine l_sipush rfl rfl ?_
    refine l_iand255 rfl (by unfold rg; omega) ?_
    have w18 := fb0 hH (lx (z := z13) (by assumption) (by omega) (by omega))
    refine l_goto rfl rfl ?_
    refine l_ireturn rfl rfl ?_
    exact ⟨rfl, _, rfl, ⟨by omega, by omega⟩⟩
  · refine l_iload_n rfl rfl ?_
    refine l_bipush rfl rfl ?_
    refine l_ishr8 rfl (by unfold rg; omega) ?_
    refine l_bipush rfl rfl ?_
    refine l_icmp_ne rfl rfl (by unfold rg; omega) (by unfold rg; omega) (fun w20 => ?_) (fun w21 => ?_)
    · refine l_iconst rfl ?_
      refine l_ireturn rfl rfl ?_
      exact ⟨rfl, _, rfl, ⟨by omega, by omega⟩⟩
    · refine l_iload_n rfl rfl ?_
      refine l_sipush rfl rfl ?_
      refine l_iand255 rfl (by unfold rg; omega) ?_
      have w23 := fb11 hH (lx (z := z13) (by assumption) (by omega) (by omega))
      refine l_goto rfl rfl ?_
      refine l_ireturn rfl rfl ?_
      exact ⟨rfl, _, rfl, ⟨by omega, by omega⟩⟩
abbrev Q_re_canHold (S : sS) (o : Int) (how : Int) : pst := fun r S1 => S = S1 ∧ (∃ z : Int, r = some (iv z) ∧ (0 ≤ z ∧ z ≤ 1))
set_option maxRecDepth 100000 in
theorem t_re_canHold {S : sS} (hH : HI S) (o : Int) (how : Int) (ho : 0 ≤ o ∧ o ≤ 23) (hhow : -2147483648 ≤ how ∧ how ≤ 2147483647) (d : Nat) : Mt lay0 (d + 3) m_re_canHold [.ref 891, iv o, iv how] S (Q_re_canHold S o how) := by
  refine Mt_R rfl rfl ?_
  refine l_iload_n rfl rfl ?_
  refine l_tsw rfl rfl rfl rfl (by unfold rg; omega) (fun w1 => ?_) (fun ii tt hii w1 => ?_)
  · refine l_aload_n rfl rfl ?_
    refine l_gfr rfl rfl rfl rfl rfl (hH.r 891 3 20 rfl) ?_
    refine l_iload_n rfl rfl ?_
    refine l_iconst rfl ?_
    refine l_callV rfl rfl rfl (t_wo_isA hH o 4 ⟨by omega, by omega⟩ ⟨by omega, by omega⟩ _) ?_
    rintro _ _ ⟨rfl, z3, rfl, w3, w2⟩
    show Rl _ _ _ _ _ [iv z3] _ _
    refine l_ireturn rfl (retI_z (by omega)) ?_
    exact ⟨rfl, _, rfl, ⟨by omega, by omega⟩⟩
  · match ii, hii with
    | 0, hii =>
      cases hii
      have w4 : how = 1 := by simpa using w1
      refine l_aload_n rfl rfl ?_
      refine l_gfr rfl rfl rfl rfl rfl (hH.r 891 3 20 rfl) ?_
      refine l_iload_n rfl rfl ?_
      refine l_iconst rfl ?_
      refine l_callV rfl rfl rfl (t_wo_isA hH o 2 ⟨by omega, by omega⟩ ⟨by omega, by omega⟩ _) ?_
      rintro _ _ ⟨rfl, z6, rfl, w6, w5⟩
      show Rl _ _ _ _ _ [iv z6] _ _
      refine l_if_ne rfl rfl (by unfold rg; omega) (fun w7 => ?_) (fun w8 => ?_)
      · refine l_iconst rfl ?_
        refine l_goto rfl rfl ?_
        refine l_ireturn rfl rfl ?_
        exact ⟨rfl, _, rfl, ⟨by omega, by omega⟩⟩
      · refine l_aload_n rfl rfl ?_
        refine l_gfr rfl rfl rfl rfl rfl (hH.r 891 3 20 rfl) ?_
        refine l_iload_n rfl rfl ?_
        refine l_iconst rfl ?_
        refine l_callV rfl rfl rfl (t_wo_isA hH o 1 ⟨by omega, by omega⟩ ⟨by omega, by omega⟩ _) ?_
        rintro _ _ ⟨rfl, z10, rfl, w10, w9⟩
        show Rl _ _ _ _ _ [iv z10] _ _
        refine l_if_eq rfl rfl (by unfold rg; omega) (fun w11 => ?_) (fun w12 => ?_)
        · refine l_iconst rfl ?_
          refine l_ireturn rfl rfl ?_
          exact ⟨rfl, _, rfl, ⟨by omega, by omega⟩⟩
        · refine l_iconst rfl ?_
          refine l_goto rfl rfl ?_
          refine l_ireturn rfl rfl ?_
          exact ⟨rfl, _, rfl, ⟨by omega, by omega⟩⟩
    | 1, hii =>
      cases hii
      have w13 : how = 2 := by simpa using w1
      refine l_aload_n rfl rfl ?_
      refine l_gfr rfl rfl rfl rfl rfl (hH.r 891 3 20 rfl) ?_
      refine l_iload_n rfl rfl ?_
      refine l_iconst rfl ?_
      refine l_callV rfl rfl rfl (t_wo_isA hH o 3 ⟨by omega, by omega⟩ ⟨by omega, by omega⟩ _) ?_
      rintro _ _ ⟨rfl, z15, rfl, w15, w14⟩
      show Rl _ _ _ _ _ [iv z15] _ _
      refine l_ireturn rfl (retI_z (by omega)) ?_
      exact ⟨rfl, _, rfl, ⟨by omega, by omega⟩⟩
    | 2, hii =>
      cases hii
      have w16 : how = 3 := by simpa using w1
      refine l_aload_n rfl rfl ?_
      refine l_gfr rfl rfl rfl rfl rfl (hH.r 891 3 20 rfl) ?_
      refine l_iload_n rfl rfl ?_
      refine l_iconst rfl ?_
      refine l_callV rfl rfl rfl (t_wo_isA hH o 0 ⟨by omega, by omega⟩ ⟨by omega, by omega⟩ _) ?_
      rintro _ _ ⟨rfl, z18, rfl, w18, w17⟩
      show Rl _ _ _ _ _ [iv z18] _ _
      refine l_ireturn rfl (retI_z (by omega)) ?_
      exact ⟨rfl, _, rfl, ⟨by omega, by omega⟩⟩
    | n + 3, hii => exact absurd hii (by simp)
/-! SAFETY of methods: printed by wip/safe (vc.py, decl.py) -/
abbrev Q_re_isObjectList (S : sS) (from_ : Int) (to : Int) (kind : Int) : pst := fun r S1 => S = S1 ∧ (∃ z : Int, r = some (iv z) ∧ (0 ≤ z ∧ z ≤ 1))
set_option maxRecDepth 100000 in
theorem t_re_isObjectList {S : sS} (hH : HI S) (from_ : Int) (to : Int) (kind : Int) (hfrom_ : 0 ≤ from_ ∧ from_ ≤ 5140) (hto : 0 ≤ to ∧ to ≤ 5140) (hkind : 0 ≤ kind ∧ kind ≤ 15) (hL : LEX S) (d : Nat) : Mt lay0 (d + 3) m_re_isObjectList [.ref 891, iv from_, iv to, iv kind] S (Q_re_isObjectList S from_ to kind) := by
  refine Mt_R rfl rfl ?_
  have C3 : ∀ (n3 : Nat) (v4 : Int), (0 ≤ v4 ∧ v4 ≤ 5150) → n3 = (5200 - v4).toNat → Rl lay0 (d + 2) m_re_isObjectList 3 [(0, .ref 891), (2, iv to), (3, iv kind), (4, iv v4)] [] S (Q_re_isObjectList S from_ to kind) := by
    intro n3
    induction n3 using Nat.strongRecOn with
    | ind n3 ih3 =>
      intro v4 w1 hm3
      refine l_iload rfl rfl ?_
      refine l_iload_n rfl rfl ?_
      refine l_icmp_ge rfl rfl (by unfold rg; omega) (by unfold rg; omega) (fun w2 => ?_) (fun w3 => ?_)
      · refine l_iconst rfl ?_
        refine l_ireturn rfl rfl ?_
        exact ⟨rfl, _, rfl, ⟨by omega, by omega⟩⟩
      · refine l_aload_n rfl rfl ?_
        refine l_gfr rfl rfl rfl rfl rfl (hH.r 891 0 876 rfl) ?_
        refine l_iload rfl rfl ?_
        have w4 : 0 ≤ Xi S 876 7 ∧ Xi S 876 7 ≤ 5125 := hH.c _ _
        refine l_callV rfl rfl rfl (t_to_typeAt hH v4 ⟨by omega, by omega⟩ _) ?_
        rintro _ _ ⟨rfl, z8, rfl, w8, w5, w6, w7⟩
        show Rl _ _ _ _ _ [iv z8] _ _
        refine l_callS rfl rfl (by decide) rfl (t_rs_isArt hH z8 ⟨by omega, by omega⟩ _) ?_
        rintro _ _ ⟨rfl, z10, rfl, w10, w9⟩
        show Rl _ _ _ _ _ [iv z10] _ _
        refine l_if_eq rfl rfl (by unfold rg; omega) (fun w11 => ?_) (fun w12 => ?_)
        · refine l_iload rfl rfl ?_
          refine l_istore rfl rfl rfl ?_
          refine l_aload_n rfl rfl ?_
          refine l_gfr rfl rfl rfl rfl rfl (hH.r 891 0 876 rfl) ?_
          refine l_iload rfl rfl ?_
          refine l_iload_n rfl rfl ?_
          refine l_callV rfl rfl rfl (t_to_runEndUpTo hH v4 to ⟨by omega, by omega⟩ ⟨by omega, by omega⟩ _) ?_
          rintro _ _ ⟨rfl, z21, rfl, w21, w14, w15, w16, w17, w18, w19, w20⟩
          show Rl _ _ _ _ _ [iv z21] _ _
          refine l_istore rfl rfl rfl ?_
          refine l_aload_n rfl rfl ?_
          refine l_gfr rfl rfl rfl rfl rfl (hH.r 891 4 895 rfl) ?_
          refine l_iconst rfl ?_
          refine l_iload rfl rfl ?_
          refine l_iload rfl rfl ?_
          refine l_callV rfl rfl rfl (t_me_find hH 2 v4 z21 ⟨by omega, by omega⟩ ⟨by omega, by omega⟩ ⟨by omega, by omega⟩ (by first | assumption | exact (by assumption : LEX S)) _) ?_
          rintro _ _ ⟨rfl, z25, rfl, w25, w22, w23, w24⟩
          have w26 : z25 ≠ -1 → _ := fun h => fb2 hH (w22 h)
          show Rl _ _ _ _ _ [iv z25] _ _
          refine l_istore rfl rfl rfl ?_
          refine l_iload rfl rfl ?_
          refine l_iconst rfl ?_
          refine l_icmp_eq rfl rfl (by unfold rg; omega) (by unfold rg; omega) (fun w27 => ?_) (fun w28 => ?_)
          · refine l_iconst rfl ?_
            refine l_ireturn rfl rfl ?_
            exact ⟨rfl, _, rfl, ⟨by omega, by omega⟩⟩
          · refine l_aload_n rfl rfl ?_
            refine l_gfr rfl rfl rfl rfl rfl (hH.r 891 3 20 rfl) ?_
            refine l_iload rfl rfl ?_
            refine l_iload_n rfl rfl ?_
            refine l_callV rfl rfl rfl (t_wo_isA hH z25 kind ⟨by omega, by omega⟩ ⟨by omega, by omega⟩ _) ?_
            rintro _ _ ⟨rfl, z30, rfl, w30, w29⟩
            show Rl _ _ _ _ _ [iv z30] _ _
            refine l_if_ne rfl rfl (by unfold rg; omega) (fun w31 => ?_) (fun w32 => ?_)
            · refine l_iload rfl rfl ?_
              refine l_iload_n rfl rfl ?_
              refine l_icmp_ne rfl rfl (by unfold rg; omega) (by unfold rg; omega) (fun w33 => ?_) (fun w34 => ?_)
              · refine l_aload_n rfl rfl ?_
                refine l_gfr rfl rfl rfl rfl rfl (hH.r 891 0 876 rfl) ?_
                refine l_iload rfl rfl ?_
                refine l_callV rfl rfl rfl (t_to_typeAt hH z21 ⟨by omega, by omega⟩ _) ?_
                rintro _ _ ⟨rfl, z39, rfl, w39, w36, w37, w38⟩
                show Rl _ _ _ _ _ [iv z39] _ _
                refine l_istore rfl rfl rfl ?_
                refine l_iload rfl rfl ?_
                refine l_bipush rfl rfl ?_
                refine l_icmp_eq rfl rfl (by unfold rg; omega) (by unfold rg; omega) (fun w40 => ?_) (fun w41 => ?_)
                · refine l_iload rfl rfl ?_
                  refine l_bipush rfl rfl ?_
                  refine l_icmp_ne rfl rfl (by unfold rg; omega) (by unfold rg; omega) (fun w42 => ?_) (fun w43 => ?_)
                  · refine l_iload rfl rfl ?_
                    refine l_iconst rfl ?_
                    refine l_iadd rfl ?_
                    refine l_istore rfl rfl rfl ?_
                    refine l_goto rfl rfl ?_
                    exact Rl_weak (ih3 _ (by omega) ((z21 + 1)) (by omega) rfl) (And.intro rfl (And.intro rfl (And.intro rfl (And.intro rfl (True.intro)))))
                  · refine l_aload_n rfl rfl ?_
                    refine l_gfr rfl rfl rfl rfl rfl (hH.r 891 0 876 rfl) ?_
                    refine l_iload rfl rfl ?_
                    refine l_iconst rfl ?_
                    refine l_iadd rfl ?_
                    refine l_callV rfl rfl rfl (t_to_typeAt hH (z21 + 1) ⟨by omega, by omega⟩ _) ?_
                    rintro _ _ ⟨rfl, z48, rfl, w48, w45, w46, w47⟩
                    show Rl _ _ _ _ _ [iv z48] _ _
                    refine l_bipush rfl rfl ?_
                    refine l_icmp_ne rfl rfl (by unfold rg; omega) (by unfold rg; omega) (fun w49 => ?_) (fun w50 => ?_)
                    · refine l_iload rfl rfl ?_
                      refine l_iconst rfl ?_
                      refine l_iadd rfl ?_
                      refine l_istore rfl rfl rfl ?_
                      refine l_goto rfl rfl ?_
                      exact Rl_weak (ih3 _ (by omega) ((z21 + 1)) (by omega) rfl) (And.intro rfl (And.intro rfl (And.intro rfl (And.intro rfl (True.intro)))))
                    · refine l_iload rfl rfl ?_
                      refine l_iconst rfl ?_
                      refine l_iadd rfl ?_
                      refine l_goto rfl rfl ?_
                      refine l_istore rfl rfl rfl ?_
                      refine l_goto rfl rfl ?_
                      exact Rl_weak (ih3 _ (by omega) ((z21 + 2)) (by omega) rfl) (And.intro rfl (And.intro rfl (And.intro rfl (And.intro rfl (True.intro)))))
                · refine l_iload rfl rfl ?_
                  refine l_bipush rfl rfl ?_
                  refine l_icmp_eq rfl rfl (by unfold rg; omega) (by unfold rg; omega) (fun w51 => ?_) (fun w52 => ?_)
                  · refine l_iload rfl rfl ?_
                    refine l_bipush rfl rfl ?_
                    refine l_icmp_ne rfl rfl (by unfold rg; omega) (by unfold rg; omega) (fun w53 => ?_) (fun w54 => ?_)
                    · refine l_iload rfl rfl ?_
                      refine l_iconst rfl ?_
                      refine l_iadd rfl ?_
                      refine l_istore rfl rfl rfl ?_
                      refine l_goto rfl rfl ?_
                      exact Rl_weak (ih3 _ (by omega) ((z21 + 1)) (by omega) rfl) (And.intro rfl (And.intro rfl (And.intro rfl (And.intro rfl (True.intro)))))
                    · refine l_aload_n rfl rfl ?_
                      refine l_gfr rfl rfl rfl rfl rfl (hH.r 891 0 876 rfl) ?_
                      refine l_iload rfl rfl ?_
                      refine l_iconst rfl ?_
                      refine l_iadd rfl ?_
                      refine l_callV rfl rfl rfl (t_to_typeAt hH (z21 + 1) ⟨by omega, by omega⟩ _) ?_
                      rintro _ _ ⟨rfl, z59, rfl, w59, w56, w57, w58⟩
                      show Rl _ _ _ _ _ [iv z59] _ _
                      refine l_bipush rfl rfl ?_
                      refine l_icmp_ne rfl rfl (by unfold rg; omega) (by unfold rg; omega) (fun w60 => ?_) (fun w61 => ?_)
                      · refine l_iload rfl rfl ?_
                        refine l_iconst rfl ?_
                        refine l_iadd rfl ?_
                        refine l_istore rfl rfl rfl ?_
                        refine l_goto rfl rfl ?_
                        exact Rl_weak (ih3 _ (by omega) ((z21 + 1)) (by omega) rfl) (And.intro rfl (And.intro rfl (And.intro rfl (And.intro rfl (True.intro)))))
                      · refine l_iload rfl rfl ?_
                        refine l_iconst rfl ?_
                        refine l_iadd rfl ?_
                        refine l_goto rfl rfl ?_
                        refine l_istore rfl rfl rfl ?_
                        refine l_goto rfl rfl ?_
                        exact Rl_weak (ih3 _ (by omega) ((z21 + 2)) (by omega) rfl) (And.intro rfl (And.intro rfl (And.intro rfl (And.intro rfl (True.intro)))))
                  · refine l_iconst rfl ?_
                    refine l_ireturn rfl rfl ?_
                    exact ⟨rfl, _, rfl, ⟨by omega, by omega⟩⟩
              · refine l_iconst rfl ?_
                refine l_ireturn rfl rfl ?_
                exact ⟨rfl, _, rfl, ⟨by omega, by omega⟩⟩
            · refine l_iconst rfl ?_
              refine l_ireturn rfl rfl ?_
              exact ⟨rfl, _, rfl, ⟨by omega, by omega⟩⟩
        · refine l_iload rfl rfl ?_
          refine l_iconst rfl ?_
          refine l_iadd rfl ?_
          refine l_goto rfl rfl ?_
          refine l_istore rfl rfl rfl ?_
          refine l_aload_n rfl rfl ?_
          refine l_gfr rfl rfl rfl rfl rfl (hH.r 891 0 876 rfl) ?_
          refine l_iload rfl rfl ?_
          refine l_iload_n rfl rfl ?_
          refine l_callV rfl rfl rfl (t_to_runEndUpTo hH (v4 + 1) to ⟨by omega, by omega⟩ ⟨by omega, by omega⟩ _) ?_
          rintro _ _ ⟨rfl, z70, rfl, w70, w63, w64, w65, w66, w67, w68, w69⟩
          show Rl _ _ _ _ _ [iv z70] _ _
          refine l_istore rfl rfl rfl ?_
          refine l_aload_n rfl rfl ?_
          refine l_gfr rfl rfl rfl rfl rfl (hH.r 891 4 895 rfl) ?_
          refine l_iconst rfl ?_
          refine l_iload rfl rfl ?_
          refine l_iload rfl rfl ?_
          refine l_callV rfl rfl rfl (t_me_find hH 2 (v4 + 1) z70 ⟨by omega, by omega⟩ ⟨by omega, by omega⟩ ⟨by omega, by omega⟩ (by first | assumption | exact (by assumption : LEX S)) _) ?_
          rintro _ _ ⟨rfl, z74, rfl, w74, w71, w72, w73⟩
          have w75 : z74 ≠ -1 → _ := fun h => fb2 hH (w71 h)
          show Rl _ _ _ _ _ [iv z74] _ _
          refine l_istore rfl rfl rfl ?_
          refine l_iload rfl rfl ?_
          refine l_iconst rfl ?_
          refine l_icmp_eq rfl rfl (by unfold rg; omega) (by unfold rg; omega) (fun w76 => ?_) (fun w77 => ?_)
          · refine l_iconst rfl ?_
            refine l_ireturn rfl rfl ?_
            exact ⟨rfl, _, rfl, ⟨by omega, by omega⟩⟩
          · refine l_aload_n rfl rfl ?_
            refine l_gfr rfl rfl rfl rfl rfl (hH.r 891 3 20 rfl) ?_
            refine l_iload rfl rfl ?_
            refine l_iload_n rfl rfl ?_
            refine l_callV rfl rfl rfl (t_wo_isA hH z74 kind ⟨by omega, by omega⟩ ⟨by omega, by omega⟩ _) ?_
            rintro _ _ ⟨rfl, z79, rfl, w79, w78⟩
            show Rl _ _ _ _ _ [iv z79] _ _
            refine l_if_ne rfl rfl (by unfold rg; omega) (fun w80 => ?_) (fun w81 => ?_)
            · refine l_iload rfl rfl ?_
              refine l_iload_n rfl rfl ?_
              refine l_icmp_ne rfl rfl (by unfold rg; omega) (by unfold rg; omega) (fun w82 => ?_) (fun w83 => ?_)
              · refine l_aload_n rfl rfl ?_
                refine l_gfr rfl rfl rfl rfl rfl (hH.r 891 0 876 rfl) ?_
                refine l_iload rfl rfl ?_
                refine l_callV rfl rfl rfl (t_to_typeAt hH z70 ⟨by omega, by omega⟩ _) ?_
                rintro _ _ ⟨rfl, z88, rfl, w88, w85, w86, w87⟩
                show Rl _ _ _ _ _ [iv z88] _ _
                refine l_istore rfl rfl rfl ?_
                refine l_iload rfl rfl ?_
                refine l_bipush rfl rfl ?_
                refine l_icmp_eq rfl rfl (by unfold rg; omega) (by unfold rg; omega) (fun w89 => ?_) (fun w90 => ?_)
                · refine l_iload rfl rfl ?_
                  refine l_bipush rfl rfl ?_
                  refine l_icmp_ne rfl rfl (by unfold rg; omega) (by unfold rg; omega) (fun w91 => ?_) (fun w92 => ?_)
                  · refine l_iload rfl rfl ?_
                    refine l_iconst rfl ?_
                    refine l_iadd rfl ?_
                    refine l_istore rfl rfl rfl ?_
                    refine l_goto rfl rfl ?_
                    exact Rl_weak (ih3 _ (by omega) ((z70 + 1)) (by omega) rfl) (And.intro rfl (And.intro rfl (And.intro rfl (And.intro rfl (True.intro)))))
                  · refine l_aload_n rfl rfl ?_
                    refine l_gfr rfl rfl rfl rfl rfl (hH.r 891 0 876 rfl) ?_
                    refine l_iload rfl rfl ?_
                    refine l_iconst rfl ?_
                    refine l_iadd rfl ?_
                    refine l_callV rfl rfl rfl (t_to_typeAt hH (z70 + 1) ⟨by omega, by omega⟩ _) ?_
                    rintro _ _ ⟨rfl, z97, rfl, w97, w94, w95, w96⟩
                    show Rl _ _ _ _ _ [iv z97] _ _
                    refine l_bipush rfl rfl ?_
                    refine l_icmp_ne rfl rfl (by unfold rg; omega) (by unfold rg; omega) (fun w98 => ?_) (fun w99 => ?_)
                    · refine l_iload rfl rfl ?_
                      refine l_iconst rfl ?_
                      refine l_iadd rfl ?_
                      refine l_istore rfl rfl rfl ?_
                      refine l_goto rfl rfl ?_
                      exact Rl_weak (ih3 _ (by omega) ((z70 + 1)) (by omega) rfl) (And.intro rfl (And.intro rfl (And.intro rfl (And.intro rfl (True.intro)))))
                    · refine l_iload rfl rfl ?_
                      refine l_iconst rfl ?_
                      refine l_iadd rfl ?_
                      refine l_goto rfl rfl ?_
                      refine l_istore rfl rfl rfl ?_
                      refine l_goto rfl rfl ?_
                      exact Rl_weak (ih3 _ (by omega) ((z70 + 2)) (by omega) rfl) (And.intro rfl (And.intro rfl (And.intro rfl (And.intro rfl (True.intro)))))
                · refine l_iload rfl rfl ?_
                  refine l_bipush rfl rfl ?_
                  refine l_icmp_eq rfl rfl (by unfold rg; omega) (by unfold rg; omega) (fun w100 => ?_) (fun w101 => ?_)
                  · refine l_iload rfl rfl ?_
                    refine l_bipush rfl rfl ?_
                    refine l_icmp_ne rfl rfl (by unfold rg; omega) (by unfold rg; omega) (fun w102 => ?_) (fun w103 => ?_)
                    · refine l_iload rfl rfl ?_
                      refine l_iconst rfl ?_
                      refine l_iadd rfl ?_
                      refine l_istore rfl rfl rfl ?_
                      refine l_goto rfl rfl ?_
                      exact Rl_weak (ih3 _ (by omega) ((z70 + 1)) (by omega) rfl) (And.intro rfl (And.intro rfl (And.intro rfl (And.intro rfl (True.intro)))))
                    · refine l_aload_n rfl rfl ?_
                      refine l_gfr rfl rfl rfl rfl rfl (hH.r 891 0 876 rfl) ?_
                      refine l_iload rfl rfl ?_
                      refine l_iconst rfl ?_
                      refine l_iadd rfl ?_
                      refine l_callV rfl rfl rfl (t_to_typeAt hH (z70 + 1) ⟨by omega, by omega⟩ _) ?_
                      rintro _ _ ⟨rfl, z108, rfl, w108, w105, w106, w107⟩
                      show Rl _ _ _ _ _ [iv z108] _ _
                      refine l_bipush rfl rfl ?_
                      refine l_icmp_ne rfl rfl (by unfold rg; omega) (by unfold rg; omega) (fun w109 => ?_) (fun w110 => ?_)
                      · refine l_iload rfl rfl ?_
                        refine l_iconst rfl ?_
                        refine l_iadd rfl ?_
                        refine l_istore rfl rfl rfl ?_
                        refine l_goto rfl rfl ?_
                        exact Rl_weak (ih3 _ (by omega) ((z70 + 1)) (by omega) rfl) (And.intro rfl (And.intro rfl (And.intro rfl (And.intro rfl (True.intro)))))
                      · refine l_iload rfl rfl ?_
                        refine l_iconst rfl ?_
                        refine l_iadd rfl ?_
                        refine l_goto rfl rfl ?_
                        refine l_istore rfl rfl rfl ?_
                        refine l_goto rfl rfl ?_
                        exact Rl_weak (ih3 _ (by omega) ((z70 + 2)) (by omega) rfl) (And.intro rfl (And.intro rfl (And.intro rfl (And.intro rfl (True.intro)))))
                  · refine l_iconst rfl ?_
                    refine l_ireturn rfl rfl ?_
                    exact ⟨rfl, _, rfl, ⟨by omega, by omega⟩⟩
              · refine l_iconst rfl ?_
                refine l_ireturn rfl rfl ?_
                exact ⟨rfl, _, rfl, ⟨by omega, by omega⟩⟩
            · refine l_iconst rfl ?_
              refine l_ireturn rfl rfl ?_
              exact ⟨rfl, _, rfl, ⟨by omega, by omega⟩⟩
  refine l_iload_n rfl rfl ?_
  refine l_istore rfl rfl rfl ?_
  exact Rl_weak (C3 _ (from_) (by omega) rfl) (And.intro rfl (And.intro rfl (And.intro rfl (And.intro rfl (True.intro)))))
def md_re_nameWithS : List rec := [(1, 2, 3, 4), (2, 3, 0, 100000), (3, 4, 0, 100000), (4, 5, 0, 100000), (894, 895, 0, 100000)]
abbrev Q_re_nameWithS (S : sS) (sort : Int) (which : Int) (from_ : Int) (to : Int) : pst := fun r S1 => HI S1 ∧ FR md_re_nameWithS S S1 ∧ (r = none ∧ (LEX S1) ∧ (∀ j, Xi S1 5 j = Xi S 5 j))
set_option maxRecDepth 100000 in
theorem t_re_nameWithS {S : sS} (hH : HI S) (sort : Int) (which : Int) (from_ : Int) (to : Int) (hsort : 11 ≤ sort ∧ sort ≤ 12) (hwhich : 0 ≤ which ∧ which ≤ 63) (hfrom_ : 0 ≤ from_ ∧ from_ ≤ 5130) (hto : 0 ≤ to ∧ to ≤ 5130) (hL : LEX S) (hb : lexB S sort which) (hn : 1 ≤ to - from_ ∧ to - from_ ≤ 3) (d : Nat) : Mt lay0 (d + 3) m_re_nameWithS [.ref 891, iv sort, iv which, iv from_, iv to] S (Q_re_nameWithS S sort which from_ to) := by
  refine Mt_R rfl rfl ?_
  have hF : FR md_re_nameWithS S S := FR.rf
  have C9 : ∀ (n9 : Nat) (T1 : sS) (_ : HI T1) (_ : FR md_re_nameWithS S T1) (v5 : Int) (v6 : Int), (1 ≤ v5 ∧ v5 ≤ 3) → (0 ≤ v6 ∧ v6 ≤ 3) → (LEX T1) → (v5 = to - from_) → n9 = (4 - v6).toNat → Rl lay0 (d + 2) m_re_nameWithS 9 [(0, .ref 891), (1, iv sort), (2, iv which), (3, iv from_), (5, iv v5), (6, iv v6)] [] T1 (Q_re_nameWithS S sort which from_ to) := by
    intro n9
    induction n9 using Nat.strongRecOn with
    | ind n9 ih9 =>
      intro T1 hHT1 hFT1 v5 v6 w1 w2 hl9 w3 hm9
      refine l_iload rfl rfl ?_
      refine l_iload rfl rfl ?_
      refine l_icmp_ge rfl rfl (by unfold rg; omega) (by unfold rg; omega) (fun w4 => ?_) (fun w5 => ?_)
      · refine l_aload_n rfl rfl ?_
        refine l_gfr rfl rfl rfl rfl rfl (hHT1.r 891 13 894 rfl) ?_
        refine l_iload rfl rfl ?_
        refine l_iconst rfl ?_
        refine l_isub rfl ?_
        refine l_aload_n rfl rfl ?_
        refine l_gfr rfl rfl rfl rfl rfl (hHT1.r 891 13 894 rfl) ?_
        refine l_iload rfl rfl ?_
        refine l_iconst rfl ?_
        refine l_isub rfl ?_
        refine l_laload (n := 3) rfl rfl (by omega) (by omega) (by unfold rg; omega) ?_
        have w6 : -9223372036854775808 ≤ (Xj T1 894 (((v5 - 1)).toNat)) ∧ (Xj T1 894 (((v5 - 1)).toNat)) < 9223372036854775808 := Xj_rg
        refine l_ldc2 (z := 27) rfl rfl ?_
        refine l_lmul rfl ?_
        refine l_ldc2 (z := 19) rfl rfl ?_
        refine l_ladd rfl ?_
        refine l_lastore (n := 3) rfl rfl (by omega) (by omega) (by unfold rg; omega) ?_
        obtain ⟨U2, eU2⟩ : ∃ T : sS, T = uJ T1 894 (((v5 - 1)).toNat) (Int64.ofInt (((Xj T1 894 (((v5 - 1)).toNat)) * 27) + 19)) := ⟨_, rfl⟩
        rw [← eU2]
        have hHU2 : HI U2 := by rw [eU2]; exact HI_J hHT1
        have hFU2 : FR md_re_nameWithS S U2 := by rw [eU2]; exact FR.wJ hFT1 (mdf_i (r := (894, 895, 0, 100000)) (List.mem_of_getElem? (i := 4) rfl) (inR_i (by omega) (by omega) (by omega) (by omega)))
        have hl66 : LEX U2 := LEX_J eU2 (by assumption)
        refine l_aload_n rfl rfl ?_
        refine l_gfr rfl rfl rfl rfl rfl (hHU2.r 891 2 1 rfl) ?_
        refine l_aload_n rfl rfl ?_
        refine l_gfr rfl rfl rfl rfl rfl (hHU2.r 891 13 894 rfl) ?_
        refine l_iconst rfl ?_
        refine l_iload rfl rfl ?_
        refine l_callV rfl rfl rfl (t_vo_meaning hHU2 894 3 0 v5 rfl ⟨by omega, by omega⟩ ⟨by omega, by omega⟩ ⟨by omega, by omega⟩ (by assumption) _) ?_
        rintro _ _ ⟨rfl, z10, rfl, w10, w7, w8, w9⟩
        show Rl _ _ _ _ _ [iv z10] _ _
        have hmnz10 := mOK_n (z := z10) (by assumption)
        refine l_iconst rfl ?_
        refine l_icmp_ne rfl rfl (by unfold rg; omega) (by unfold rg; omega) (fun w11 => ?_) (fun w12 => ?_)
        · refine l_return rfl rfl ?_
          exact ⟨hHU2, hFU2, rfl, (by assumption), (fun j => (hFU2.cx 5 rfl j).1)⟩
        · refine l_aload_n rfl rfl ?_
          refine l_gfr rfl rfl rfl rfl rfl (hHU2.r 891 2 1 rfl) ?_
          refine l_iload_n rfl rfl ?_
          refine l_iload_n rfl rfl ?_
          refine l_aload_n rfl rfl ?_
          refine l_gfr rfl rfl rfl rfl rfl (hHU2.r 891 13 894 rfl) ?_
          refine l_iconst rfl ?_
          refine l_iload rfl rfl ?_
          have w13 : Xi U2 1 3 = Xi T1 1 3 := (show Xi U2 1 3 = Xi T1 1 3 from by rw [eU2]; rfl)
          have w14 : 0 ≤ Xi T1 1 3 ∧ Xi T1 1 3 ≤ 200 := hHT1.c _ _
          refine l_callV rfl rfl rfl (t_vo_nameIt hHU2 sort which 894 3 0 v5 ⟨by omega, by omega⟩ ⟨by omega, by omega⟩ rfl ⟨by omega, by omega⟩ ⟨by omega, by omega⟩ ⟨by omega, by omega⟩ (by assumption) (lexB_fr (fun j => (hFU2.cx 5 rfl j).1) hb) (by first | assumption | omega) _) ?_
          rintro _ T3 ⟨hHT3, w19, rfl, w15, w16, w17⟩
          have hFT3 : FR md_re_nameWithS S T3 := FR.tr hFU2 w19 rfl
          show Rl _ _ _ _ _ [] _ _
          refine l_return rfl rfl ?_
          exact ⟨hHT3, hFT3, rfl, (by assumption), (fun j => (hFT3.cx 5 rfl j).1)⟩
      · refine l_aload_n rfl rfl ?_
        refine l_gfr rfl rfl rfl rfl rfl (hHT1.r 891 13 894 rfl) ?_
        refine l_iload rfl rfl ?_
        refine l_aload_n rfl rfl ?_
        refine l_gfr rfl rfl rfl rfl rfl (hHT1.r 891 0 876 rfl) ?_
        refine l_gfr rfl rfl rfl rfl rfl (hHT1.r 876 2 879 rfl) ?_
        refine l_iload_n rfl rfl ?_
        refine l_iload rfl rfl ?_
        refine l_iadd rfl ?_
        refine l_laload (n := 5130) rfl rfl (by omega) (by omega) (by unfold rg; omega) ?_
        have w20 : -9223372036854775808 ≤ (Xj T1 879 (((from_ + v6)).toNat)) ∧ (Xj T1 879 (((from_ + v6)).toNat)) < 9223372036854775808 := Xj_rg
        refine l_lastore (n := 3) rfl rfl (by omega) (by omega) (by unfold rg; omega) ?_
        obtain ⟨U4, eU4⟩ : ∃ T : sS, T = uJ T1 894 ((v6).toNat) (Int64.ofInt (Xj T1 879 (((from_ + v6)).toNat))) := ⟨_, rfl⟩
        rw [← eU4]
        have hHU4 : HI U4 := by rw [eU4]; exact HI_J hHT1
        have hFU4 : FR md_re_nameWithS S U4 := by rw [eU4]; exact FR.wJ hFT1 (mdf_i (r := (894, 895, 0, 100000)) (List.mem_of_getElem? (i := 4) rfl) (inR_i (by omega) (by omega) (by omega) (by omega)))
        refine l_iinc rfl rfl rfl rfl ?_
        refine l_goto rfl rfl ?_
        exact Rl_weak (ih9 _ (by omega) U4 hHU4 hFU4 (v5) ((v6 + 1)) (by omega) (by omega) (by first | assumption | exact LEX_J eU4 (by assumption)) (by omega) rfl) (And.intro rfl (And.intro rfl (And.intro rfl (And.intro rfl (And.intro rfl (And.intro rfl (True.intro)))))))
  refine l_iload rfl rfl ?_
  refine l_iload_n rfl rfl ?_
  refine l_isub rfl ?_
  refine l_istore rfl rfl rfl ?_
  refine l_iconst rfl ?_
  refine l_istore rfl rfl rfl ?_
  exact Rl_weak (C9 _ S hH hF ((to - from_)) (0) (by omega) (by omega) (by first | assumption | exact LEX_J rfl (by assumption)) (by omega) rfl) (And.intro rfl (And.intro rfl (And.intro rfl (And.intro rfl (And.intro rfl (And.intro rfl (True.intro)))))))
abbrev Q_vo_codeOf (S : sS) (i : Nat) (xi : String × Nat × String × List Int32) : pst := fun r S1 => S = S1 ∧ (∃ z : Int, r = some (jw z))
set_option maxRecDepth 100000 in
theorem t_vo_codeOf {S : sS} (hH : HI S) (i : Nat) (xi : String × Nat × String × List Int32) (hi : strT[i]? = some xi) (d : Nat) : Mt lay0 (d + 4) m_vo_codeOf [.ref (SB + i)] S (Q_vo_codeOf S i xi) := by
  refine Mt_R rfl rfl ?_
  have hsli := str_sm hi
  have C4 : ∀ (n4 : Nat) (v1 : Int) (v3 : Int), (0 ≤ v3 ∧ v3 ≤ 400) → n4 = (400 - v3).toNat → Rl lay0 (d + 3) m_vo_codeOf 4 [(0, .ref (SB + i)), (1, jw v1), (3, iv v3)] [] S (Q_vo_codeOf S i xi) := by
    intro n4
    induction n4 using Nat.strongRecOn with
    | ind n4 ih4 =>
      intro v1 v3 w1 hm4
      refine l_iload_n rfl rfl ?_
      refine l_aload_n rfl rfl ?_
      refine l_callT rfl rfl (cOkT0 (str_is hi) rfl) (t_js_length hi _) ?_
      rintro _ _ ⟨rfl, rfl⟩
      show Rl _ _ _ _ _ [iv (xi.2.2.2.length : Int), iv v3] _ _
      refine l_icmp_ge rfl rfl (by unfold rg; omega) (by unfold rg; omega) (fun w3 => ?_) (fun w4 => ?_)
      · refine l_lload_n rfl rfl ?_
        refine l_lreturn rfl rfl ?_
        exact ⟨rfl, _, rfl⟩
      · refine l_lload_n rfl rfl ?_
        refine l_ldc2 (z := 27) rfl rfl ?_
        refine l_lmul rfl ?_
        refine l_aload_n rfl rfl ?_
        refine l_iload_n rfl rfl ?_
        refine l_callT rfl rfl (cOkT1 (str_is hi) rfl) (t_js_charAt hi (by omega) (by omega) _) ?_
        rintro _ _ ⟨rfl, c5, rfl, w5⟩
        show Rl _ _ _ _ _ [iv c5, jw (v1 * 27)] _ _
        refine l_callS rfl rfl (by decide) rfl (t_rs_letterOf hH c5 ⟨by omega, by omega⟩ _) ?_
        rintro _ _ ⟨rfl, z6, rfl, w6⟩
        show Rl _ _ _ _ _ [iv z6, jw (v1 * 27)] _ _
        refine l_i2l rfl (by unfold rg; omega) ?_
        refine l_ladd rfl ?_
        refine l_lstore_n rfl rfl rfl rfl ?_
        refine l_iinc rfl rfl rfl rfl ?_
        refine l_goto rfl rfl ?_
        exact Rl_weak (ih4 _ (by omega) (((v1 * 27) + z6)) ((v3 + 1)) (by omega) rfl) (And.intro rfl (And.intro rfl (And.intro rfl (True.intro))))
  refine l_lconst (z := 0) rfl rfl ?_
  refine l_lstore_n rfl rfl rfl rfl ?_
  refine l_iconst rfl ?_
  refine l_istore_n rfl rfl rfl ?_
  exact Rl_weak (C4 _ (0) (0) (by omega) rfl) (And.intro rfl (And.intro rfl (And.intro rfl (True.intro))))
def md_vo_addFirst : List rec := [(1, 2, 3, 4), (2, 3, 0, 100000), (3, 4, 0, 100000), (4, 5, 0, 100000), (5, 6, 0, 100000)]
abbrev Q_vo_addFirst (S : sS) (sort : Int) (i : Nat) (xi : String × Nat × String × List Int32) : pst := fun r S1 => HI S1 ∧ FR md_vo_addFirst S S1 ∧ (∃ z : Int, r = some (iv z) ∧ (0 ≤ z ∧ z ≤ 63) ∧ (z = Xi S 5 sort.toNat) ∧ (LEX S1) ∧ (Xi S1 5 sort.toNat = Xi S 5 sort.toNat + 1) ∧ (∀ j, j ≠ sort.toNat → Xi S1 5 j = Xi S 5 j) ∧ (Xi S1 1 3 ≤ Xi S 1 3 + 1))
set_option maxRecDepth 100000 in
theorem t_vo_addFirst {S : sS} (hH : HI S) (sort : Int) (i : Nat) (xi : String × Nat × String × List Int32) (hsort : 0 ≤ sort ∧ sort ≤ 8) (hi : strT[i]? = some xi) (hL : LEX S) (hc : Xi S 5 sort.toNat + 1 ≤ (lh 5 sort.toNat).2) (d : Nat) : Mt lay0 (d + 5) m_vo_addFirst [.ref 1, iv sort, .ref (SB + i)] S (Q_vo_addFirst S sort i xi) := by
  refine Mt_R rfl rfl ?_
  have hF : FR md_vo_addFirst S S := FR.rf
  have hsli := str_sm hi
  have w1 : 0 ≤ Xi S 1 3 ∧ Xi S 1 3 ≤ 200 := hH.c _ _
  refine l_aload_n rfl rfl ?_
  refine l_gfr rfl rfl rfl rfl rfl (hH.r 1 4 5 rfl) ?_
  refine l_iload_n rfl rfl ?_
  refine l_iaload (n := 9) rfl rfl (by omega) (by omega) (by unfold rg; omega) ?_
  have w2 : -2147483648 ≤ (Xi S 5 ((sort).toNat)) ∧ (Xi S 5 ((sort).toNat)) ≤ 2147483647 := Xi_rgI
  have hcr := cnt_rg hH (by omega) (by omega) _ (Eq.refl (Xi S 5 sort.toNat))
  have h64 := lh5hi (s := sort) (by omega) (by omega)
  refine l_istore_n rfl rfl rfl ?_
  refine l_aload_n rfl rfl ?_
  refine l_gfr rfl rfl rfl rfl rfl (hH.r 1 4 5 rfl) ?_
  refine l_iload_n rfl rfl ?_
  refine l_dup2 rfl rfl ?_
  refine l_iaload (n := 9) rfl rfl (by omega) (by omega) (by unfold rg; omega) ?_
  refine l_iconst rfl ?_
  refine l_iadd rfl ?_
  refine l_iastore (n := 9) rfl rfl (by omega) (by omega) (by unfold rg; omega) ?_
  obtain ⟨U1, eU1⟩ : ∃ T : sS, T = uI S 5 ((sort).toNat) (Int32.ofInt ((Xi S 5 ((sort).toNat)) + 1)) := ⟨_, rfl⟩
  rw [← eU1]
  have hHU1 : HI U1 := by rw [eU1]; exact HI_w hH (Int.le_trans lh5 (by omega)) hc
  have hFU1 : FR md_vo_addFirst S U1 := by rw [eU1]; exact FR.wI hF (mdf_i (r := (5, 6, 0, 100000)) (List.mem_of_getElem? (i := 4) rfl) (inR_i (by omega) (by omega) (by omega) (by omega)))
  have w3 : Xi U1 5 ((sort).toNat) = ((Xi S 5 ((sort).toNat)) + 1) := by rw [eU1]; exact Xi_same (by unfold rg; omega)
  have hL1 : LEX U1 := LEX_cnt eU1 (by omega) hL
  have hb1 := lexB_new eU1 (by omega) (by omega) (by omega) (by omega)
  refine l_aload_n rfl rfl ?_
  refine l_iload_n rfl rfl ?_
  refine l_iload_n rfl rfl ?_
  refine l_aload_n rfl rfl ?_
  refine l_callS rfl rfl (by decide) rfl (t_vo_codeOf hHU1 i xi hi _) ?_
  rintro _ _ ⟨rfl, z4, rfl⟩
  show Rl _ _ _ _ _ [jw z4, iv (Xi S 5 ((sort).toNat)), iv sort, .ref 1] _ _
  have w5 : Xi U1 1 3 = Xi S 1 3 := (show Xi U1 1 3 = Xi S 1 3 from by rw [eU1]; exact Xi_ne (by omega))
  refine l_callV rfl rfl rfl (t_vo_addEntry hHU1 sort (Xi S 5 ((sort).toNat)) z4 ⟨by omega, by omega⟩ ⟨by omega, by omega⟩ (by first | assumption | exact (by assumption : LEX U1)) (by first | assumption | omega) _) ?_
  rintro _ T2 ⟨hHT2, w11, rfl, w7, w8, w9⟩
  have hFT2 : FR md_vo_addFirst S T2 := FR.tr hFU1 w11 rfl
  show Rl _ _ _ _ _ [] _ _
  refine l_iload_n rfl rfl ?_
  refine l_ireturn rfl rfl ?_
  have w12 : 0 ≤ Xi T2 1 3 ∧ Xi T2 1 3 ≤ 200 := hHT2.c _ _
  exact ⟨hHT2, hFT2, _, rfl, ⟨by omega, by omega⟩, (by omega), (by assumption), (tn_c (fun j => ((by assumption : FR md_vo_addEntry U1 T2).cx 5 rfl j).1) eU1 (by unfold rg; omega)), (tn_o (fun j => ((by assumption : FR md_vo_addEntry U1 T2).cx 5 rfl j).1) eU1), (by omega)⟩
def md_vo_addDirection : List rec := [(1, 2, 3, 4), (2, 3, 0, 100000), (3, 4, 0, 100000), (4, 5, 0, 100000)]
abbrev Q_vo_addDirection (S : sS) (i : Nat) (xi : String × Nat × String × List Int32) (n : Int) : pst := fun r S1 => HI S1 ∧ FR md_vo_addDirection S S1 ∧ (r = none ∧ (LEX S1) ∧ (∀ j, Xi S1 5 j = Xi S 5 j))
set_option maxRecDepth 100000 in
theorem t_vo_addDirection {S : sS} (hH : HI S) (i : Nat) (xi : String × Nat × String × List Int32) (n : Int) (hi : strT[i]? = some xi) (hn : 0 ≤ n ∧ n ≤ 5) (hL : LEX S) (d : Nat) : Mt lay0 (d + 5) m_vo_addDirection [.ref 1, .ref (SB + i), iv n] S (Q_vo_addDirection S i xi n) := by
  refine Mt_R rfl rfl ?_
  have hF : FR md_vo_addDirection S S := FR.rf
  have hsli := str_sm hi
  refine l_aload_n rfl rfl ?_
  refine l_bipush rfl rfl ?_
  refine l_iload_n rfl rfl ?_
  refine l_aload_n rfl rfl ?_
  refine l_callS rfl rfl (by decide) rfl (t_vo_codeOf hH i xi hi _) ?_
  rintro _ _ ⟨rfl, z1, rfl⟩
  show Rl _ _ _ _ _ [jw z1, iv n, iv 14, .ref 1] _ _
  have w2 : 0 ≤ Xi S 1 3 ∧ Xi S 1 3 ≤ 200 := hH.c _ _
  refine l_callV rfl rfl rfl (t_vo_addEntry hH 14 n z1 ⟨by omega, by omega⟩ ⟨by omega, by omega⟩ (by first | assumption | exact (by assumption : LEX S)) (lexB14 (by omega) (by omega)) _) ?_
  rintro _ T1 ⟨hHT1, w7, rfl, w3, w4, w5⟩
  have hFT1 : FR md_vo_addDirection S T1 := FR.tr hF w7 rfl
  show Rl _ _ _ _ _ [] _ _
  refine l_return rfl rfl ?_
  exact ⟨hHT1, hFT1, rfl, (by assumption), (fun j => (hFT1.cx 5 rfl j).1)⟩
/-! SAFETY of methods: printed by wip/safe (vc.py, decl.py) -/
abbrev Q_wo_sameText (S : sS) (a : Int) (la : Int) (b : Int) (lb : Int) : pst := fun r S1 => S = S1 ∧ (∃ z : Int, r = some (iv z) ∧ (0 ≤ z ∧ z ≤ 1) ∧ (z = smT S a la b lb))
set_option maxRecDepth 100000 in
theorem t_wo_sameText {S : sS} (hH : HI S) (a : Int) (la : Int) (b : Int) (lb : Int) (ha : -2147483648 ≤ a ∧ a ≤ 2147483647) (hla : -2147483648 ≤ la ∧ la ≤ 2147483647) (hb : -2147483648 ≤ b ∧ b ≤ 2147483647) (hlb : -2147483648 ≤ lb ∧ lb ≤ 2147483647) (ha : TXT S a la) (hb : TXT S b lb) (d : Nat) : Mt lay0 (d + 1) m_wo_sameText [.ref 20, iv a, iv la, iv b, iv lb] S (Q_wo_sameText S a la b lb) := by
  refine Mt_R rfl rfl ?_
  have hab : 0 < la → 0 ≤ a ∧ a + la ≤ 5000 := ha.b
  have hbb : 0 < lb → 0 ≤ b ∧ b + lb ≤ 5000 := hb.b
  have C11 : ∀ (n11 : Nat) (v5 : Int), (0 ≤ v5 ∧ v5 ≤ 5000) → (la = lb) → (smT S a la b lb = smn S (txr S) a b (la - v5).toNat v5) → n11 = (5001 - v5).toNat → Rl lay0 (d + 0) m_wo_sameText 11 [(0, .ref 20), (1, iv a), (2, iv la), (3, iv b), (5, iv v5)] [] S (Q_wo_sameText S a la b lb) := by
    intro n11
    induction n11 using Nat.strongRecOn with
    | ind n11 ih11 =>
      intro v5 w1 w2 hq hm11
      refine l_iload rfl rfl ?_
      refine l_iload_n rfl rfl ?_
      refine l_icmp_ge rfl rfl (by unfold rg; omega) (by unfold rg; omega) (fun w3 => ?_) (fun w4 => ?_)
      · refine l_iconst rfl ?_
        refine l_ireturn rfl rfl ?_
        exact ⟨rfl, _, rfl, ⟨by omega, by omega⟩, (by first | exact smT_n (by omega) | exact (hq.trans (smn_e (by omega))).symm | exact (hq.trans (smn_f (by omega) (by omega))).symm)⟩
      · refine l_aload_n rfl rfl ?_
        have w5 := txe (S := S) ha (by omega)
        have w5b : tp (txr S) := w5.2
        refine l_gfr rfl rfl rfl rfl rfl w5.1 ?_
        refine l_iload_n rfl rfl ?_
        refine l_iload rfl rfl ?_
        refine l_iadd rfl ?_
        refine l_baload (n := 5000) rfl (tp_sv (by assumption)) (lay_tp (by assumption)) (by decide) (by omega) (by omega) (by unfold rg; omega) ?_
        have w6 : -128 ≤ (Xi S (txr S) (((a + v5)).toNat)) ∧ (Xi S (txr S) (((a + v5)).toNat)) ≤ 127 := tpc hH (by assumption)
        refine l_aload_n rfl rfl ?_
        have w7 := txe (S := S) ha (by omega)
        have w7b : tp (txr S) := w7.2
        refine l_gfr rfl rfl rfl rfl rfl w7.1 ?_
        refine l_iload_n rfl rfl ?_
        refine l_iload rfl rfl ?_
        refine l_iadd rfl ?_
        refine l_baload (n := 5000) rfl (tp_sv (by assumption)) (lay_tp (by assumption)) (by decide) (by omega) (by omega) (by unfold rg; omega) ?_
        have w8 : -128 ≤ (Xi S (txr S) (((b + v5)).toNat)) ∧ (Xi S (txr S) (((b + v5)).toNat)) ≤ 127 := tpc hH (by assumption)
        refine l_icmp_eq rfl rfl (by unfold rg; omega) (by unfold rg; omega) (fun w9 => ?_) (fun w10 => ?_)
        · refine l_iinc rfl rfl rfl rfl ?_
          refine l_goto rfl rfl ?_
          exact Rl_weak (ih11 _ (by omega) ((v5 + 1)) (by omega) (by omega) (by first | exact smT_0 (by omega) | exact hq.trans (smn_s (by omega) (by omega))) rfl) (And.intro rfl (And.intro rfl (And.intro rfl (And.intro rfl (And.intro rfl (True.intro))))))
        · refine l_iconst rfl ?_
          refine l_ireturn rfl rfl ?_
          exact ⟨rfl, _, rfl, ⟨by omega, by omega⟩, (by first | exact smT_n (by omega) | exact (hq.trans (smn_e (by omega))).symm | exact (hq.trans (smn_f (by omega) (by omega))).symm)⟩
  refine l_iload_n rfl rfl ?_
  refine l_iload rfl rfl ?_
  refine l_icmp_eq rfl rfl (by unfold rg; omega) (by unfold rg; omega) (fun w11 => ?_) (fun w12 => ?_)
  · refine l_iconst rfl ?_
    refine l_istore rfl rfl rfl ?_
    exact Rl_weak (C11 _ (0) (by omega) (by omega) (by first | exact smT_0 (by omega) | exact hq.trans (smn_s (by omega) (by omega))) rfl) (And.intro rfl (And.intro rfl (And.intro rfl (And.intro rfl (And.intro rfl (True.intro))))))
  · refine l_iconst rfl ?_
    refine l_ireturn rfl rfl ?_
    exact ⟨rfl, _, rfl, ⟨by omega, by omega⟩, (by first | exact smT_n (by omega) | exact (hq.trans (smn_e (by omega))).symm | exact (hq.trans (smn_f (by omega) (by omega))).symm)⟩
def md_wo_tellProperty : List rec := [(66, 106, 0, 100000), (107, 147, 0, 100000), (148, 188, 0, 100000)]
abbrev Q_wo_tellProperty (S : sS) (row : Int) (p : Int) (value : Int) (length : Int) : pst := fun r S1 => HI S1 ∧ FR md_wo_tellProperty S S1 ∧ (∃ z : Int, r = some (iv z) ∧ (0 ≤ z ∧ z ≤ 1) ∧ (TX S1))
set_option maxRecDepth 100000 in
theorem t_wo_tellProperty {S : sS} (hH : HI S) (row : Int) (p : Int) (value : Int) (length : Int) (hrow : 0 ≤ row ∧ row ≤ 39) (hp : 0 ≤ p ∧ p ≤ 11) (hvalue : -2147483648 ≤ value ∧ value ≤ 2147483647) (hlength : -2147483648 ≤ length ∧ length ≤ 2147483647) (hX : TX S) (ht : TXT S value length) (d : Nat) : Mt lay0 (d + 2) m_wo_tellProperty [.ref 20, iv row, iv p, iv value, iv length] S (Q_wo_tellProperty S row p value length) := by
  refine Mt_R rfl rfl ?_
  have hF : FR md_wo_tellProperty S S := FR.rf
  refine l_aload_n rfl rfl ?_
  refine l_gfr rfl rfl rfl rfl rfl (hH.r 20 6 65 rfl) ?_
  refine l_iload_n rfl rfl ?_
  refine l_aaload (n := 40) (a := 66 + (row).toNat) rfl rfl (by decide) (by omega) (by omega) (by unfold rg; omega) (RW_65 hH (by omega)) ?_
  refine l_iload_n rfl rfl ?_
  refine l_iaload (n := 12) rfl (lay_66 (by omega)) (by omega) (by omega) (by unfold rg; omega) ?_
  have w1 : -2147483648 ≤ (Xi S (66 + (row).toNat) ((p).toNat)) ∧ (Xi S (66 + (row).toNat) ((p).toNat)) ≤ 2147483647 := Xi_rgI
  refine l_if_eq rfl rfl (by unfold rg; omega) (fun w2 => ?_) (fun w3 => ?_)
  · refine l_aload_n rfl rfl ?_
    refine l_iload_n rfl rfl ?_
    refine l_iload_n rfl rfl ?_
    refine l_iload_n rfl rfl ?_
    refine l_iload rfl rfl ?_
    refine l_callV rfl rfl rfl (t_wo_setProperty hH row p value length ⟨by omega, by omega⟩ ⟨by omega, by omega⟩ ⟨by omega, by omega⟩ ⟨by omega, by omega⟩ _) ?_
    rintro _ T1 ⟨hHT1, w6, rfl, w4⟩
    have hFT1 : FR md_wo_tellProperty S T1 := FR.tr hF w6 rfl
    show Rl _ _ _ _ _ [] _ _
    refine l_iconst rfl ?_
    refine l_ireturn rfl rfl ?_
    exact ⟨hHT1, hFT1, _, rfl, ⟨by omega, by omega⟩, (by first | exact hX | exact (by assumption : TX S → TXT S value length → TX T1) hX ht)⟩
  · refine l_aload_n rfl rfl ?_
    refine l_gfr rfl rfl rfl rfl rfl (hH.r 20 0 1 rfl) ?_
    refine l_gfr rfl rfl rfl rfl rfl (hH.r 1 8 9 rfl) ?_
    refine l_iload_n rfl rfl ?_
    refine l_iaload (n := 12) rfl rfl (by omega) (by omega) (by unfold rg; omega) ?_
    have w7 : 0 ≤ (Xi S 9 ((p).toNat)) ∧ (Xi S 9 ((p).toNat)) ≤ 7 := hH.c _ _
    refine l_iconst rfl ?_
    refine l_icmp_ne rfl rfl (by unfold rg; omega) (by unfold rg; omega) (fun w8 => ?_) (fun w9 => ?_)
    · refine l_aload_n rfl rfl ?_
      refine l_gfr rfl rfl rfl rfl rfl (hH.r 20 7 106 rfl) ?_
      refine l_iload_n rfl rfl ?_
      refine l_aaload (n := 40) (a := 107 + (row).toNat) rfl rfl (by decide) (by omega) (by omega) (by unfold rg; omega) (RW_106 hH (by omega)) ?_
      refine l_iload_n rfl rfl ?_
      refine l_iaload (n := 12) rfl (lay_107 (by omega)) (by omega) (by omega) (by unfold rg; omega) ?_
      have w10 : -2147483648 ≤ (Xi S (107 + (row).toNat) ((p).toNat)) ∧ (Xi S (107 + (row).toNat) ((p).toNat)) ≤ 2147483647 := Xi_rgI
      refine l_iload_n rfl rfl ?_
      refine l_icmp_ne rfl rfl (by unfold rg; omega) (by unfold rg; omega) (fun w11 => ?_) (fun w12 => ?_)
      · refine l_iconst rfl ?_
        refine l_ireturn rfl rfl ?_
        exact ⟨hH, hF, _, rfl, ⟨by omega, by omega⟩, (by first | exact hX | exact (by assumption : TX S → TXT S value length → TX S) hX ht)⟩
      · refine l_iconst rfl ?_
        refine l_goto rfl rfl ?_
        refine l_ireturn rfl rfl ?_
        exact ⟨hH, hF, _, rfl, ⟨by omega, by omega⟩, (by first | exact hX | exact (by assumption : TX S → TXT S value length → TX S) hX ht)⟩
    · refine l_aload_n rfl rfl ?_
      refine l_aload_n rfl rfl ?_
      refine l_gfr rfl rfl rfl rfl rfl (hH.r 20 7 106 rfl) ?_
      refine l_iload_n rfl rfl ?_
      refine l_aaload (n := 40) (a := 107 + (row).toNat) rfl rfl (by decide) (by omega) (by omega) (by unfold rg; omega) (RW_106 hH (by omega)) ?_
      refine l_iload_n rfl rfl ?_
      refine l_iaload (n := 12) rfl (lay_107 (by omega)) (by omega) (by omega) (by unfold rg; omega) ?_
      have w13 : -2147483648 ≤ (Xi S (107 + (row).toNat) ((p).toNat)) ∧ (Xi S (107 + (row).toNat) ((p).toNat)) ≤ 2147483647 := Xi_rgI
      refine l_aload_n rfl rfl ?_
      refine l_gfr rfl rfl rfl rfl rfl (hH.r 20 8 147 rfl) ?_
      refine l_iload_n rfl rfl ?_
      refine l_aaload (n := 40) (a := 148 + (row).toNat) rfl rfl (by decide) (by omega) (by omega) (by unfold rg; omega) (RW_147 hH (by omega)) ?_
      refine l_iload_n rfl rfl ?_
      refine l_iaload (n := 12) rfl (lay_148 (by omega)) (by omega) (by omega) (by unfold rg; omega) ?_
      have w14 : -2147483648 ≤ (Xi S (148 + (row).toNat) ((p).toNat)) ∧ (Xi S (148 + (row).toNat) ((p).toNat)) ≤ 2147483647 := Xi_rgI
      refine l_iload_n rfl rfl ?_
      refine l_iload rfl rfl ?_
      refine l_callV rfl rfl rfl (t_wo_sameText hH (Xi S (107 + (row).toNat) ((p).toNat)) (Xi S (148 + (row).toNat) ((p).toNat)) value length ⟨by omega, by omega⟩ ⟨by omega, by omega⟩ ⟨by omega, by omega⟩ ⟨by omega, by omega⟩ (TX_r hX (by omega) (by omega) (by omega)) (ht) _) ?_
      rintro _ _ ⟨rfl, z16, rfl, w16, w15⟩
      show Rl _ _ _ _ _ [iv z16] _ _
      refine l_goto rfl rfl ?_
      refine l_ireturn rfl (retI_z (by omega)) ?_
      exact ⟨hH, hF, _, rfl, ⟨by omega, by omega⟩, (by first | exact hX | exact (by assumption : TX S → TXT S value length → TX S) hX ht)⟩
