/-! SAFETY of methods: printed by wip/safe (vc.py, decl.py) -/
abbrev Q_re_isObjectList (S : sS) (from_ : Int) (to : Int) (kind : Int) : pst := fun r S1 => S = S1 ∧ (∃ z : Int, r = some (iv z) ∧ (0 ≤ z ∧ z ≤ 1))
set_option maxRecDepth 100000 in
theorem t_re_isObjectList {S : sS} (hH : HI S) (from_ : Int) (to : Int) (kind : Int) (hfrom_ : 0 ≤ from_ ∧ from_ ≤ 5140) (hto : 0 ≤ to ∧ to ≤ 5140) (hkind : 0 ≤ kind ∧ kind ≤ 15) (hL : LEX S) (d : Nat) : Mt lay0 (d + 3) m_re_isObjectList [.ref 891, iv from_, iv to, iv kind] S (Q_re_isObjectList S from_ to kind) := by
  refine Mt_R rfl rfl ?_
  have C3 : ∀ (n3 : Nat) (v4 : Int), (0 ≤ v4 ∧ v4 ≤ 5150) → n3 = (5200 - v4).toNat → Rl lay0 (d + 2) m_re_isObjectList 3 [(0, .ref 891), (2, iv to), (3, iv kind), (4, iv v4)] [] S (Q_re_isObjectList S from_ to kind) := by
    intro n3
    induction n3 using Nat.strongRecOn with
    | ind n3 ih3 =>
      intro v4 w1 hm3
      refine l_iload rfl rfl ?_
      refine l_iload_n rfl rfl ?_
      refine l_icmp_ge rfl rfl (by unfold rg; omega) (by unfold rg; omega) (fun w2 => ?_) (fun w3 => ?_)
      · refine l_iconst rfl ?_
        refine l_ireturn rfl rfl ?_
        exact ⟨rfl, _, rfl, ⟨by omega, by omega⟩⟩
      · refine l_aload_n rfl rfl ?_
        refine l_gfr rfl rfl rfl rfl rfl (hH.r 891 0 876 rfl) ?_
        refine l_iload rfl rfl ?_
        have w4 : 0 ≤ Xi S 876 7 ∧ Xi S 876 7 ≤ 5125 := hH.c _ _
        refine l_callV rfl rfl rfl (t_to_typeAt hH v4 ⟨by omega, by omega⟩ _) ?_
        rintro _ _ ⟨rfl, z6, rfl, w6, w5⟩
        show Rl _ _ _ _ _ [iv z6] _ _
        refine l_callS rfl rfl (by decide) rfl (t_rs_isArt hH z6 ⟨by omega, by omega⟩ _) ?_
        rintro _ _ ⟨rfl, z8, rfl, w8, w7⟩
        show Rl _ _ _ _ _ [iv z8] _ _
        refine l_if_eq rfl rfl (by unfold rg; omega) (fun w9 => ?_) (fun w10 => ?_)
        · refine l_iload rfl rfl ?_
          refine l_istore rfl rfl rfl ?_
          refine l_aload_n rfl rfl ?_
          refine l_gfr rfl rfl rfl rfl rfl (hH.r 891 0 876 rfl) ?_
          refine l_iload rfl rfl ?_
          refine l_iload_n rfl rfl ?_
          have w11 : 0 ≤ Xi S 876 7 ∧ Xi S 876 7 ≤ 5125 := hH.c _ _
          refine l_callV rfl rfl rfl (t_to_runEndUpTo hH v4 to ⟨by omega, by omega⟩ ⟨by omega, by omega⟩ _) ?_
          rintro _ _ ⟨rfl, z18, rfl, w18, w12, w13, w14, w15, w16, w17⟩
          show Rl _ _ _ _ _ [iv z18] _ _
          refine l_istore rfl rfl rfl ?_
          refine l_aload_n rfl rfl ?_
          refine l_gfr rfl rfl rfl rfl rfl (hH.r 891 4 895 rfl) ?_
          refine l_iconst rfl ?_
          refine l_iload rfl rfl ?_
          refine l_iload rfl rfl ?_
          refine l_callV rfl rfl rfl (t_me_find hH 2 v4 z18 ⟨by omega, by omega⟩ ⟨by omega, by omega⟩ ⟨by omega, by omega⟩ (by first | assumption | exact (by assumption : LEX S)) _) ?_
          rintro _ _ ⟨rfl, z21, rfl, w21, w19, w20⟩
          have w22 : z21 ≠ -1 → _ := fun h => fb2 hH (w19 h)
          show Rl _ _ _ _ _ [iv z21] _ _
          refine l_istore rfl rfl rfl ?_
          refine l_iload rfl rfl ?_
          refine l_iconst rfl ?_
          refine l_icmp_eq rfl rfl (by unfold rg; omega) (by unfold rg; omega) (fun w23 => ?_) (fun w24 => ?_)
          · refine l_iconst rfl ?_
            refine l_ireturn rfl rfl ?_
            exact ⟨rfl, _, rfl, ⟨by omega, by omega⟩⟩
          · refine l_aload_n rfl rfl ?_
            refine l_gfr rfl rfl rfl rfl rfl (hH.r 891 3 20 rfl) ?_
            refine l_iload rfl rfl ?_
            refine l_iload_n rfl rfl ?_
            refine l_callV rfl rfl rfl (t_wo_isA hH z21 kind ⟨by omega, by omega⟩ ⟨by omega, by omega⟩ _) ?_
            rintro _ _ ⟨rfl, z26, rfl, w26, w25⟩
            show Rl _ _ _ _ _ [iv z26] _ _
            refine l_if_ne rfl rfl (by unfold rg; omega) (fun w27 => ?_) (fun w28 => ?_)
            · refine l_iload rfl rfl ?_
              refine l_iload_n rfl rfl ?_
              refine l_icmp_ne rfl rfl (by unfold rg; omega) (by unfold rg; omega) (fun w29 => ?_) (fun w30 => ?_)
              · refine l_aload_n rfl rfl ?_
                refine l_gfr rfl rfl rfl rfl rfl (hH.r 891 0 876 rfl) ?_
                refine l_iload rfl rfl ?_
                have w31 : 0 ≤ Xi S 876 7 ∧ Xi S 876 7 ≤ 5125 := hH.c _ _
                refine l_callV rfl rfl rfl (t_to_typeAt hH z18 ⟨by omega, by omega⟩ _) ?_
                rintro _ _ ⟨rfl, z33, rfl, w33, w32⟩
                show Rl _ _ _ _ _ [iv z33] _ _
                refine l_istore rfl rfl rfl ?_
                refine l_iload rfl rfl ?_
                refine l_bipush rfl rfl ?_
                refine l_icmp_eq rfl rfl (by unfold rg; omega) (by unfold rg; omega) (fun w34 => ?_) (fun w35 => ?_)
                · refine l_iload rfl rfl ?_
                  refine l_bipush rfl rfl ?_
                  refine l_icmp_ne rfl rfl (by unfold rg; omega) (by unfold rg; omega) (fun w36 => ?_) (fun w37 => ?_)
                  · refine l_iload rfl rfl ?_
                    refine l_iconst rfl ?_
                    refine l_iadd rfl ?_
                    refine l_istore rfl rfl rfl ?_
                    refine l_goto rfl rfl ?_
                    exact Rl_weak (ih3 _ (by omega) ((z18 + 1)) (by omega) rfl) (And.intro rfl (And.intro rfl (And.intro rfl (And.intro rfl (True.intro)))))
                  · refine l_aload_n rfl rfl ?_
                    refine l_gfr rfl rfl rfl rfl rfl (hH.r 891 0 876 rfl) ?_
                    refine l_iload rfl rfl ?_
                    refine l_iconst rfl ?_
                    refine l_iadd rfl ?_
                    have w38 : 0 ≤ Xi S 876 7 ∧ Xi S 876 7 ≤ 5125 := hH.c _ _
                    refine l_callV rfl rfl rfl (t_to_typeAt hH (z18 + 1) ⟨by omega, by omega⟩ _) ?_
                    rintro _ _ ⟨rfl, z40, rfl, w40, w39⟩
                    show Rl _ _ _ _ _ [iv z40] _ _
                    refine l_bipush rfl rfl ?_
                    refine l_icmp_ne rfl rfl (by unfold rg; omega) (by unfold rg; omega) (fun w41 => ?_) (fun w42 => ?_)
                    · refine l_iload rfl rfl ?_
                      refine l_iconst rfl ?_
                      refine l_iadd rfl ?_
                      refine l_istore rfl rfl rfl ?_
                      refine l_goto rfl rfl ?_
                      exact Rl_weak (ih3 _ (by omega) ((z18 + 1)) (by omega) rfl) (And.intro rfl (And.intro rfl (And.intro rfl (And.intro rfl (True.intro)))))
                    · refine l_iload rfl rfl ?_
                      refine l_iconst rfl ?_
                      refine l_iadd rfl ?_
                      refine l_goto rfl rfl ?_
                      refine l_istore rfl rfl rfl ?_
                      refine l_goto rfl rfl ?_
                      exact Rl_weak (ih3 _ (by omega) ((z18 + 2)) (by omega) rfl) (And.intro rfl (And.intro rfl (And.intro rfl (And.intro rfl (True.intro)))))
                · refine l_iload rfl rfl ?_
                  refine l_bipush rfl rfl ?_
                  refine l_icmp_eq rfl rfl (by unfold rg; omega) (by unfold rg; omega) (fun w43 => ?_) (fun w44 => ?_)
                  · refine l_iload rfl rfl ?_
                    refine l_bipush rfl rfl ?_
                    refine l_icmp_ne rfl rfl (by unfold rg; omega) (by unfold rg; omega) (fun w45 => ?_) (fun w46 => ?_)
                    · refine l_iload rfl rfl ?_
                      refine l_iconst rfl ?_
                      refine l_iadd rfl ?_
                      refine l_istore rfl rfl rfl ?_
                      refine l_goto rfl rfl ?_
                      exact Rl_weak (ih3 _ (by omega) ((z18 + 1)) (by omega) rfl) (And.intro rfl (And.intro rfl (And.intro rfl (And.intro rfl (True.intro)))))
                    · refine l_aload_n rfl rfl ?_
                      refine l_gfr rfl rfl rfl rfl rfl (hH.r 891 0 876 rfl) ?_
                      refine l_iload rfl rfl ?_
                      refine l_iconst rfl ?_
                      refine l_iadd rfl ?_
                      have w47 : 0 ≤ Xi S 876 7 ∧ Xi S 876 7 ≤ 5125 := hH.c _ _
                      refine l_callV rfl rfl rfl (t_to_typeAt hH (z18 + 1) ⟨by omega, by omega⟩ _) ?_
                      rintro _ _ ⟨rfl, z49, rfl, w49, w48⟩
                      show Rl _ _ _ _ _ [iv z49] _ _
                      refine l_bipush rfl rfl ?_
                      refine l_icmp_ne rfl rfl (by unfold rg; omega) (by unfold rg; omega) (fun w50 => ?_) (fun w51 => ?_)
                      · refine l_iload rfl rfl ?_
                        refine l_iconst rfl ?_
                        refine l_iadd rfl ?_
                        refine l_istore rfl rfl rfl ?_
                        refine l_goto rfl rfl ?_
                        exact Rl_weak (ih3 _ (by omega) ((z18 + 1)) (by omega) rfl) (And.intro rfl (And.intro rfl (And.intro rfl (And.intro rfl (True.intro)))))
                      · refine l_iload rfl rfl ?_
                        refine l_iconst rfl ?_
                        refine l_iadd rfl ?_
                        refine l_goto rfl rfl ?_
                        refine l_istore rfl rfl rfl ?_
                        refine l_goto rfl rfl ?_
                        exact Rl_weak (ih3 _ (by omega) ((z18 + 2)) (by omega) rfl) (And.intro rfl (And.intro rfl (And.intro rfl (And.intro rfl (True.intro)))))
                  · refine l_iconst rfl ?_
                    refine l_ireturn rfl rfl ?_
                    exact ⟨rfl, _, rfl, ⟨by omega, by omega⟩⟩
              · refine l_iconst rfl ?_
                refine l_ireturn rfl rfl ?_
                exact ⟨rfl, _, rfl, ⟨by omega, by omega⟩⟩
            · refine l_iconst rfl ?_
              refine l_ireturn rfl rfl ?_
              exact ⟨rfl, _, rfl, ⟨by omega, by omega⟩⟩
        · refine l_iload rfl rfl ?_
          refine l_iconst rfl ?_
          refine l_iadd rfl ?_
          refine l_goto rfl rfl ?_
          refine l_istore rfl rfl rfl ?_
          refine l_aload_n rfl rfl ?_
          refine l_gfr rfl rfl rfl rfl rfl (hH.r 891 0 876 rfl) ?_
          refine l_iload rfl rfl ?_
          refine l_iload_n rfl rfl ?_
          have w52 : 0 ≤ Xi S 876 7 ∧ Xi S 876 7 ≤ 5125 := hH.c _ _
          refine l_callV rfl rfl rfl (t_to_runEndUpTo hH (v4 + 1) to ⟨by omega, by omega⟩ ⟨by omega, by omega⟩ _) ?_
          rintro _ _ ⟨rfl, z59, rfl, w59, w53, w54, w55, w56, w57, w58⟩
          show Rl _ _ _ _ _ [iv z59] _ _
          refine l_istore rfl rfl rfl ?_
          refine l_aload_n rfl rfl ?_
          refine l_gfr rfl rfl rfl rfl rfl (hH.r 891 4 895 rfl) ?_
          refine l_iconst rfl ?_
          refine l_iload rfl rfl ?_
          refine l_iload rfl rfl ?_
          refine l_callV rfl rfl rfl (t_me_find hH 2 (v4 + 1) z59 ⟨by omega, by omega⟩ ⟨by omega, by omega⟩ ⟨by omega, by omega⟩ (by first | assumption | exact (by assumption : LEX S)) _) ?_
          rintro _ _ ⟨rfl, z62, rfl, w62, w60, w61⟩
          have w63 : z62 ≠ -1 → _ := fun h => fb2 hH (w60 h)
          show Rl _ _ _ _ _ [iv z62] _ _
          refine l_istore rfl rfl rfl ?_
          refine l_iload rfl rfl ?_
          refine l_iconst rfl ?_
          refine l_icmp_eq rfl rfl (by unfold rg; omega) (by unfold rg; omega) (fun w64 => ?_) (fun w65 => ?_)
          · refine l_iconst rfl ?_
            refine l_ireturn rfl rfl ?_
            exact ⟨rfl, _, rfl, ⟨by omega, by omega⟩⟩
          · refine l_aload_n rfl rfl ?_
            refine l_gfr rfl rfl rfl rfl rfl (hH.r 891 3 20 rfl) ?_
            refine l_iload rfl rfl ?_
            refine l_iload_n rfl rfl ?_
            refine l_callV rfl rfl rfl (t_wo_isA hH z62 kind ⟨by omega, by omega⟩ ⟨by omega, by omega⟩ _) ?_
            rintro _ _ ⟨rfl, z67, rfl, w67, w66⟩
            show Rl _ _ _ _ _ [iv z67] _ _
            refine l_if_ne rfl rfl (by unfold rg; omega) (fun w68 => ?_) (fun w69 => ?_)
            · refine l_iload rfl rfl ?_
              refine l_iload_n rfl rfl ?_
              refine l_icmp_ne rfl rfl (by unfold rg; omega) (by unfold rg; omega) (fun w70 => ?_) (fun w71 => ?_)
              · refine l_aload_n rfl rfl ?_
                refine l_gfr rfl rfl rfl rfl rfl (hH.r 891 0 876 rfl) ?_
                refine l_iload rfl rfl ?_
                have w72 : 0 ≤ Xi S 876 7 ∧ Xi S 876 7 ≤ 5125 := hH.c _ _
                refine l_callV rfl rfl rfl (t_to_typeAt hH z59 ⟨by omega, by omega⟩ _) ?_
                rintro _ _ ⟨rfl, z74, rfl, w74, w73⟩
                show Rl _ _ _ _ _ [iv z74] _ _
                refine l_istore rfl rfl rfl ?_
                refine l_iload rfl rfl ?_
                refine l_bipush rfl rfl ?_
                refine l_icmp_eq rfl rfl (by unfold rg; omega) (by unfold rg; omega) (fun w75 => ?_) (fun w76 => ?_)
                · refine l_iload rfl rfl ?_
                  refine l_bipush rfl rfl ?_
                  refine l_icmp_ne rfl rfl (by unfold rg; omega) (by unfold rg; omega) (fun w77 => ?_) (fun w78 => ?_)
                  · refine l_iload rfl rfl ?_
                    refine l_iconst rfl ?_
                    refine l_iadd rfl ?_
                    refine l_istore rfl rfl rfl ?_
                    refine l_goto rfl rfl ?_
                    exact Rl_weak (ih3 _ (by omega) ((z59 + 1)) (by omega) rfl) (And.intro rfl (And.intro rfl (And.intro rfl (And.intro rfl (True.intro)))))
                  · refine l_aload_n rfl rfl ?_
                    refine l_gfr rfl rfl rfl rfl rfl (hH.r 891 0 876 rfl) ?_
                    refine l_iload rfl rfl ?_
                    refine l_iconst rfl ?_
                    refine l_iadd rfl ?_
                    have w79 : 0 ≤ Xi S 876 7 ∧ Xi S 876 7 ≤ 5125 := hH.c _ _
                    refine l_callV rfl rfl rfl (t_to_typeAt hH (z59 + 1) ⟨by omega, by omega⟩ _) ?_
                    rintro _ _ ⟨rfl, z81, rfl, w81, w80⟩
                    show Rl _ _ _ _ _ [iv z81] _ _
                    refine l_bipush rfl rfl ?_
                    refine l_icmp_ne rfl rfl (by unfold rg; omega) (by unfold rg; omega) (fun w82 => ?_) (fun w83 => ?_)
                    · refine l_iload rfl rfl ?_
                      refine l_iconst rfl ?_
                      refine l_iadd rfl ?_
                      refine l_istore rfl rfl rfl ?_
                      refine l_goto rfl rfl ?_
                      exact Rl_weak (ih3 _ (by omega) ((z59 + 1)) (by omega) rfl) (And.intro rfl (And.intro rfl (And.intro rfl (And.intro rfl (True.intro)))))
                    · refine l_iload rfl rfl ?_
                      refine l_iconst rfl ?_
                      refine l_iadd rfl ?_
                      refine l_goto rfl rfl ?_
                      refine l_istore rfl rfl rfl ?_
                      refine l_goto rfl rfl ?_
                      exact Rl_weak (ih3 _ (by omega) ((z59 + 2)) (by omega) rfl) (And.intro rfl (And.intro rfl (And.intro rfl (And.intro rfl (True.intro)))))
                · refine l_iload rfl rfl ?_
                  refine l_bipush rfl rfl ?_
                  refine l_icmp_eq rfl rfl (by unfold rg; omega) (by unfold rg; omega) (fun w84 => ?_) (fun w85 => ?_)
                  · refine l_iload rfl rfl ?_
                    refine l_bipush rfl rfl ?_
                    refine l_icmp_ne rfl rfl (by unfold rg; omega) (by unfold rg; omega) (fun w86 => ?_) (fun w87 => ?_)
                    · refine l_iload rfl rfl ?_
                      refine l_iconst rfl ?_
                      refine l_iadd rfl ?_
                      refine l_istore rfl rfl rfl ?_
                      refine l_goto rfl rfl ?_
                      exact Rl_weak (ih3 _ (by omega) ((z59 + 1)) (by omega) rfl) (And.intro rfl (And.intro rfl (And.intro rfl (And.intro rfl (True.intro)))))
                    · refine l_aload_n rfl rfl ?_
                      refine l_gfr rfl rfl rfl rfl rfl (hH.r 891 0 876 rfl) ?_
                      refine l_iload rfl rfl ?_
                      refine l_iconst rfl ?_
                      refine l_iadd rfl ?_
                      have w88 : 0 ≤ Xi S 876 7 ∧ Xi S 876 7 ≤ 5125 := hH.c _ _
                      refine l_callV rfl rfl rfl (t_to_typeAt hH (z59 + 1) ⟨by omega, by omega⟩ _) ?_
                      rintro _ _ ⟨rfl, z90, rfl, w90, w89⟩
                      show Rl _ _ _ _ _ [iv z90] _ _
                      refine l_bipush rfl rfl ?_
                      refine l_icmp_ne rfl rfl (by unfold rg; omega) (by unfold rg; omega) (fun w91 => ?_) (fun w92 => ?_)
                      · refine l_iload rfl rfl ?_
                        refine l_iconst rfl ?_
                        refine l_iadd rfl ?_
                        refine l_istore rfl rfl rfl ?_
                        refine l_goto rfl rfl ?_
                        exact Rl_weak (ih3 _ (by omega) ((z59 + 1)) (by omega) rfl) (And.intro rfl (And.intro rfl (And.intro rfl (And.intro rfl (True.intro)))))
                      · refine l_iload rfl rfl ?_
                        refine l_iconst rfl ?_
                        refine l_iadd rfl ?_
                        refine l_goto rfl rfl ?_
                        refine l_istore rfl rfl rfl ?_
                        refine l_goto rfl rfl ?_
                        exact Rl_weak (ih3 _ (by omega) ((z59 + 2)) (by omega) rfl) (And.intro rfl (And.intro rfl (And.intro rfl (And.intro rfl (True.intro)))))
                  · refine l_iconst rfl ?_
                    refine l_ireturn rfl rfl ?_
                    exact ⟨rfl, _, rfl, ⟨by omega, by omega⟩⟩
              · refine l_iconst rfl ?_
                refine l_ireturn rfl rfl ?_
                exact ⟨rfl, _, rfl, ⟨by omega, by omega⟩⟩
            · refine l_iconst rfl ?_
              refine l_ireturn rfl rfl ?_
              exact ⟨rfl, _, rfl, ⟨by omega, by omega⟩⟩
  refine l_iload_n rfl rfl ?_
  refine l_istore rfl rfl rfl ?_
  exact Rl_weak (C3 _ (from_) (by omega) rfl) (And.intro rfl (And.intro rfl (And.intro rfl (And.intro rfl (True.intro)))))
