/-! SAFETY of methods: printed by wip/safe (vc.py, decl.py) -/
abbrev Q_vo_meaning (S : sS) (k n : Nat) (from_ : Int) (to : Int) : pst := fun r S1 => S = S1 ∧ (∃ z : Int, r = some (iv z) ∧ (-1 ≤ z ∧ z ≤ 3647) ∧ (1 ≤ to - from_ → to - from_ ≤ 3 → 0 ≤ from_ → to ≤ n → z = mnR S k from_.toNat (to - from_).toNat) ∧ (to - from_ < 1 ∨ 3 < to - from_ ∨ from_ < 0 ∨ (n : Int) < to → z = -1) ∧ (mOK S z))
set_option maxRecDepth 100000 in
theorem t_vo_meaning {S : sS} (hH : HI S) (k n : Nat) (from_ : Int) (to : Int) (hlk : lay0 k = (2, n)) (hkk : k < 2000 ∧ n ≤ 5130) (hfrom_ : -1 ≤ from_ ∧ from_ ≤ 6000) (hto : -1 ≤ to ∧ to ≤ 6000) (hL : LEX S) (d : Nat) : Mt lay0 (d + 1) m_vo_meaning [.ref 1, .ref k, iv from_, iv to] S (Q_vo_meaning S k n from_ to) := by
  refine Mt_R rfl rfl ?_
  have w1 : 0 ≤ Xi S 1 3 ∧ Xi S 1 3 ≤ 200 := hH.c _ _
  have C66 : ∀ (n66 : Nat) (v5 : Int) (v7 : Int) (v9 : Int), (0 ≤ v9 ∧ v9 ≤ 200) → (mnR S k from_.toNat (to - from_).toNat = msc S (Xj S k from_.toNat) v5 v7 (Xi S 1 3 - v9).toNat v9.toNat) → (-9223372036854775808 ≤ v5 ∧ v5 < 9223372036854775808) → (-9223372036854775808 ≤ v7 ∧ v7 < 9223372036854775808) → (1 ≤ to - from_ ∧ to - from_ ≤ 3 ∧ 0 ≤ from_ ∧ to ≤ n) → n66 = (201 - v9).toNat → Rl lay0 (d + 0) m_vo_meaning 66 [(0, .ref 1), (1, .ref k), (2, iv from_), (5, jw v5), (7, jw v7), (9, iv v9)] [] S (Q_vo_meaning S k n from_ to) := by
    intro n66
    induction n66 using Nat.strongRecOn with
    | ind n66 ih66 =>
      intro v5 v7 v9 w2 h66 w3 w4 w5 hm66
      refine l_iload rfl rfl ?_
      refine l_aload_n rfl rfl ?_
      refine l_gfi rfl rfl rfl rfl rfl ?_
      have w6 : 0 ≤ (Xi S 1 3) ∧ (Xi S 1 3) ≤ 200 := hH.c _ _
      refine l_icmp_ge rfl rfl (by unfold rg; omega) (by unfold rg; omega) (fun w7 => ?_) (fun w8 => ?_)
      · refine l_iconst rfl ?_
        refine l_ireturn rfl rfl ?_
        exact ⟨rfl, _, rfl, ⟨by omega, by omega⟩, (by first | (intro a b c e; omega) | exact fun _ _ _ _ => (h66.trans (msc_f (by omega) (by omega) (by omega) (by omega) (by omega))).symm | exact fun _ _ _ _ => (h66.trans (msc_e (by omega))).symm), (by omega), (by first | exact Or.inl rfl | exact (h66.trans (msc_f (by omega) (by omega) (by omega) (by omega) (by omega))) ▸ mnR_ok hH hL)⟩
      · refine l_iconst rfl ?_
        refine l_iload rfl rfl ?_
        refine l_imul rfl ?_
        refine l_istore rfl rfl rfl ?_
        refine l_aload_n rfl rfl ?_
        refine l_gfr rfl rfl rfl rfl rfl (hH.r 1 0 2 rfl) ?_
        refine l_iload rfl rfl ?_
        refine l_laload (n := 600) rfl rfl (by omega) (by omega) (by unfold rg; omega) ?_
        have w9 : -9223372036854775808 ≤ (Xj S 2 (((3 * v9)).toNat)) ∧ (Xj S 2 (((3 * v9)).toNat)) < 9223372036854775808 := Xj_rg
        refine l_aload_n rfl rfl ?_
        refine l_iload_n rfl rfl ?_
        refine l_laload (n := n) rfl hlk (by omega) (by omega) (by unfold rg; omega) ?_
        have w10 : -9223372036854775808 ≤ (Xj S k ((from_).toNat)) ∧ (Xj S k ((from_).toNat)) < 9223372036854775808 := Xj_rg
        refine l_lcmp rfl (by unfold rgL; omega) (by unfold rgL; omega) (fun c11 w11 w11a w11b w11c => ?_)
        refine l_if_ne rfl rfl (by unfold rg; omega) (fun w12 => ?_) (fun w13 => ?_)
        · refine l_iinc rfl rfl rfl rfl ?_
          refine l_goto rfl rfl ?_
          exact Rl_weak (ih66 _ (by omega) (v5) (v7) ((v9 + 1)) (by omega) (by first | exact mn_a (by omega) | exact mn_b (by omega) (by omega) (by omega) | exact mn_c (by omega) (by omega) | exact h66.trans (msc_s (by omega) (by omega) (by omega)) | (exfalso; omega)) (by omega) (by omega) (by omega) rfl) (And.intro rfl (And.intro rfl (And.intro rfl (And.intro rfl (And.intro rfl (And.intro rfl (True.intro)))))))
        · refine l_aload_n rfl rfl ?_
          refine l_gfr rfl rfl rfl rfl rfl (hH.r 1 0 2 rfl) ?_
          refine l_iload rfl rfl ?_
          refine l_iconst rfl ?_
          refine l_iadd rfl ?_
          refine l_laload (n := 600) rfl rfl (by omega) (by omega) (by unfold rg; omega) ?_
          have w14 : -9223372036854775808 ≤ (Xj S 2 ((((3 * v9) + 1)).toNat)) ∧ (Xj S 2 ((((3 * v9) + 1)).toNat)) < 9223372036854775808 := Xj_rg
          refine l_lload rfl rfl ?_
          refine l_lcmp rfl (by unfold rgL; omega) (by unfold rgL; omega) (fun c15 w15 w15a w15b w15c => ?_)
          refine l_if_ne rfl rfl (by unfold rg; omega) (fun w16 => ?_) (fun w17 => ?_)
          · refine l_iinc rfl rfl rfl rfl ?_
            refine l_goto rfl rfl ?_
            exact Rl_weak (ih66 _ (by omega) (v5) (v7) ((v9 + 1)) (by omega) (by first | exact mn_a (by omega) | exact mn_b (by omega) (by omega) (by omega) | exact mn_c (by omega) (by omega) | exact h66.trans (msc_s (by omega) (by omega) (by omega)) | (exfalso; omega)) (by omega) (by omega) (by omega) rfl) (And.intro rfl (And.intro rfl (And.intro rfl (And.intro rfl (And.intro rfl (And.intro rfl (True.intro)))))))
          · refine l_aload_n rfl rfl ?_
            refine l_gfr rfl rfl rfl rfl rfl (hH.r 1 0 2 rfl) ?_
            refine l_iload rfl rfl ?_
            refine l_iconst rfl ?_
            refine l_iadd rfl ?_
            refine l_laload (n := 600) rfl rfl (by omega) (by omega) (by unfold rg; omega) ?_
            have w18 : -9223372036854775808 ≤ (Xj S 2 ((((3 * v9) + 2)).toNat)) ∧ (Xj S 2 ((((3 * v9) + 2)).toNat)) < 9223372036854775808 := Xj_rg
            refine l_lload rfl rfl ?_
            refine l_lcmp rfl (by unfold rgL; omega) (by unfold rgL; omega) (fun c19 w19 w19a w19b w19c => ?_)
            refine l_if_ne rfl rfl (by unfold rg; omega) (fun w20 => ?_) (fun w21 => ?_)
            · refine l_iinc rfl rfl rfl rfl ?_
              refine l_goto rfl rfl ?_
              exact Rl_weak (ih66 _ (by omega) (v5) (v7) ((v9 + 1)) (by omega) (by first | exact mn_a (by omega) | exact mn_b (by omega) (by omega) (by omega) | exact mn_c (by omega) (by omega) | exact h66.trans (msc_s (by omega) (by omega) (by omega)) | (exfalso; omega)) (by omega) (by omega) (by omega) rfl) (And.intro rfl (And.intro rfl (And.intro rfl (And.intro rfl (And.intro rfl (And.intro rfl (True.intro)))))))
            · refine l_aload_n rfl rfl ?_
              refine l_gfr rfl rfl rfl rfl rfl (hH.r 1 1 3 rfl) ?_
              refine l_iload rfl rfl ?_
              refine l_iaload (n := 200) rfl rfl (by omega) (by omega) (by unfold rg; omega) ?_
              have w22 : 0 ≤ (Xi S 3 ((v9).toNat)) ∧ (Xi S 3 ((v9).toNat)) ≤ 14 := hH.c _ _
              refine l_sipush rfl rfl ?_
              refine l_imul rfl ?_
              refine l_aload_n rfl rfl ?_
              refine l_gfr rfl rfl rfl rfl rfl (hH.r 1 2 4 rfl) ?_
              refine l_iload rfl rfl ?_
              refine l_iaload (n := 200) rfl rfl (by omega) (by omega) (by unfold rg; omega) ?_
              have w23 : 0 ≤ (Xi S 4 ((v9).toNat)) ∧ (Xi S 4 ((v9).toNat)) ≤ 63 := hH.c _ _
              refine l_iadd rfl ?_
              refine l_ireturn rfl rfl ?_
              exact ⟨rfl, _, rfl, ⟨by omega, by omega⟩, (by first | (intro a b c e; omega) | exact fun _ _ _ _ => (h66.trans (msc_f (by omega) (by omega) (by omega) (by omega) (by omega))).symm | exact fun _ _ _ _ => (h66.trans (msc_e (by omega))).symm), (by omega), (by first | exact Or.inl rfl | exact (h66.trans (msc_f (by omega) (by omega) (by omega) (by omega) (by omega))) ▸ mnR_ok hH hL)⟩
  refine l_iload_n rfl rfl ?_
  refine l_iload_n rfl rfl ?_
  refine l_isub rfl ?_
  refine l_istore rfl rfl rfl ?_
  refine l_iload rfl rfl ?_
  refine l_iconst rfl ?_
  refine l_icmp_lt rfl rfl (by unfold rg; omega) (by unfold rg; omega) (fun w24 => ?_) (fun w25 => ?_)
  · refine l_iconst rfl ?_
    refine l_ireturn rfl rfl ?_
    exact ⟨rfl, _, rfl, ⟨by omega, by omega⟩, (by first | (intro a b c e; omega) | exact fun _ _ _ _ => (h66.trans (msc_f (by omega) (by omega) (by omega) (by omega) (by omega))).symm | exact fun _ _ _ _ => (h66.trans (msc_e (by omega))).symm), (by omega), (by first | exact Or.inl rfl | exact (h66.trans (msc_f (by omega) (by omega) (by omega) (by omega) (by omega))) ▸ mnR_ok hH hL)⟩
  · refine l_iload rfl rfl ?_
    refine l_iconst rfl ?_
    refine l_icmp_gt rfl rfl (by unfold rg; omega) (by unfold rg; omega) (fun w26 => ?_) (fun w27 => ?_)
    · refine l_iconst rfl ?_
      refine l_ireturn rfl rfl ?_
      exact ⟨rfl, _, rfl, ⟨by omega, by omega⟩, (by first | (intro a b c e; omega) | exact fun _ _ _ _ => (h66.trans (msc_f (by omega) (by omega) (by omega) (by omega) (by omega))).symm | exact fun _ _ _ _ => (h66.trans (msc_e (by omega))).symm), (by omega), (by first | exact Or.inl rfl | exact (h66.trans (msc_f (by omega) (by omega) (by omega) (by omega) (by omega))) ▸ mnR_ok hH hL)⟩
    · refine l_iload_n rfl rfl ?_
      refine l_if_lt rfl rfl (by unfold rg; omega) (fun w28 => ?_) (fun w29 => ?_)
      · refine l_iconst rfl ?_
        refine l_ireturn rfl rfl ?_
        exact ⟨rfl, _, rfl, ⟨by omega, by omega⟩, (by first | (intro a b c e; omega) | exact fun _ _ _ _ => (h66.trans (msc_f (by omega) (by omega) (by omega) (by omega) (by omega))).symm | exact fun _ _ _ _ => (h66.trans (msc_e (by omega))).symm), (by omega), (by first | exact Or.inl rfl | exact (h66.trans (msc_f (by omega) (by omega) (by omega) (by omega) (by omega))) ▸ mnR_ok hH hL)⟩
      · refine l_iload_n rfl rfl ?_
        refine l_aload_n rfl rfl ?_
        refine l_alen (n := n) (z := (n : Int)) rfl (sv_k (by omega)) hlk rfl alen_z ?_
        refine l_icmp_le rfl rfl (by unfold rg; omega) (by unfold rg; omega) (fun w30 => ?_) (fun w31 => ?_)
        · refine l_iload rfl rfl ?_
          refine l_iconst rfl ?_
          refine l_icmp_le rfl rfl (by unfold rg; omega) (by unfold rg; omega) (fun w32 => ?_) (fun w33 => ?_)
          · refine l_lconst (z := 0) rfl rfl ?_
            refine l_lstore rfl rfl rfl rfl ?_
            refine l_iload rfl rfl ?_
            refine l_iconst rfl ?_
            refine l_icmp_le rfl rfl (by unfold rg; omega) (by unfold rg; omega) (fun w34 => ?_) (fun w35 => ?_)
            · refine l_lconst (z := 0) rfl rfl ?_
              refine l_lstore rfl rfl rfl rfl ?_
              refine l_iconst rfl ?_
              refine l_istore rfl rfl rfl ?_
              exact Rl_weak (C66 _ (0) (0) (0) (by omega) (by first | exact mn_a (by omega) | exact mn_b (by omega) (by omega) (by omega) | exact mn_c (by omega) (by omega) | exact h66.trans (msc_s (by omega) (by omega) (by omega)) | (exfalso; omega)) (by omega) (by omega) (by omega) rfl) (And.intro rfl (And.intro rfl (And.intro rfl (And.intro rfl (And.intro rfl (And.intro rfl (True.intro)))))))
            · refine l_aload_n rfl rfl ?_
              refine l_iload_n rfl rfl ?_
              refine l_iconst rfl ?_
              refine l_iadd rfl ?_
              refine l_laload (n := n) rfl hlk (by omega) (by omega) (by unfold rg; omega) ?_
              have w36 : -9223372036854775808 ≤ (Xj S k (((from_ + 2)).toNat)) ∧ (Xj S k (((from_ + 2)).toNat)) < 9223372036854775808 := Xj_rg
              refine l_goto rfl rfl ?_
              refine l_lstore rfl rfl rfl rfl ?_
              refine l_iconst rfl ?_
              refine l_istore rfl rfl rfl ?_
              exact Rl_weak (C66 _ (0) ((Xj S k (((from_ + 2)).toNat))) (0) (by omega) (by first | exact mn_a (by omega) | exact mn_b (by omega) (by omega) (by omega) | exact mn_c (by omega) (by omega) | exact h66.trans (msc_s (by omega) (by omega) (by omega)) | (exfalso; omega)) (by omega) (by omega) (by omega) rfl) (And.intro rfl (And.intro rfl (And.intro rfl (And.intro rfl (And.intro rfl (And.intro rfl (True.intro)))))))
          · refine l_aload_n rfl rfl ?_
            refine l_iload_n rfl rfl ?_
            refine l_iconst rfl ?_
            refine l_iadd rfl ?_
            refine l_laload (n := n) rfl hlk (by omega) (by omega) (by unfold rg; omega) ?_
            have w37 : -9223372036854775808 ≤ (Xj S k (((from_ + 1)).toNat)) ∧ (Xj S k (((from_ + 1)).toNat)) < 9223372036854775808 := Xj_rg
            refine l_goto rfl rfl ?_
            refine l_lstore rfl rfl rfl rfl ?_
            refine l_iload rfl rfl ?_
            refine l_iconst rfl ?_
            refine l_icmp_le rfl rfl (by unfold rg; omega) (by unfold rg; omega) (fun w38 => ?_) (fun w39 => ?_)
            · refine l_lconst (z := 0) rfl rfl ?_
              refine l_lstore rfl rfl rfl rfl ?_
              refine l_iconst rfl ?_
              refine l_istore rfl rfl rfl ?_
              exact Rl_weak (C66 _ ((Xj S k (((from_ + 1)).toNat))) (0) (0) (by omega) (by first | exact mn_a (by omega) | exact mn_b (by omega) (by omega) (by omega) | exact mn_c (by omega) (by omega) | exact h66.trans (msc_s (by omega) (by omega) (by omega)) | (exfalso; omega)) (by omega) (by omega) (by omega) rfl) (And.intro rfl (And.intro rfl (And.intro rfl (And.intro rfl (And.intro rfl (And.intro rfl (True.intro)))))))
            · refine l_aload_n rfl rfl ?_
              refine l_iload_n rfl rfl ?_
              refine l_iconst rfl ?_
              refine l_iadd rfl ?_
              refine l_laload (n := n) rfl hlk (by omega) (by omega) (by unfold rg; omega) ?_
              have w40 : -9223372036854775808 ≤ (Xj S k (((from_ + 2)).toNat)) ∧ (Xj S k (((from_ + 2)).toNat)) < 9223372036854775808 := Xj_rg
              refine l_goto rfl rfl ?_
              refine l_lstore rfl rfl rfl rfl ?_
              refine l_iconst rfl ?_
              refine l_istore rfl rfl rfl ?_
              exact Rl_weak (C66 _ ((Xj S k (((from_ + 1)).toNat))) ((Xj S k (((from_ + 2)).toNat))) (0) (by omega) (by first | exact mn_a (by omega) | exact mn_b (by omega) (by omega) (by omega) | exact mn_c (by omega) (by omega) | exact h66.trans (msc_s (by omega) (by omega) (by omega)) | (exfalso; omega)) (by omega) (by omega) (by omega) rfl) (And.intro rfl (And.intro rfl (And.intro rfl (And.intro rfl (And.intro rfl (And.intro rfl (True.intro)))))))
        · refine l_iconst rfl ?_
          refine l_ireturn rfl rfl ?_
          exact ⟨rfl, _, rfl, ⟨by omega, by omega⟩, (by first | (intro a b c e; omega) | exact fun _ _ _ _ => (h66.trans (msc_f (by omega) (by omega) (by omega) (by omega) (by omega))).symm | exact fun _ _ _ _ => (h66.trans (msc_e (by omega))).symm), (by omega), (by first | exact Or.inl rfl | exact (h66.trans (msc_f (by omega) (by omega) (by omega) (by omega) (by omega))) ▸ mnR_ok hH hL)⟩
abbrev Q_me_find (S : sS) (sort : Int) (from_ : Int) (to : Int) : pst := fun r S1 => S = S1 ∧ (∃ z : Int, r = some (iv z) ∧ (-1 ≤ z ∧ z ≤ 63) ∧ (z ≠ -1 → lexB S sort z) ∧ (1 ≤ to - from_ → to - from_ ≤ 3 → 0 ≤ from_ → to ≤ 5130 → (mnR S 879 from_.toNat (to - from_).toNat = sort * 256 + z ∧ z ≠ -1) ∨ (z = -1 ∧ ∀ w : Int, 0 ≤ w → w ≤ 255 → mnR S 879 from_.toNat (to - from_).toNat ≠ sort * 256 + w)))
set_option maxRecDepth 100000 in
theorem t_me_find {S : sS} (hH : HI S) (sort : Int) (from_ : Int) (to : Int) (hsort : 0 ≤ sort ∧ sort ≤ 14) (hfrom_ : -1 ≤ from_ ∧ from_ ≤ 6000) (hto : -1 ≤ to ∧ to ≤ 6000) (hL : LEX S) (d : Nat) : Mt lay0 (d + 2) m_me_find [.ref 895, iv sort, iv from_, iv to] S (Q_me_find S sort from_ to) := by
  refine Mt_R rfl rfl ?_
  refine l_aload_n rfl rfl ?_
  refine l_gfr rfl rfl rfl rfl rfl (hH.r 895 1 1 rfl) ?_
  refine l_aload_n rfl rfl ?_
  refine l_gfr rfl rfl rfl rfl rfl (hH.r 895 0 876 rfl) ?_
  refine l_gfr rfl rfl rfl rfl rfl (hH.r 876 2 879 rfl) ?_
  refine l_iload_n rfl rfl ?_
  refine l_iload_n rfl rfl ?_
  refine l_callV rfl rfl rfl (t_vo_meaning hH 879 5130 from_ to rfl ⟨by omega, by omega⟩ ⟨by omega, by omega⟩ ⟨by omega, by omega⟩ (by first | assumption | omega) _) ?_
  rintro _ _ ⟨rfl, z4, rfl, w4, w1, w2, w3⟩
  show Rl _ _ _ _ _ [iv z4] _ _
  have hmnz4 := mOK_n (z := z4) (by assumption)
  refine l_istore rfl rfl rfl ?_
  refine l_iload rfl rfl ?_
  refine l_bipush rfl rfl ?_
  refine l_ishr8 rfl (by unfold rg; omega) ?_
  refine l_iload_n rfl rfl ?_
  refine l_icmp_ne rfl rfl (by unfold rg; omega) (by unfold rg; omega) (fun w6 => ?_) (fun w7 => ?_)
  · refine l_iconst rfl ?_
    refine l_ireturn rfl rfl ?_
    exact ⟨rfl, _, rfl, ⟨by omega, by omega⟩, (by first | (intro h; exact absurd rfl h) | (intro _; exact lx (by assumption) (by omega) (by omega))), (by intro a b c e; first | (left; omega) | (right; exact ⟨by omega, fun w h1 h2 => by omega⟩))⟩
  · refine l_iload rfl rfl ?_
    refine l_sipush rfl rfl ?_
    refine l_iand255 rfl (by unfold rg; omega) ?_
    refine l_goto rfl rfl ?_
    refine l_ireturn rfl rfl ?_
    exact ⟨rfl, _, rfl, ⟨by omega, by omega⟩, (by first | (intro h; exact absurd rfl h) | (intro _; exact lx (by assumption) (by omega) (by omega))), (by intro a b c e; first | (left; omega) | (right; exact ⟨by omega, fun w h1 h2 => by omega⟩))⟩
abbrev Q_vo_entryOf (S : sS) (sort : Int) (which : Int) : pst := fun r S1 => S = S1 ∧ (∃ z : Int, r = some (iv z) ∧ (-1 ≤ z ∧ z ≤ 199) ∧ (z = -1 ∨ z < Xi S 1 3) ∧ (z ≠ -1 → Xi S 3 z.toNat = sort ∧ Xi S 4 z.toNat = which))
set_option maxRecDepth 100000 in
theorem t_vo_entryOf {S : sS} (hH : HI S) (sort : Int) (which : Int) (hsort : -2147483648 ≤ sort ∧ sort ≤ 2147483647) (hwhich : -2147483648 ≤ which ∧ which ≤ 2147483647) (d : Nat) : Mt lay0 (d + 1) m_vo_entryOf [.ref 1, iv sort, iv which] S (Q_vo_entryOf S sort which) := by
  refine Mt_R rfl rfl ?_
  have w1 : 0 ≤ Xi S 1 3 ∧ Xi S 1 3 ≤ 200 := hH.c _ _
  have C2 : ∀ (n2 : Nat) (v3 : Int), (0 ≤ v3 ∧ v3 ≤ 200) → n2 = (201 - v3).toNat → Rl lay0 (d + 0) m_vo_entryOf 2 [(0, .ref 1), (1, iv sort), (2, iv which), (3, iv v3)] [] S (Q_vo_entryOf S sort which) := by
    intro n2
    induction n2 using Nat.strongRecOn with
    | ind n2 ih2 =>
      intro v3 w2 hm2
      have C32 : ∀  (v3 : Int), (0 ≤ v3 ∧ v3 ≤ 199) → ((201 - v3).toNat ≤ n2) → Rl lay0 (d + 0) m_vo_entryOf 32 [(0, .ref 1), (1, iv sort), (2, iv which), (3, iv v3)] [] S (Q_vo_entryOf S sort which) := by
        intro v3 w3 w4
        refine l_iinc rfl rfl rfl rfl ?_
        refine l_goto rfl rfl ?_
        exact Rl_weak (ih2 _ (by omega) ((v3 + 1)) (by omega) rfl) (And.intro rfl (And.intro rfl (And.intro rfl (And.intro rfl (True.intro)))))
      refine l_iload_n rfl rfl ?_
      refine l_aload_n rfl rfl ?_
      refine l_gfi rfl rfl rfl rfl rfl ?_
      have w5 : 0 ≤ (Xi S 1 3) ∧ (Xi S 1 3) ≤ 200 := hH.c _ _
      refine l_icmp_ge rfl rfl (by unfold rg; omega) (by unfold rg; omega) (fun w6 => ?_) (fun w7 => ?_)
      · refine l_iconst rfl ?_
        refine l_ireturn rfl rfl ?_
        exact ⟨rfl, _, rfl, ⟨by omega, by omega⟩, (by first | assumption | omega), (by first | assumption | omega)⟩
      · refine l_aload_n rfl rfl ?_
        refine l_gfr rfl rfl rfl rfl rfl (hH.r 1 1 3 rfl) ?_
        refine l_iload_n rfl rfl ?_
        refine l_iaload (n := 200) rfl rfl (by omega) (by omega) (by unfold rg; omega) ?_
        have w8 : 0 ≤ (Xi S 3 ((v3).toNat)) ∧ (Xi S 3 ((v3).toNat)) ≤ 14 := hH.c _ _
        refine l_iload_n rfl rfl ?_
        refine l_icmp_ne rfl rfl (by unfold rg; omega) (by unfold rg; omega) (fun w9 => ?_) (fun w10 => ?_)
        · exact Rl_weak (C32 (v3) (by omega) (by omega)) (And.intro rfl (And.intro rfl (And.intro rfl (And.intro rfl (True.intro)))))
        · refine l_aload_n rfl rfl ?_
          refine l_gfr rfl rfl rfl rfl rfl (hH.r 1 2 4 rfl) ?_
          refine l_iload_n rfl rfl ?_
          refine l_iaload (n := 200) rfl rfl (by omega) (by omega) (by unfold rg; omega) ?_
          have w11 : 0 ≤ (Xi S 4 ((v3).toNat)) ∧ (Xi S 4 ((v3).toNat)) ≤ 63 := hH.c _ _
          refine l_iload_n rfl rfl ?_
          refine l_icmp_ne rfl rfl (by unfold rg; omega) (by unfold rg; omega) (fun w12 => ?_) (fun w13 => ?_)
          · exact Rl_weak (C32 (v3) (by omega) (by omega)) (And.intro rfl (And.intro rfl (And.intro rfl (And.intro rfl (True.intro)))))
          · refine l_iload_n rfl rfl ?_
            refine l_ireturn rfl rfl ?_
            exact ⟨rfl, _, rfl, ⟨by omega, by omega⟩, (by first | assumption | omega), (by first | assumption | omega)⟩
  refine l_iconst rfl ?_
  refine l_istore_n rfl rfl rfl ?_
  exact Rl_weak (C2 _ (0) (by omega) rfl) (And.intro rfl (And.intro rfl (And.intro rfl (And.intro rfl (True.intro)))))
def md_vo_addEntry : List rec := [(1, 2, 3, 4), (2, 3, 0, 100000), (3, 4, 0, 100000), (4, 5, 0, 100000)]
abbrev Q_vo_addEntry (S : sS) (sort : Int) (which : Int) (word : Int) : pst := fun r S1 => HI S1 ∧ FR md_vo_addEntry S S1 ∧ (r = none ∧ (LEX S1) ∧ (LKEEP S S1) ∧ ((Xi S 1 3 < 200 → Xi S1 1 3 = Xi S 1 3 + 1) ∧ (200 ≤ Xi S 1 3 → Xi S1 1 3 = Xi S 1 3)))
set_option maxRecDepth 100000 in
theorem t_vo_addEntry {S : sS} (hH : HI S) (sort : Int) (which : Int) (word : Int) (hsort : 0 ≤ sort ∧ sort ≤ 14) (hwhich : 0 ≤ which ∧ which ≤ 63) (hL : LEX S) (hb : lexB S sort which) (d : Nat) : Mt lay0 (d + 1) m_vo_addEntry [.ref 1, iv sort, iv which, jw word] S (Q_vo_addEntry S sort which word) := by
  refine Mt_R rfl rfl ?_
  have hF : FR md_vo_addEntry S S := FR.rf
  have w1 : 0 ≤ Xi S 1 3 ∧ Xi S 1 3 ≤ 200 := hH.c _ _
  refine l_aload_n rfl rfl ?_
  refine l_gfi rfl rfl rfl rfl rfl ?_
  have w2 : 0 ≤ (Xi S 1 3) ∧ (Xi S 1 3) ≤ 200 := hH.c _ _
  refine l_sipush rfl rfl ?_
  refine l_icmp_ge rfl rfl (by unfold rg; omega) (by unfold rg; omega) (fun w3 => ?_) (fun w4 => ?_)
  · refine l_return rfl rfl ?_
    have w5 : 0 ≤ Xi S 1 3 ∧ Xi S 1 3 ≤ 200 := hH.c _ _
    exact ⟨hH, hF, rfl, (by first | exact hL | exact lex_addU hL eU1 eU2 eU3 eU4 eU5 eU6 (by omega) (by omega) (by omega) (by omega) hb), (by first | exact LKEEP.rf | exact lkeep_addU eU1 eU2 eU3 eU4 eU5 eU6 (by omega) (by omega)), (by omega)⟩
  · refine l_aload_n rfl rfl ?_
    refine l_gfr rfl rfl rfl rfl rfl (hH.r 1 0 2 rfl) ?_
    refine l_iconst rfl ?_
    refine l_aload_n rfl rfl ?_
    refine l_gfi rfl rfl rfl rfl rfl ?_
    refine l_imul rfl ?_
    refine l_lload_n rfl rfl ?_
    refine l_lastore (n := 600) rfl rfl (by omega) (by omega) (by unfold rg; omega) ?_
    obtain ⟨U1, eU1⟩ : ∃ T : sS, T = uJ S 2 (((3 * (Xi S 1 3))).toNat) (Int64.ofInt word) := ⟨_, rfl⟩
    rw [← eU1]
    have hHU1 : HI U1 := by rw [eU1]; exact HI_J hH
    have hFU1 : FR md_vo_addEntry S U1 := by rw [eU1]; exact FR.wJ hF (mdf_i (r := (2, 3, 0, 100000)) (List.mem_of_getElem? (i := 1) rfl) (inR_i (by omega) (by omega) (by omega) (by omega)))
    refine l_aload_n rfl rfl ?_
    refine l_gfr rfl rfl rfl rfl rfl (hHU1.r 1 0 2 rfl) ?_
    refine l_iconst rfl ?_
    refine l_aload_n rfl rfl ?_
    refine l_gfi rfl rfl rfl rfl rfl ?_
    have w6 : (Xi U1 1 3) = (Xi S 1 3) := (show Xi U1 1 3 = Xi S 1 3 from by rw [eU1]; rfl)
    rw [w6]
    refine l_imul rfl ?_
    refine l_iconst rfl ?_
    refine l_iadd rfl ?_
    refine l_lconst (z := 0) rfl rfl ?_
    refine l_lastore (n := 600) rfl rfl (by omega) (by omega) (by unfold rg; omega) ?_
    obtain ⟨U2, eU2⟩ : ∃ T : sS, T = uJ U1 2 ((((3 * (Xi S 1 3)) + 1)).toNat) (Int64.ofInt 0) := ⟨_, rfl⟩
    rw [← eU2]
    have hHU2 : HI U2 := by rw [eU2]; exact HI_J hHU1
    have hFU2 : FR md_vo_addEntry S U2 := by rw [eU2]; exact FR.wJ hFU1 (mdf_i (r := (2, 3, 0, 100000)) (List.mem_of_getElem? (i := 1) rfl) (inR_i (by omega) (by omega) (by omega) (by omega)))
    refine l_aload_n rfl rfl ?_
    refine l_gfr rfl rfl rfl rfl rfl (hHU2.r 1 0 2 rfl) ?_
    refine l_iconst rfl ?_
    refine l_aload_n rfl rfl ?_
    refine l_gfi rfl rfl rfl rfl rfl ?_
    have w7 : (Xi U2 1 3) = (Xi S 1 3) := (show Xi U2 1 3 = Xi U1 1 3 from by rw [eU2]; rfl).trans ((show Xi U1 1 3 = Xi S 1 3 from by rw [eU1]; rfl))
    rw [w7]
    refine l_imul rfl ?_
    refine l_iconst rfl ?_
    refine l_iadd rfl ?_
    refine l_lconst (z := 0) rfl rfl ?_
    refine l_lastore (n := 600) rfl rfl (by omega) (by omega) (by unfold rg; omega) ?_
    obtain ⟨U3, eU3⟩ : ∃ T : sS, T = uJ U2 2 ((((3 * (Xi S 1 3)) + 2)).toNat) (Int64.ofInt 0) := ⟨_, rfl⟩
    rw [← eU3]
    have hHU3 : HI U3 := by rw [eU3]; exact HI_J hHU2
    have hFU3 : FR md_vo_addEntry S U3 := by rw [eU3]; exact FR.wJ hFU2 (mdf_i (r := (2, 3, 0, 100000)) (List.mem_of_getElem? (i := 1) rfl) (inR_i (by omega) (by omega) (by omega) (by omega)))
    refine l_aload_n rfl rfl ?_
    refine l_gfr rfl rfl rfl rfl rfl (hHU3.r 1 1 3 rfl) ?_
    refine l_aload_n rfl rfl ?_
    refine l_gfi rfl rfl rfl rfl rfl ?_
    have w8 : (Xi U3 1 3) = (Xi S 1 3) := (show Xi U3 1 3 = Xi U2 1 3 from by rw [eU3]; rfl).trans ( (show Xi U2 1 3 = Xi U1 1 3 from by rw [eU2]; rfl).trans ((show Xi U1 1 3 = Xi S 1 3 from by rw [eU1]; rfl)))
    rw [w8]
    refine l_iload_n rfl rfl ?_
    refine l_iastore (n := 200) rfl rfl (by omega) (by omega) (by unfold rg; omega) ?_
    obtain ⟨U4, eU4⟩ : ∃ T : sS, T = uI U3 3 (((Xi S 1 3)).toNat) (Int32.ofInt sort) := ⟨_, rfl⟩
    rw [← eU4]
    have hHU4 : HI U4 := by rw [eU4]; exact HI_w hHU3 (show 0 ≤ sort by omega) (show sort ≤ 14 by omega)
    have hFU4 : FR md_vo_addEntry S U4 := by rw [eU4]; exact FR.wI hFU3 (mdf_i (r := (3, 4, 0, 100000)) (List.mem_of_getElem? (i := 2) rfl) (inR_i (by omega) (by omega) (by omega) (by omega)))
    have w9 : Xi U4 3 (((Xi S 1 3)).toNat) = sort := by rw [eU4]; exact Xi_same (by unfold rg; omega)
    refine l_aload_n rfl rfl ?_
    refine l_gfr rfl rfl rfl rfl rfl (hHU4.r 1 2 4 rfl) ?_
    refine l_aload_n rfl rfl ?_
    refine l_gfi rfl rfl rfl rfl rfl ?_
    have w10 : (Xi U4 1 3) = (Xi S 1 3) := (show Xi U4 1 3 = Xi U3 1 3 from by rw [eU4]; exact Xi_ne (by omega)).trans ( (show Xi U3 1 3 = Xi U2 1 3 from by rw [eU3]; rfl).trans ( (show Xi U2 1 3 = Xi U1 1 3 from by rw [eU2]; rfl).trans ((show Xi U1 1 3 = Xi S 1 3 from by rw [eU1]; rfl))))
    rw [w10]
    refine l_iload_n rfl rfl ?_
    refine l_iastore (n := 200) rfl rfl (by omega) (by omega) (by unfold rg; omega) ?_
    obtain ⟨U5, eU5⟩ : ∃ T : sS, T = uI U4 4 (((Xi S 1 3)).toNat) (Int32.ofInt which) := ⟨_, rfl⟩
    rw [← eU5]
    have hHU5 : HI U5 := by rw [eU5]; exact HI_w hHU4 (show 0 ≤ which by omega) (show which ≤ 63 by omega)
    have hFU5 : FR md_vo_addEntry S U5 := by rw [eU5]; exact FR.wI hFU4 (mdf_i (r := (4, 5, 0, 100000)) (List.mem_of_getElem? (i := 3) rfl) (inR_i (by omega) (by omega) (by omega) (by omega)))
    have w11 : Xi U5 4 (((Xi S 1 3)).toNat) = which := by rw [eU5]; exact Xi_same (by unfold rg; omega)
    refine l_aload_n rfl rfl ?_
    refine l_dup rfl rfl ?_
    refine l_gfi rfl rfl rfl rfl rfl ?_
    have w12 : (Xi U5 1 3) = (Xi S 1 3) := (show Xi U5 1 3 = Xi U4 1 3 from by rw [eU5]; exact Xi_ne (by omega)).trans ( (show Xi U4 1 3 = Xi U3 1 3 from by rw [eU4]; exact Xi_ne (by omega)).trans ( (show Xi U3 1 3 = Xi U2 1 3 from by rw [eU3]; rfl).trans ( (show Xi U2 1 3 = Xi U1 1 3 from by rw [eU2]; rfl).trans ((show Xi U1 1 3 = Xi S 1 3 from by rw [eU1]; rfl)))))
    rw [w12]
    refine l_iconst rfl ?_
    refine l_iadd rfl ?_
    refine l_pfi rfl rfl rfl rfl ?_
    obtain ⟨U6, eU6⟩ : ∃ T : sS, T = uI U5 1 3 (Int32.ofInt ((Xi S 1 3) + 1)) := ⟨_, rfl⟩
    rw [← eU6]
    have hHU6 : HI U6 := by rw [eU6]; exact HI_w hHU5 (show 0 ≤ ((Xi S 1 3) + 1) by omega) (show ((Xi S 1 3) + 1) ≤ 200 by omega)
    have hFU6 : FR md_vo_addEntry S U6 := by rw [eU6]; exact FR.wI hFU5 (mdf_i (r := (1, 2, 3, 4)) (List.mem_of_getElem? (i := 0) rfl) (inR_i (by omega) (by omega) (by omega) (by omega)))
    have w13 : Xi U6 1 3 = ((Xi S 1 3) + 1) := by rw [eU6]; exact Xi_same (by unfold rg; omega)
    refine l_return rfl rfl ?_
    have w14 : 0 ≤ Xi U6 1 3 ∧ Xi U6 1 3 ≤ 200 := hHU6.c _ _
    exact ⟨hHU6, hFU6, rfl, (by first | exact hL | exact lex_addU hL eU1 eU2 eU3 eU4 eU5 eU6 (by omega) (by omega) (by omega) (by omega) hb), (by first | exact LKEEP.rf | exact lkeep_addU eU1 eU2 eU3 eU4 eU5 eU6 (by omega) (by omega)), (by omega)⟩
