-- nothing
/-! SAFETY of methods: printed by wip/safe (vc.py, decl.py) -/
abbrev Q_vo_meaning (S : sS) (k n : Nat) (from_ : Int) (to : Int) : pst := fun r S1 => S = S1 ∧ (∃ z : Int, r = some (iv z) ∧ (-1 ≤ z ∧ z ≤ 3647) ∧ (1 ≤ to - from_ → to - from_ ≤ 3 → 0 ≤ from_ → to ≤ n → z = mnR S k from_.toNat (to - from_).toNat) ∧ (to - from_ < 1 ∨ 3 < to - from_ ∨ from_ < 0 ∨ (n : Int) < to → z = -1) ∧ (mOK S z))
set_option maxRecDepth 100000 in
theorem t_vo_meaning {S : sS} (hH : HI S) (k n : Nat) (from_ : Int) (to : Int) (hlk : lay0 k = (2, n)) (hkk : k < 2000 ∧ n ≤ 5130) (hfrom_ : -1 ≤ from_ ∧ from_ ≤ 6000) (hto : -1 ≤ to ∧ to ≤ 6000) (hL : LEX S) (d : Nat) : Mt lay0 (d + 1) m_vo_meaning [.ref 1, .ref k, iv from_, iv to] S (Q_vo_meaning S k n from_ to) := by
  refine Mt_R rfl rfl ?_
  have w1 : 0 ≤ Xi S 1 3 ∧ Xi S 1 3 ≤ 200 := hH.c _ _
  have C66 : ∀ (n66 : Nat) (v5 : Int) (v7 : Int) (v9 : Int), (0 ≤ v9 ∧ v9 ≤ 200) → (mnR S k from_.toNat (to - from_).toNat = msc S (Xj S k from_.toNat) v5 v7 (Xi S 1 3 - v9).toNat v9.toNat) → (-9223372036854775808 ≤ v5 ∧ v5 < 9223372036854775808) → (-9223372036854775808 ≤ v7 ∧ v7 < 9223372036854775808) → (1 ≤ to - from_ ∧ to - from_ ≤ 3 ∧ 0 ≤ from_ ∧ to ≤ n) → n66 = (201 - v9).toNat → Rl lay0 (d + 0) m_vo_meaning 66 [(0, .ref 1), (1, .ref k), (2, iv from_), (5, jw v5), (7, jw v7), (9, iv v9)] [] S (Q_vo_meaning S k n from_ to) := by
    intro n66
    induction n66 using Nat.strongRecOn with
    | ind n66 ih66 =>
      intro v5 v7 v9 w2 h66 w3 w4 w5 hm66
      refine l_iload rfl rfl ?_
      refine l_aload_n rfl rfl ?_
      refine l_gfi rfl rfl rfl rfl rfl ?_
      refine l_icmp_ge rfl rfl (by unfold rg; omega) (by unfold rg; omega) (fun w6 => ?_) (fun w7 => ?_)
      · refine l_iconst rfl ?_
        refine l_ireturn rfl rfl ?_
        exact ⟨rfl, _, rfl, ⟨by omega, by omega⟩, (by first | (intro a b c e; omega) | exact fun _ _ _ _ => (h66.trans (msc_f (by omega) (by omega) (by omega) (by omega) (by omega))).symm | exact fun _ _ _ _ => (h66.trans (msc_e (by omega))).symm), (by omega), (by first | exact Or.inl rfl | exact (h66.trans (msc_f (by omega) (by omega) (by omega) (by omega) (by omega))) ▸ mnR_ok hH hL)⟩
      · refine l_iconst rfl ?_
        refine l_iload rfl rfl ?_
        refine l_imul rfl ?_
        refine l_istore rfl rfl rfl ?_
        refine l_aload_n rfl rfl ?_
        refine l_gfr rfl rfl rfl rfl rfl (hH.r 1 0 2 rfl) ?_
        refine l_iload rfl rfl ?_
        refine l_laload (n := 600) rfl rfl (by omega) (by omega) (by unfold rg; omega) ?_
        have w8 : -9223372036854775808 ≤ (Xj S 2 (((3 * v9)).toNat)) ∧ (Xj S 2 (((3 * v9)).toNat)) < 9223372036854775808 := Xj_rg
        refine l_aload_n rfl rfl ?_
        refine l_iload_n rfl rfl ?_
        refine l_laload (n := n) rfl hlk (by omega) (by omega) (by unfold rg; omega) ?_
        have w9 : -9223372036854775808 ≤ (Xj S k ((from_).toNat)) ∧ (Xj S k ((from_).toNat)) < 9223372036854775808 := Xj_rg
        refine l_lcmp rfl (by unfold rgL; omega) (by unfold rgL; omega) (fun c10 w10 w10a w10b w10c => ?_)
        refine l_if_ne rfl rfl (by unfold rg; omega) (fun w11 => ?_) (fun w12 => ?_)
        · refine l_iinc rfl rfl rfl rfl ?_
          refine l_goto rfl rfl ?_
          exact Rl_weak (ih66 _ (by omega) (v5) (v7) ((v9 + 1)) (by omega) (by first | exact mn_a (by omega) | exact mn_b (by omega) (by omega) (by omega) | exact mn_c (by omega) (by omega) | exact h66.trans (msc_s (by omega) (by omega) (by omega)) | (exfalso; omega)) (by omega) (by omega) (by omega) rfl) (And.intro rfl (And.intro rfl (And.intro rfl (And.intro rfl (And.intro rfl (And.intro rfl (True.intro)))))))
        · refine l_aload_n rfl rfl ?_
          refine l_gfr rfl rfl rfl rfl rfl (hH.r 1 0 2 rfl) ?_
          refine l_iload rfl rfl ?_
          refine l_iconst rfl ?_
          refine l_iadd rfl ?_
          refine l_laload (n := 600) rfl rfl (by omega) (by omega) (by unfold rg; omega) ?_
          have w13 : -9223372036854775808 ≤ (Xj S 2 ((((3 * v9) + 1)).toNat)) ∧ (Xj S 2 ((((3 * v9) + 1)).toNat)) < 9223372036854775808 := Xj_rg
          refine l_lload rfl rfl ?_
          refine l_lcmp rfl (by unfold rgL; omega) (by unfold rgL; omega) (fun c14 w14 w14a w14b w14c => ?_)
          refine l_if_ne rfl rfl (by unfold rg; omega) (fun w15 => ?_) (fun w16 => ?_)
          · refine l_iinc rfl rfl rfl rfl ?_
            refine l_goto rfl rfl ?_
            exact Rl_weak (ih66 _ (by omega) (v5) (v7) ((v9 + 1)) (by omega) (by first | exact mn_a (by omega) | exact mn_b (by omega) (by omega) (by omega) | exact mn_c (by omega) (by omega) | exact h66.trans (msc_s (by omega) (by omega) (by omega)) | (exfalso; omega)) (by omega) (by omega) (by omega) rfl) (And.intro rfl (And.intro rfl (And.intro rfl (And.intro rfl (And.intro rfl (And.intro rfl (True.intro)))))))
          · refine l_aload_n rfl rfl ?_
            refine l_gfr rfl rfl rfl rfl rfl (hH.r 1 0 2 rfl) ?_
            refine l_iload rfl rfl ?_
            refine l_iconst rfl ?_
            refine l_iadd rfl ?_
            refine l_laload (n := 600) rfl rfl (by omega) (by omega) (by unfold rg; omega) ?_
            have w17 : -9223372036854775808 ≤ (Xj S 2 ((((3 * v9) + 2)).toNat)) ∧ (Xj S 2 ((((3 * v9) + 2)).toNat)) < 9223372036854775808 := Xj_rg
            refine l_lload rfl rfl ?_
            refine l_lcmp rfl (by unfold rgL; omega) (by unfold rgL; omega) (fun c18 w18 w18a w18b w18c => ?_)
            refine l_if_ne rfl rfl (by unfold rg; omega) (fun w19 => ?_) (fun w20 => ?_)
            · refine l_iinc rfl rfl rfl rfl ?_
              refine l_goto rfl rfl ?_
              exact Rl_weak (ih66 _ (by omega) (v5) (v7) ((v9 + 1)) (by omega) (by first | exact mn_a (by omega) | exact mn_b (by omega) (by omega) (by omega) | exact mn_c (by omega) (by omega) | exact h66.trans (msc_s (by omega) (by omega) (by omega)) | (exfalso; omega)) (by omega) (by omega) (by omega) rfl) (And.intro rfl (And.intro rfl (And.intro rfl (And.intro rfl (And.intro rfl (And.intro rfl (True.intro)))))))
            · refine l_aload_n rfl rfl ?_
              refine l_gfr rfl rfl rfl rfl rfl (hH.r 1 1 3 rfl) ?_
              refine l_iload rfl rfl ?_
              refine l_iaload (n := 200) rfl rfl (by omega) (by omega) (by unfold rg; omega) ?_
              have w21 : 0 ≤ (Xi S 3 ((v9).toNat)) ∧ (Xi S 3 ((v9).toNat)) ≤ 14 := hH.c _ _
              refine l_sipush rfl rfl ?_
              refine l_imul rfl ?_
              refine l_aload_n rfl rfl ?_
              refine l_gfr rfl rfl rfl rfl rfl (hH.r 1 2 4 rfl) ?_
              refine l_iload rfl rfl ?_
              refine l_iaload (n := 200) rfl rfl (by omega) (by omega) (by unfold rg; omega) ?_
              have w22 : 0 ≤ (Xi S 4 ((v9).toNat)) ∧ (Xi S 4 ((v9).toNat)) ≤ 63 := hH.c _ _
              refine l_iadd rfl ?_
              refine l_ireturn rfl rfl ?_
              exact ⟨rfl, _, rfl, ⟨by omega, by omega⟩, (by first | (intro a b c e; omega) | exact fun _ _ _ _ => (h66.trans (msc_f (by omega) (by omega) (by omega) (by omega) (by omega))).symm | exact fun _ _ _ _ => (h66.trans (msc_e (by omega))).symm), (by omega), (by first | exact Or.inl rfl | exact (h66.trans (msc_f (by omega) (by omega) (by omega) (by omega) (by omega))) ▸ mnR_ok hH hL)⟩
  refine l_iload_n rfl rfl ?_
  refine l_iload_n rfl rfl ?_
  refine l_isub rfl ?_
  refine l_istore rfl rfl rfl ?_
  refine l_iload rfl rfl ?_
  refine l_iconst rfl ?_
  refine l_icmp_lt rfl rfl (by unfold rg; omega) (by unfold rg; omega) (fun w23 => ?_) (fun w24 => ?_)
  · refine l_iconst rfl ?_
    refine l_ireturn rfl rfl ?_
    exact ⟨rfl, _, rfl, ⟨by omega, by omega⟩, (by first | (intro a b c e; omega) | exact fun _ _ _ _ => (h66.trans (msc_f (by omega) (by omega) (by omega) (by omega) (by omega))).symm | exact fun _ _ _ _ => (h66.trans (msc_e (by omega))).symm), (by omega), (by first | exact Or.inl rfl | exact (h66.trans (msc_f (by omega) (by omega) (by omega) (by omega) (by omega))) ▸ mnR_ok hH hL)⟩
  · refine l_iload rfl rfl ?_
    refine l_iconst rfl ?_
    refine l_icmp_gt rfl rfl (by unfold rg; omega) (by unfold rg; omega) (fun w25 => ?_) (fun w26 => ?_)
    · refine l_iconst rfl ?_
      refine l_ireturn rfl rfl ?_
      exact ⟨rfl, _, rfl, ⟨by omega, by omega⟩, (by first | (intro a b c e; omega) | exact fun _ _ _ _ => (h66.trans (msc_f (by omega) (by omega) (by omega) (by omega) (by omega))).symm | exact fun _ _ _ _ => (h66.trans (msc_e (by omega))).symm), (by omega), (by first | exact Or.inl rfl | exact (h66.trans (msc_f (by omega) (by omega) (by omega) (by omega) (by omega))) ▸ mnR_ok hH hL)⟩
    · refine l_iload_n rfl rfl ?_
      refine l_if_lt rfl rfl (by unfold rg; omega) (fun w27 => ?_) (fun w28 => ?_)
      · refine l_iconst rfl ?_
        refine l_ireturn rfl rfl ?_
        exact ⟨rfl, _, rfl, ⟨by omega, by omega⟩, (by first | (intro a b c e; omega) | exact fun _ _ _ _ => (h66.trans (msc_f (by omega) (by omega) (by omega) (by omega) (by omega))).symm | exact fun _ _ _ _ => (h66.trans (msc_e (by omega))).symm), (by omega), (by first | exact Or.inl rfl | exact (h66.trans (msc_f (by omega) (by omega) (by omega) (by omega) (by omega))) ▸ mnR_ok hH hL)⟩
      · refine l_iload_n rfl rfl ?_
        refine l_aload_n rfl rfl ?_
        refine l_alen (n := n) (z := (n : Int)) rfl (sv_k (by omega)) hlk rfl alen_z ?_
        refine l_icmp_le rfl rfl (by unfold rg; omega) (by unfold rg; omega) (fun w29 => ?_) (fun w30 => ?_)
        · refine l_iload rfl rfl ?_
          refine l_iconst rfl ?_
          refine l_icmp_le rfl rfl (by unfold rg; omega) (by unfold rg; omega) (fun w31 => ?_) (fun w32 => ?_)
          · refine l_lconst (z := 0) rfl rfl ?_
            refine l_lstore rfl rfl rfl rfl ?_
            refine l_iload rfl rfl ?_
            refine l_iconst rfl ?_
            refine l_icmp_le rfl rfl (by unfold rg; omega) (by unfold rg; omega) (fun w33 => ?_) (fun w34 => ?_)
            · refine l_lconst (z := 0) rfl rfl ?_
              refine l_lstore rfl rfl rfl rfl ?_
              refine l_iconst rfl ?_
              refine l_istore rfl rfl rfl ?_
              exact Rl_weak (C66 _ (0) (0) (0) (by omega) (by first | exact mn_a (by omega) | exact mn_b (by omega) (by omega) (by omega) | exact mn_c (by omega) (by omega) | exact h66.trans (msc_s (by omega) (by omega) (by omega)) | (exfalso; omega)) (by omega) (by omega) (by omega) rfl) (And.intro rfl (And.intro rfl (And.intro rfl (And.intro rfl (And.intro rfl (And.intro rfl (True.intro)))))))
            · refine l_aload_n rfl rfl ?_
              refine l_iload_n rfl rfl ?_
              refine l_iconst rfl ?_
              refine l_iadd rfl ?_
              refine l_laload (n := n) rfl hlk (by omega) (by omega) (by unfold rg; omega) ?_
              have w35 : -9223372036854775808 ≤ (Xj S k (((from_ + 2)).toNat)) ∧ (Xj S k (((from_ + 2)).toNat)) < 9223372036854775808 := Xj_rg
              refine l_goto rfl rfl ?_
              refine l_lstore rfl rfl rfl rfl ?_
              refine l_iconst rfl ?_
              refine l_istore rfl rfl rfl ?_
              exact Rl_weak (C66 _ (0) ((Xj S k (((from_ + 2)).toNat))) (0) (by omega) (by first | exact mn_a (by omega) | exact mn_b (by omega) (by omega) (by omega) | exact mn_c (by omega) (by omega) | exact h66.trans (msc_s (by omega) (by omega) (by omega)) | (exfalso; omega)) (by omega) (by omega) (by omega) rfl) (And.intro rfl (And.intro rfl (And.intro rfl (And.intro rfl (And.intro rfl (And.intro rfl (True.intro)))))))
          · refine l_aload_n rfl rfl ?_
            refine l_iload_n rfl rfl ?_
            refine l_iconst rfl ?_
            refine l_iadd rfl ?_
            refine l_laload (n := n) rfl hlk (by omega) (by omega) (by unfold rg; omega) ?_
            have w36 : -9223372036854775808 ≤ (Xj S k (((from_ + 1)).toNat)) ∧ (Xj S k (((from_ + 1)).toNat)) < 9223372036854775808 := Xj_rg
            refine l_goto rfl rfl ?_
            refine l_lstore rfl rfl rfl rfl ?_
            refine l_iload rfl rfl ?_
            refine l_iconst rfl ?_
            refine l_icmp_le rfl rfl (by unfold rg; omega) (by unfold rg; omega) (fun w37 => ?_) (fun w38 => ?_)
            · refine l_lconst (z := 0) rfl rfl ?_
              refine l_lstore rfl rfl rfl rfl ?_
              refine l_iconst rfl ?_
              refine l_istore rfl rfl rfl ?_
              exact Rl_weak (C66 _ ((Xj S k (((from_ + 1)).toNat))) (0) (0) (by omega) (by first | exact mn_a (by omega) | exact mn_b (by omega) (by omega) (by omega) | exact mn_c (by omega) (by omega) | exact h66.trans (msc_s (by omega) (by omega) (by omega)) | (exfalso; omega)) (by omega) (by omega) (by omega) rfl) (And.intro rfl (And.intro rfl (And.intro rfl (And.intro rfl (And.intro rfl (And.intro rfl (True.intro)))))))
            · refine l_aload_n rfl rfl ?_
              refine l_iload_n rfl rfl ?_
              refine l_iconst rfl ?_
              refine l_iadd rfl ?_
              refine l_laload (n := n) rfl hlk (by omega) (by omega) (by unfold rg; omega) ?_
              have w39 : -9223372036854775808 ≤ (Xj S k (((from_ + 2)).toNat)) ∧ (Xj S k (((from_ + 2)).toNat)) < 9223372036854775808 := Xj_rg
              refine l_goto rfl rfl ?_
              refine l_lstore rfl rfl rfl rfl ?_
              refine l_iconst rfl ?_
              refine l_istore rfl rfl rfl ?_
              exact Rl_weak (C66 _ ((Xj S k (((from_ + 1)).toNat))) ((Xj S k (((from_ + 2)).toNat))) (0) (by omega) (by first | exact mn_a (by omega) | exact mn_b (by omega) (by omega) (by omega) | exact mn_c (by omega) (by omega) | exact h66.trans (msc_s (by omega) (by omega) (by omega)) | (exfalso; omega)) (by omega) (by omega) (by omega) rfl) (And.intro rfl (And.intro rfl (And.intro rfl (And.intro rfl (And.intro rfl (And.intro rfl (True.intro)))))))
        · refine l_iconst rfl ?_
          refine l_ireturn rfl rfl ?_
          exact ⟨rfl, _, rfl, ⟨by omega, by omega⟩, (by first | (intro a b c e; omega) | exact fun _ _ _ _ => (h66.trans (msc_f (by omega) (by omega) (by omega) (by omega) (by omega))).symm | exact fun _ _ _ _ => (h66.trans (msc_e (by omega))).symm), (by omega), (by first | exact Or.inl rfl | exact (h66.trans (msc_f (by omega) (by omega) (by omega) (by omega) (by omega))) ▸ mnR_ok hH hL)⟩
abbrev Q_me_find (S : sS) (sort : Int) (from_ : Int) (to : Int) : pst := fun r S1 => S = S1 ∧ (∃ z : Int, r = some (iv z) ∧ (-1 ≤ z ∧ z ≤ 63) ∧ (z ≠ -1 → lexB S sort z) ∧ (1 ≤ to - from_ → to - from_ ≤ 3 → 0 ≤ from_ → to ≤ 5130 → (mnR S 879 from_.toNat (to - from_).toNat = sort * 256 + z ∧ z ≠ -1) ∨ (z = -1 ∧ ∀ w : Int, 0 ≤ w → w ≤ 255 → mnR S 879 from_.toNat (to - from_).toNat ≠ sort * 256 + w)) ∧ (z = fnd S sort from_ to))
set_option maxRecDepth 100000 in
theorem t_me_find {S : sS} (hH : HI S) (sort : Int) (from_ : Int) (to : Int) (hsort : 0 ≤ sort ∧ sort ≤ 14) (hfrom_ : -1 ≤ from_ ∧ from_ ≤ 6000) (hto : -1 ≤ to ∧ to ≤ 6000) (hL : LEX S) (d : Nat) : Mt lay0 (d + 2) m_me_find [.ref 895, iv sort, iv from_, iv to] S (Q_me_find S sort from_ to) := by
  refine Mt_R rfl rfl ?_
  refine l_aload_n rfl rfl ?_
  refine l_gfr rfl rfl rfl rfl rfl (hH.r 895 1 1 rfl) ?_
  refine l_aload_n rfl rfl ?_
  refine l_gfr rfl rfl rfl rfl rfl (hH.r 895 0 876 rfl) ?_
  refine l_gfr rfl rfl rfl rfl rfl (hH.r 876 2 879 rfl) ?_
  refine l_iload_n rfl rfl ?_
  refine l_iload_n rfl rfl ?_
  refine l_callV rfl rfl rfl (t_vo_meaning hH 879 5130 from_ to rfl ⟨by omega, by omega⟩ ⟨by omega, by omega⟩ ⟨by omega, by omega⟩ (by first | assumption | exact (by assumption : LEX S)) _) ?_
  rintro _ _ ⟨rfl, z4, rfl, w4, w1, w2, w3⟩
  show Rl _ _ _ _ _ [iv z4] _ _
  have hmnz4 := mOK_n (z := z4) (by assumption)
  have hmv : mnV S from_ to = z4 := mnV_of (by assumption) (by assumption)
  refine l_istore rfl rfl rfl ?_
  refine l_iload rfl rfl ?_
  refine l_bipush rfl rfl ?_
  refine l_ishr8 rfl (by unfold rg; omega) ?_
  refine l_iload_n rfl rfl ?_
  refine l_icmp_ne rfl rfl (by unfold rg; omega) (by unfold rg; omega) (fun w6 => ?_) (fun w7 => ?_)
  · refine l_iconst rfl ?_
    refine l_ireturn rfl rfl ?_
    exact ⟨rfl, _, rfl, ⟨by omega, by omega⟩, (by first | (intro h; exact absurd rfl h) | (intro _; exact lx (by assumption) (by omega) (by omega))), (by intro a b c e; first | (left; omega) | (right; exact ⟨by omega, fun w h1 h2 => by omega⟩)), (by first | exact fnd_y hmv (by omega) | exact fnd_n hmv (by omega))⟩
  · refine l_iload rfl rfl ?_
    refine l_sipush rfl rfl ?_
    refine l_iand255 rfl (by unfold rg; omega) ?_
    refine l_goto rfl rfl ?_
    refine l_ireturn rfl rfl ?_
    exact ⟨rfl, _, rfl, ⟨by omega, by omega⟩, (by first | (intro h; exact absurd rfl h) | (intro _; exact lx (by assumption) (by omega) (by omega))), (by intro a b c e; first | (left; omega) | (right; exact ⟨by omega, fun w h1 h2 => by omega⟩)), (by first | exact fnd_y hmv (by omega) | exact fnd_n hmv (by omega))⟩
abbrev Q_vo_entryOf (S : sS) (sort : Int) (which : Int) : pst := fun r S1 => S = S1 ∧ (∃ z : Int, r = some (iv z) ∧ (-1 ≤ z ∧ z ≤ 199) ∧ (z = -1 ∨ z < Xi S 1 3) ∧ (z ≠ -1 → Xi S 3 z.toNat = sort ∧ Xi S 4 z.toNat = which) ∧ (z = -1 → ∀ i : Nat, (i : Int) < Xi S 1 3 → Xi S 3 i = sort → Xi S 4 i ≠ which))
set_option maxRecDepth 100000 in
theorem t_vo_entryOf {S : sS} (hH : HI S) (sort : Int) (which : Int) (hsort : -2147483648 ≤ sort ∧ sort ≤ 2147483647) (hwhich : -2147483648 ≤ which ∧ which ≤ 2147483647) (d : Nat) : Mt lay0 (d + 1) m_vo_entryOf [.ref 1, iv sort, iv which] S (Q_vo_entryOf S sort which) := by
  refine Mt_R rfl rfl ?_
  have w1 : 0 ≤ Xi S 1 3 ∧ Xi S 1 3 ≤ 200 := hH.c _ _
  have C2 : ∀ (n2 : Nat) (v3 : Int), (0 ≤ v3 ∧ v3 ≤ 200) → (∀ i : Nat, (i : Int) < v3 → Xi S 3 i = sort → Xi S 4 i ≠ which) → n2 = (201 - v3).toNat → Rl lay0 (d + 0) m_vo_entryOf 2 [(0, .ref 1), (1, iv sort), (2, iv which), (3, iv v3)] [] S (Q_vo_entryOf S sort which) := by
    intro n2
    induction n2 using Nat.strongRecOn with
    | ind n2 ih2 =>
      intro v3 w2 hq hm2
      refine l_iload_n rfl rfl ?_
      refine l_aload_n rfl rfl ?_
      refine l_gfi rfl rfl rfl rfl rfl ?_
      refine l_icmp_ge rfl rfl (by unfold rg; omega) (by unfold rg; omega) (fun w3 => ?_) (fun w4 => ?_)
      · refine l_iconst rfl ?_
        refine l_ireturn rfl rfl ?_
        exact ⟨rfl, _, rfl, ⟨by omega, by omega⟩, (by omega), (by omega), (by first | (intro hz; omega) | exact fun _ i hi => hq i (by omega))⟩
      · refine l_aload_n rfl rfl ?_
        refine l_gfr rfl rfl rfl rfl rfl (hH.r 1 1 3 rfl) ?_
        refine l_iload_n rfl rfl ?_
        refine l_iaload (n := 200) rfl rfl (by omega) (by omega) (by unfold rg; omega) ?_
        have w5 : 0 ≤ (Xi S 3 ((v3).toNat)) ∧ (Xi S 3 ((v3).toNat)) ≤ 14 := hH.c _ _
        refine l_iload_n rfl rfl ?_
        refine l_icmp_ne rfl rfl (by unfold rg; omega) (by unfold rg; omega) (fun w6 => ?_) (fun w7 => ?_)
        · refine l_iinc rfl rfl rfl rfl ?_
          refine l_goto rfl rfl ?_
          exact Rl_weak (ih2 _ (by omega) ((v3 + 1)) (by omega) (by first | (intro i hi; omega) | exact no_step hq (by omega) (by omega)) rfl) (And.intro rfl (And.intro rfl (And.intro rfl (And.intro rfl (True.intro)))))
        · refine l_aload_n rfl rfl ?_
          refine l_gfr rfl rfl rfl rfl rfl (hH.r 1 2 4 rfl) ?_
          refine l_iload_n rfl rfl ?_
          refine l_iaload (n := 200) rfl rfl (by omega) (by omega) (by unfold rg; omega) ?_
          have w8 : 0 ≤ (Xi S 4 ((v3).toNat)) ∧ (Xi S 4 ((v3).toNat)) ≤ 63 := hH.c _ _
          refine l_iload_n rfl rfl ?_
          refine l_icmp_ne rfl rfl (by unfold rg; omega) (by unfold rg; omega) (fun w9 => ?_) (fun w10 => ?_)
          · refine l_iinc rfl rfl rfl rfl ?_
            refine l_goto rfl rfl ?_
            exact Rl_weak (ih2 _ (by omega) ((v3 + 1)) (by omega) (by first | (intro i hi; omega) | exact no_step hq (by omega) (by omega)) rfl) (And.intro rfl (And.intro rfl (And.intro rfl (And.intro rfl (True.intro)))))
          · refine l_iload_n rfl rfl ?_
            refine l_ireturn rfl rfl ?_
            exact ⟨rfl, _, rfl, ⟨by omega, by omega⟩, (by omega), (by omega), (by first | (intro hz; omega) | exact fun _ i hi => hq i (by omega))⟩
  refine l_iconst rfl ?_
  refine l_istore_n rfl rfl rfl ?_
  exact Rl_weak (C2 _ (0) (by omega) (by first | (intro i hi; omega) | exact no_step hq (by omega) (by omega)) rfl) (And.intro rfl (And.intro rfl (And.intro rfl (And.intro rfl (True.intro)))))
def md_vo_addEntry : List rec := [(1, 2, 3, 4), (2, 3, 0, 100000), (3, 4, 0, 100000), (4, 5, 0, 100000)]
abbrev Q_vo_addEntry (S : sS) (sort : Int) (which : Int) (word : Int) : pst := fun r S1 => HI S1 ∧ FR md_vo_addEntry S S1 ∧ (r = none ∧ (LEX S1) ∧ (LKEEP S S1) ∧ ((Xi S 1 3 < 200 → Xi S1 1 3 = Xi S 1 3 + 1) ∧ (200 ≤ Xi S 1 3 → Xi S1 1 3 = Xi S 1 3)))
set_option maxRecDepth 100000 in
theorem t_vo_addEntry {S : sS} (hH : HI S) (sort : Int) (which : Int) (word : Int) (hsort : 0 ≤ sort ∧ sort ≤ 14) (hwhich : 0 ≤ which ∧ which ≤ 63) (hL : LEX S) (hb : lexB S sort which) (d : Nat) : Mt lay0 (d + 1) m_vo_addEntry [.ref 1, iv sort, iv which, jw word] S (Q_vo_addEntry S sort which word) := by
  refine Mt_R rfl rfl ?_
  have hF : FR md_vo_addEntry S S := FR.rf
  have w1 : 0 ≤ Xi S 1 3 ∧ Xi S 1 3 ≤ 200 := hH.c _ _
  refine l_aload_n rfl rfl ?_
  refine l_gfi rfl rfl rfl rfl rfl ?_
  refine l_sipush rfl rfl ?_
  refine l_icmp_ge rfl rfl (by unfold rg; omega) (by unfold rg; omega) (fun w2 => ?_) (fun w3 => ?_)
  · refine l_return rfl rfl ?_
    exact ⟨hH, hF, rfl, (by first | exact hL | exact lex_addU hL eU1 eU2 eU3 eU4 eU5 eU6 (by omega) (by omega) (by omega) (by omega) hb), (by first | exact LKEEP.rf | exact lkeep_addU eU1 eU2 eU3 eU4 eU5 eU6 (by omega) (by omega)), (by omega)⟩
  · refine l_aload_n rfl rfl ?_
    refine l_gfr rfl rfl rfl rfl rfl (hH.r 1 0 2 rfl) ?_
    refine l_iconst rfl ?_
    refine l_aload_n rfl rfl ?_
    refine l_gfi rfl rfl rfl rfl rfl ?_
    refine l_imul rfl ?_
    refine l_lload_n rfl rfl ?_
    refine l_lastore (n := 600) rfl rfl (by omega) (by omega) (by unfold rg; omega) ?_
    obtain ⟨U1, eU1⟩ : ∃ T : sS, T = uJ S 2 (((3 * (Xi S 1 3))).toNat) (Int64.ofInt word) := ⟨_, rfl⟩
    rw [← eU1]
    have hHU1 : HI U1 := by rw [eU1]; exact HI_J hH
    have hFU1 : FR md_vo_addEntry S U1 := by rw [eU1]; exact FR.wJ hF (mdf_i (r := (2, 3, 0, 100000)) (List.mem_of_getElem? (i := 1) rfl) (inR_i (by omega) (by omega) (by omega) (by omega)))
    refine l_aload_n rfl rfl ?_
    refine l_gfr rfl rfl rfl rfl rfl (hHU1.r 1 0 2 rfl) ?_
    refine l_iconst rfl ?_
    refine l_aload_n rfl rfl ?_
    refine l_gfi rfl rfl rfl rfl rfl ?_
    have w5 : (Xi U1 1 3) = (Xi S 1 3) := (show Xi U1 1 3 = Xi S 1 3 from by rw [eU1]; rfl)
    rw [w5]
    refine l_imul rfl ?_
    refine l_iconst rfl ?_
    refine l_iadd rfl ?_
    refine l_lconst (z := 0) rfl rfl ?_
    refine l_lastore (n := 600) rfl rfl (by omega) (by omega) (by unfold rg; omega) ?_
    obtain ⟨U2, eU2⟩ : ∃ T : sS, T = uJ U1 2 ((((3 * (Xi S 1 3)) + 1)).toNat) (Int64.ofInt 0) := ⟨_, rfl⟩
    rw [← eU2]
    have hHU2 : HI U2 := by rw [eU2]; exact HI_J hHU1
    have hFU2 : FR md_vo_addEntry S U2 := by rw [eU2]; exact FR.wJ hFU1 (mdf_i (r := (2, 3, 0, 100000)) (List.mem_of_getElem? (i := 1) rfl) (inR_i (by omega) (by omega) (by omega) (by omega)))
    refine l_aload_n rfl rfl ?_
    refine l_gfr rfl rfl rfl rfl rfl (hHU2.r 1 0 2 rfl) ?_
    refine l_iconst rfl ?_
    refine l_aload_n rfl rfl ?_
    refine l_gfi rfl rfl rfl rfl rfl ?_
    have w6 : (Xi U2 1 3) = (Xi S 1 3) := (show Xi U2 1 3 = Xi U1 1 3 from by rw [eU2]; rfl).trans ((show Xi U1 1 3 = Xi S 1 3 from by rw [eU1]; rfl))
    rw [w6]
    refine l_imul rfl ?_
    refine l_iconst rfl ?_
    refine l_iadd rfl ?_
    refine l_lconst (z := 0) rfl rfl ?_
    refine l_lastore (n := 600) rfl rfl (by omega) (by omega) (by unfold rg; omega) ?_
    obtain ⟨U3, eU3⟩ : ∃ T : sS, T = uJ U2 2 ((((3 * (Xi S 1 3)) + 2)).toNat) (Int64.ofInt 0) := ⟨_, rfl⟩
    rw [← eU3]
    have hHU3 : HI U3 := by rw [eU3]; exact HI_J hHU2
    have hFU3 : FR md_vo_addEntry S U3 := by rw [eU3]; exact FR.wJ hFU2 (mdf_i (r := (2, 3, 0, 100000)) (List.mem_of_getElem? (i := 1) rfl) (inR_i (by omega) (by omega) (by omega) (by omega)))
    refine l_aload_n rfl rfl ?_
    refine l_gfr rfl rfl rfl rfl rfl (hHU3.r 1 1 3 rfl) ?_
    refine l_aload_n rfl rfl ?_
    refine l_gfi rfl rfl rfl rfl rfl ?_
    have w7 : (Xi U3 1 3) = (Xi S 1 3) := (show Xi U3 1 3 = Xi U2 1 3 from by rw [eU3]; rfl).trans ( (show Xi U2 1 3 = Xi U1 1 3 from by rw [eU2]; rfl).trans ((show Xi U1 1 3 = Xi S 1 3 from by rw [eU1]; rfl)))
    rw [w7]
    refine l_iload_n rfl rfl ?_
    refine l_iastore (n := 200) rfl rfl (by omega) (by omega) (by unfold rg; omega) ?_
    obtain ⟨U4, eU4⟩ : ∃ T : sS, T = uI U3 3 (((Xi S 1 3)).toNat) (Int32.ofInt sort) := ⟨_, rfl⟩
    rw [← eU4]
    have hHU4 : HI U4 := by rw [eU4]; exact HI_w hHU3 (show 0 ≤ sort by omega) (show sort ≤ 14 by omega)
    have hFU4 : FR md_vo_addEntry S U4 := by rw [eU4]; exact FR.wI hFU3 (mdf_i (r := (3, 4, 0, 100000)) (List.mem_of_getElem? (i := 2) rfl) (inR_i (by omega) (by omega) (by omega) (by omega)))
    have w8 : Xi U4 3 (((Xi S 1 3)).toNat) = sort := by rw [eU4]; exact Xi_same (by unfold rg; omega)
    refine l_aload_n rfl rfl ?_
    refine l_gfr rfl rfl rfl rfl rfl (hHU4.r 1 2 4 rfl) ?_
    refine l_aload_n rfl rfl ?_
    refine l_gfi rfl rfl rfl rfl rfl ?_
    have w9 : (Xi U4 1 3) = (Xi S 1 3) := (show Xi U4 1 3 = Xi U3 1 3 from by rw [eU4]; exact Xi_ne (by omega)).trans ( (show Xi U3 1 3 = Xi U2 1 3 from by rw [eU3]; rfl).trans ( (show Xi U2 1 3 = Xi U1 1 3 from by rw [eU2]; rfl).trans ((show Xi U1 1 3 = Xi S 1 3 from by rw [eU1]; rfl))))
    rw [w9]
    refine l_iload_n rfl rfl ?_
    refine l_iastore (n := 200) rfl rfl (by omega) (by omega) (by unfold rg; omega) ?_
    obtain ⟨U5, eU5⟩ : ∃ T : sS, T = uI U4 4 (((Xi S 1 3)).toNat) (Int32.ofInt which) := ⟨_, rfl⟩
    rw [← eU5]
    have hHU5 : HI U5 := by rw [eU5]; exact HI_w hHU4 (show 0 ≤ which by omega) (show which ≤ 63 by omega)
    have hFU5 : FR md_vo_addEntry S U5 := by rw [eU5]; exact FR.wI hFU4 (mdf_i (r := (4, 5, 0, 100000)) (List.mem_of_getElem? (i := 3) rfl) (inR_i (by omega) (by omega) (by omega) (by omega)))
    have w10 : Xi U5 4 (((Xi S 1 3)).toNat) = which := by rw [eU5]; exact Xi_same (by unfold rg; omega)
    refine l_aload_n rfl rfl ?_
    refine l_dup rfl rfl ?_
    refine l_gfi rfl rfl rfl rfl rfl ?_
    have w11 : (Xi U5 1 3) = (Xi S 1 3) := (show Xi U5 1 3 = Xi U4 1 3 from by rw [eU5]; exact Xi_ne (by omega)).trans ( (show Xi U4 1 3 = Xi U3 1 3 from by rw [eU4]; exact Xi_ne (by omega)).trans ( (show Xi U3 1 3 = Xi U2 1 3 from by rw [eU3]; rfl).trans ( (show Xi U2 1 3 = Xi U1 1 3 from by rw [eU2]; rfl).trans ((show Xi U1 1 3 = Xi S 1 3 from by rw [eU1]; rfl)))))
    rw [w11]
    refine l_iconst rfl ?_
    refine l_iadd rfl ?_
    refine l_pfi rfl rfl rfl rfl ?_
    obtain ⟨U6, eU6⟩ : ∃ T : sS, T = uI U5 1 3 (Int32.ofInt ((Xi S 1 3) + 1)) := ⟨_, rfl⟩
    rw [← eU6]
    have hHU6 : HI U6 := by rw [eU6]; exact HI_w hHU5 (show 0 ≤ ((Xi S 1 3) + 1) by omega) (show ((Xi S 1 3) + 1) ≤ 200 by omega)
    have hFU6 : FR md_vo_addEntry S U6 := by rw [eU6]; exact FR.wI hFU5 (mdf_i (r := (1, 2, 3, 4)) (List.mem_of_getElem? (i := 0) rfl) (inR_i (by omega) (by omega) (by omega) (by omega)))
    have w12 : Xi U6 1 3 = ((Xi S 1 3) + 1) := by rw [eU6]; exact Xi_same (by unfold rg; omega)
    refine l_return rfl rfl ?_
    have w13 : 0 ≤ Xi U6 1 3 ∧ Xi U6 1 3 ≤ 200 := hHU6.c _ _
    exact ⟨hHU6, hFU6, rfl, (by first | exact hL | exact lex_addU hL eU1 eU2 eU3 eU4 eU5 eU6 (by omega) (by omega) (by omega) (by omega) hb), (by first | exact LKEEP.rf | exact lkeep_addU eU1 eU2 eU3 eU4 eU5 eU6 (by omega) (by omega)), (by omega)⟩
def md_vo_nameIt : List rec := [(1, 2, 3, 4), (2, 3, 0, 100000), (3, 4, 0, 100000), (4, 5, 0, 100000)]
abbrev Q_vo_nameIt (S : sS) (sort : Int) (which : Int) (k n : Nat) (from_ : Int) (to : Int) : pst := fun r S1 => HI S1 ∧ FR md_vo_nameIt S S1 ∧ (r = none ∧ (LEX S1) ∧ ((∀ i : Nat, (i : Int) < Xi S 1 3 → Xi S 3 i = sort → Xi S 4 i ≠ which) → LKEEP S S1) ∧ (∀ j, Xi S1 5 j = Xi S 5 j))
set_option maxRecDepth 100000 in
theorem t_vo_nameIt {S : sS} (hH : HI S) (sort : Int) (which : Int) (k n : Nat) (from_ : Int) (to : Int) (hsort : 0 ≤ sort ∧ sort ≤ 14) (hwhich : 0 ≤ which ∧ which ≤ 63) (hlk : lay0 k = (2, n)) (hkk : k < 2000 ∧ n ≤ 5130) (hfrom_ : 0 ≤ from_ ∧ from_ ≤ 6000) (hto : 0 ≤ to ∧ to ≤ 6000) (hL : LEX S) (hb : lexB S sort which) (hto : to ≤ n) (d : Nat) : Mt lay0 (d + 2) m_vo_nameIt [.ref 1, iv sort, iv which, .ref k, iv from_, iv to] S (Q_vo_nameIt S sort which k n from_ to) := by
  refine Mt_R rfl rfl ?_
  have hF : FR md_vo_nameIt S S := FR.rf
  have w1 : 0 ≤ Xi S 1 3 ∧ Xi S 1 3 ≤ 200 := hH.c _ _
  have C27 : ∀  (T1 : sS) (_ : HI T1) (_ : FR md_vo_nameIt S T1) (v6 : Int), (0 ≤ v6 ∧ v6 ≤ 200) → (LEX T1) → ((∀ i : Nat, (i : Int) < Xi S 1 3 → Xi S 3 i = sort → Xi S 4 i ≠ which) → LKEEP S T1 ∧ Xi S 1 3 ≤ v6) → (0 ≤ v6 ∧ v6 ≤ 200) → Rl lay0 (d + 1) m_vo_nameIt 27 [(0, .ref 1), (3, .ref k), (4, iv from_), (5, iv to), (6, iv v6)] [] T1 (Q_vo_nameIt S sort which k n from_ to) := by
    intro T1 hHT1 hFT1 v6 w2 hl27 hk27 w3
    have C30 : ∀ (n30 : Nat) (T2 : sS) (_ : HI T2) (_ : FR md_vo_nameIt S T2) (v6 : Int) (v7 : Int), (0 ≤ v6 ∧ v6 ≤ 200) → (0 ≤ v7 ∧ v7 ≤ 3) → (LEX T2) → ((∀ i : Nat, (i : Int) < Xi S 1 3 → Xi S 3 i = sort → Xi S 4 i ≠ which) → LKEEP S T2 ∧ Xi S 1 3 ≤ v6) → (0 ≤ v6 ∧ v6 ≤ 200) → n30 = (4 - v7).toNat → Rl lay0 (d + 1) m_vo_nameIt 30 [(0, .ref 1), (3, .ref k), (4, iv from_), (5, iv to), (6, iv v6), (7, iv v7)] [] T2 (Q_vo_nameIt S sort which k n from_ to) := by
      intro n30
      induction n30 using Nat.strongRecOn with
      | ind n30 ih30 =>
        intro T2 hHT2 hFT2 v6 v7 w4 w5 hl30 hk30 w6 hm30
        refine l_iload rfl rfl ?_
        refine l_iconst rfl ?_
        refine l_icmp_ge rfl rfl (by unfold rg; omega) (by unfold rg; omega) (fun w7 => ?_) (fun w8 => ?_)
        · refine l_return rfl rfl ?_
          exact ⟨hHT2, hFT2, rfl, (by assumption), (fun hp => (hk30 hp).1), (fun j => (hFT2.cx 5 rfl j).1)⟩
        · refine l_iload rfl rfl ?_
          refine l_sipush rfl rfl ?_
          refine l_icmp_ge rfl rfl (by unfold rg; omega) (by unfold rg; omega) (fun w9 => ?_) (fun w10 => ?_)
          · refine l_return rfl rfl ?_
            exact ⟨hHT2, hFT2, rfl, (by assumption), (fun hp => (hk30 hp).1), (fun j => (hFT2.cx 5 rfl j).1)⟩
          · refine l_aload_n rfl rfl ?_
            refine l_gfr rfl rfl rfl rfl rfl (hHT2.r 1 0 2 rfl) ?_
            refine l_iconst rfl ?_
            refine l_iload rfl rfl ?_
            refine l_imul rfl ?_
            refine l_iload rfl rfl ?_
            refine l_iadd rfl ?_
            refine l_iload rfl rfl ?_
            refine l_iload rfl rfl ?_
            refine l_iadd rfl ?_
            refine l_iload rfl rfl ?_
            refine l_icmp_ge rfl rfl (by unfold rg; omega) (by unfold rg; omega) (fun w11 => ?_) (fun w12 => ?_)
            · refine l_lconst (z := 0) rfl rfl ?_
              refine l_lastore (n := 600) rfl rfl (by omega) (by omega) (by unfold rg; omega) ?_
              obtain ⟨U3, eU3⟩ : ∃ T : sS, T = uJ T2 2 ((((3 * v6) + v7)).toNat) (Int64.ofInt 0) := ⟨_, rfl⟩
              rw [← eU3]
              have hHU3 : HI U3 := by rw [eU3]; exact HI_J hHT2
              have hFU3 : FR md_vo_nameIt S U3 := by rw [eU3]; exact FR.wJ hFT2 (mdf_i (r := (2, 3, 0, 100000)) (List.mem_of_getElem? (i := 1) rfl) (inR_i (by omega) (by omega) (by omega) (by omega)))
              refine l_iinc rfl rfl rfl rfl ?_
              refine l_goto rfl rfl ?_
              exact Rl_weak (ih30 _ (by omega) U3 hHU3 hFU3 (v6) ((v7 + 1)) (by omega) (by omega) (by first | assumption | exact LEX_J eU3 hl30) (by first | assumption | exact fun hp => lkeep_J eU3 (hk30 hp) rfl (by omega)) (by omega) rfl) (And.intro rfl (And.intro rfl (And.intro rfl (And.intro rfl (And.intro rfl (And.intro rfl (True.intro)))))))
            · refine l_aload_n rfl rfl ?_
              refine l_iload rfl rfl ?_
              refine l_iload rfl rfl ?_
              refine l_iadd rfl ?_
              refine l_laload (n := n) rfl hlk (by omega) (by omega) (by unfold rg; omega) ?_
              have w13 : -9223372036854775808 ≤ (Xj T2 k (((from_ + v7)).toNat)) ∧ (Xj T2 k (((from_ + v7)).toNat)) < 9223372036854775808 := Xj_rg
              refine l_goto rfl rfl ?_
              refine l_lastore (n := 600) rfl rfl (by omega) (by omega) (by unfold rg; omega) ?_
              obtain ⟨U4, eU4⟩ : ∃ T : sS, T = uJ T2 2 ((((3 * v6) + v7)).toNat) (Int64.ofInt (Xj T2 k (((from_ + v7)).toNat))) := ⟨_, rfl⟩
              rw [← eU4]
              have hHU4 : HI U4 := by rw [eU4]; exact HI_J hHT2
              have hFU4 : FR md_vo_nameIt S U4 := by rw [eU4]; exact FR.wJ hFT2 (mdf_i (r := (2, 3, 0, 100000)) (List.mem_of_getElem? (i := 1) rfl) (inR_i (by omega) (by omega) (by omega) (by omega)))
              refine l_iinc rfl rfl rfl rfl ?_
              refine l_goto rfl rfl ?_
              exact Rl_weak (ih30 _ (by omega) U4 hHU4 hFU4 (v6) ((v7 + 1)) (by omega) (by omega) (by first | assumption | exact LEX_J eU4 hl30) (by first | assumption | exact fun hp => lkeep_J eU4 (hk30 hp) rfl (by omega)) (by omega) rfl) (And.intro rfl (And.intro rfl (And.intro rfl (And.intro rfl (And.intro rfl (And.intro rfl (True.intro)))))))
    refine l_iconst rfl ?_
    refine l_istore rfl rfl rfl ?_
    exact Rl_weak (C30 _ T1 hHT1 hFT1 (v6) (0) (by omega) (by omega) (by first | assumption | exact LEX_J rfl hl30) (by first | assumption | exact fun hp => lkeep_J rfl (hk30 hp) rfl (by omega)) (by omega) rfl) (And.intro rfl (And.intro rfl (And.intro rfl (And.intro rfl (And.intro rfl (And.intro rfl (True.intro)))))))
  refine l_aload_n rfl rfl ?_
  refine l_iload_n rfl rfl ?_
  refine l_iload_n rfl rfl ?_
  refine l_callV rfl rfl rfl (t_vo_entryOf hH sort which ⟨by omega, by omega⟩ ⟨by omega, by omega⟩ _) ?_
  rintro _ _ ⟨rfl, z18, rfl, w18, w15, w16, w17⟩
  show Rl _ _ _ _ _ [iv z18] _ _
  refine l_istore rfl rfl rfl ?_
  refine l_iload rfl rfl ?_
  refine l_iconst rfl ?_
  refine l_icmp_ne rfl rfl (by unfold rg; omega) (by unfold rg; omega) (fun w19 => ?_) (fun w20 => ?_)
  · exact Rl_weak (C27 S hH hF (z18) (by omega) (by first | assumption | exact (by assumption : LEX S)) (by first | exact fun _ => ⟨by assumption, by omega⟩ | (intro hp; exfalso; have hq := hp (z18).toNat (by omega) (by omega); omega)) (by omega)) (And.intro rfl (And.intro rfl (And.intro rfl (And.intro rfl (And.intro rfl (True.intro))))))
  · refine l_aload_n rfl rfl ?_
    refine l_gfi rfl rfl rfl rfl rfl ?_
    refine l_istore rfl rfl rfl ?_
    refine l_aload_n rfl rfl ?_
    refine l_iload_n rfl rfl ?_
    refine l_iload_n rfl rfl ?_
    refine l_lconst (z := 0) rfl rfl ?_
    refine l_callV rfl rfl rfl (t_vo_addEntry hH sort which 0 ⟨by omega, by omega⟩ ⟨by omega, by omega⟩ (by first | assumption | exact (by assumption : LEX S)) (by first | assumption | omega) _) ?_
    rintro _ T5 ⟨hHT5, w26, rfl, w22, w23, w24⟩
    have hFT5 : FR md_vo_nameIt S T5 := FR.tr hF w26 rfl
    show Rl _ _ _ _ _ [] _ _
    exact Rl_weak (C27 T5 hHT5 hFT5 ((Xi S 1 3)) (by omega) (by first | assumption | exact (by assumption : LEX T5)) (by first | exact fun _ => ⟨by assumption, by omega⟩ | (intro hp; exfalso; have hq := hp ((Xi S 1 3)).toNat (by omega) (by omega); omega)) (by omega)) (And.intro rfl (And.intro rfl (And.intro rfl (And.intro rfl (And.intro rfl (True.intro))))))
def md_vo_tellNew : List rec := [(1, 2, 3, 4), (2, 3, 0, 100000), (3, 4, 0, 100000), (4, 5, 0, 100000), (5, 6, 0, 100000)]
abbrev Q_vo_tellNew (S : sS) (sort : Int) (k n : Nat) (from_ : Int) (to : Int) : pst := fun r S1 => HI S1 ∧ FR md_vo_tellNew S S1 ∧ (∃ z : Int, r = some (iv z) ∧ (0 ≤ z ∧ z ≤ 64) ∧ (z = Xi S 5 sort.toNat) ∧ (LEX S1) ∧ (LKEEP S S1) ∧ (Xi S1 5 sort.toNat = Xi S 5 sort.toNat + 1) ∧ (∀ j, j ≠ sort.toNat → Xi S1 5 j = Xi S 5 j))
set_option maxRecDepth 100000 in
theorem t_vo_tellNew {S : sS} (hH : HI S) (sort : Int) (k n : Nat) (from_ : Int) (to : Int) (hsort : 0 ≤ sort ∧ sort ≤ 8) (hlk : lay0 k = (2, n)) (hkk : k < 2000 ∧ n ≤ 5130) (hfrom_ : 0 ≤ from_ ∧ from_ ≤ 6000) (hto : 0 ≤ to ∧ to ≤ 6000) (hL : LEX S) (hc : Xi S 5 sort.toNat + 1 ≤ (lh 5 sort.toNat).2) (hto : to ≤ n) (d : Nat) : Mt lay0 (d + 3) m_vo_tellNew [.ref 1, iv sort, .ref k, iv from_, iv to] S (Q_vo_tellNew S sort k n from_ to) := by
  refine Mt_R rfl rfl ?_
  have hF : FR md_vo_tellNew S S := FR.rf
  refine l_aload_n rfl rfl ?_
  refine l_gfr rfl rfl rfl rfl rfl (hH.r 1 4 5 rfl) ?_
  refine l_iload_n rfl rfl ?_
  refine l_iaload (n := 9) rfl rfl (by omega) (by omega) (by unfold rg; omega) ?_
  have w1 : -2147483648 ≤ (Xi S 5 ((sort).toNat)) ∧ (Xi S 5 ((sort).toNat)) ≤ 2147483647 := Xi_rgI
  have hcr := cnt_rg hH (by omega) (by omega) _ (Eq.refl (Xi S 5 sort.toNat))
  have h64 := lh5hi (s := sort) (by omega) (by omega)
  refine l_istore rfl rfl rfl ?_
  refine l_aload_n rfl rfl ?_
  refine l_gfr rfl rfl rfl rfl rfl (hH.r 1 4 5 rfl) ?_
  refine l_iload_n rfl rfl ?_
  refine l_dup2 rfl rfl ?_
  refine l_iaload (n := 9) rfl rfl (by omega) (by omega) (by unfold rg; omega) ?_
  refine l_iconst rfl ?_
  refine l_iadd rfl ?_
  refine l_iastore (n := 9) rfl rfl (by omega) (by omega) (by unfold rg; omega) ?_
  obtain ⟨U1, eU1⟩ : ∃ T : sS, T = uI S 5 ((sort).toNat) (Int32.ofInt ((Xi S 5 ((sort).toNat)) + 1)) := ⟨_, rfl⟩
  rw [← eU1]
  have hHU1 : HI U1 := by rw [eU1]; exact HI_w hH (Int.le_trans lh5 (by omega)) hc
  have hFU1 : FR md_vo_tellNew S U1 := by rw [eU1]; exact FR.wI hF (mdf_i (r := (5, 6, 0, 100000)) (List.mem_of_getElem? (i := 4) rfl) (inR_i (by omega) (by omega) (by omega) (by omega)))
  have w2 : Xi U1 5 ((sort).toNat) = ((Xi S 5 ((sort).toNat)) + 1) := by rw [eU1]; exact Xi_same (by unfold rg; omega)
  have hL1 : LEX U1 := LEX_cnt eU1 (by omega) hL
  have hb1 := lexB_new eU1 (by omega) (by omega) (by omega) (by omega)
  have hno : ∀ i : Nat, (i : Int) < Xi U1 1 3 → Xi U1 3 i = sort → Xi U1 4 i ≠ Xi S 5 sort.toNat := by rw [eU1, Xi_ne (by omega)]; intro i hi; rw [Xi_ne (by omega), Xi_ne (by omega)]; exact lex_no hL (by omega) (by omega) i hi
  refine l_aload_n rfl rfl ?_
  refine l_iload_n rfl rfl ?_
  refine l_iload rfl rfl ?_
  refine l_aload_n rfl rfl ?_
  refine l_iload_n rfl rfl ?_
  refine l_iload rfl rfl ?_
  have w3 : Xi U1 1 3 = Xi S 1 3 := (show Xi U1 1 3 = Xi S 1 3 from by rw [eU1]; exact Xi_ne (by omega))
  have w4 : 0 ≤ Xi S 1 3 ∧ Xi S 1 3 ≤ 200 := hH.c _ _
  refine l_callV rfl rfl rfl (t_vo_nameIt hHU1 sort (Xi S 5 ((sort).toNat)) k n from_ to ⟨by omega, by omega⟩ ⟨by omega, by omega⟩ hlk hkk ⟨by omega, by omega⟩ ⟨by omega, by omega⟩ (by first | assumption | exact (by assumption : LEX U1)) (by first | assumption | omega) (by first | assumption | omega) _) ?_
  rintro _ T2 ⟨hHT2, w9, rfl, w5, w6, w7⟩
  have hFT2 : FR md_vo_tellNew S T2 := FR.tr hFU1 w9 rfl
  show Rl _ _ _ _ _ [] _ _
  refine l_iload rfl rfl ?_
  refine l_ireturn rfl rfl ?_
  exact ⟨hHT2, hFT2, _, rfl, ⟨by omega, by omega⟩, (by omega), (by assumption), (LKEEP.tr (LKEEP_cnt eU1) (by apply_assumption; exact hno)), (tn_c (by assumption) eU1 (by unfold rg; omega)), (tn_o (by assumption) eU1)⟩
def md_wo_setAdjective : List rec := [(25, 65, 0, 100000)]
abbrev Q_wo_setAdjective (S : sS) (row : Int) (a : Int) (holds : Int) : pst := fun r S1 => HI S1 ∧ FR md_wo_setAdjective S S1 ∧ (r = none)
set_option maxRecDepth 100000 in
theorem t_wo_setAdjective {S : sS} (hH : HI S) (row : Int) (a : Int) (holds : Int) (hrow : 0 ≤ row ∧ row ≤ 39) (ha : 0 ≤ a ∧ a ≤ 23) (hholds : 0 ≤ holds ∧ holds ≤ 1) (d : Nat) : Mt lay0 (d + 1) m_wo_setAdjective [.ref 20, iv row, iv a, iv holds] S (Q_wo_setAdjective S row a holds) := by
  refine Mt_R rfl rfl ?_
  have hF : FR md_wo_setAdjective S S := FR.rf
  refine l_aload_n rfl rfl ?_
  refine l_gfr rfl rfl rfl rfl rfl (hH.r 20 0 1 rfl) ?_
  refine l_gfr rfl rfl rfl rfl rfl (hH.r 1 10 11 rfl) ?_
  refine l_iload_n rfl rfl ?_
  refine l_iaload (n := 24) rfl rfl (by omega) (by omega) (by unfold rg; omega) ?_
  have w1 : -1 ≤ (Xi S 11 ((a).toNat)) ∧ (Xi S 11 ((a).toNat)) ≤ 23 := hH.c _ _
  refine l_istore rfl rfl rfl ?_
  refine l_aload_n rfl rfl ?_
  refine l_gfr rfl rfl rfl rfl rfl (hH.r 20 5 24 rfl) ?_
  refine l_iload_n rfl rfl ?_
  refine l_aaload (n := 40) (a := 25 + (row).toNat) rfl rfl (by decide) (by omega) (by omega) (by unfold rg; omega) (RW_24 hH (by omega)) ?_
  refine l_iload_n rfl rfl ?_
  refine l_iload_n rfl rfl ?_
  refine l_if_eq rfl rfl (by unfold rg; omega) (fun w2 => ?_) (fun w3 => ?_)
  · refine l_iconst rfl ?_
    refine l_iastore (n := 24) rfl (lay_25 (by omega)) (by omega) (by omega) (by unfold rg; omega) ?_
    obtain ⟨U1, eU1⟩ : ∃ T : sS, T = uI S (25 + (row).toNat) ((a).toNat) (Int32.ofInt (-1)) := ⟨_, rfl⟩
    rw [← eU1]
    have hHU1 : HI U1 := by rw [eU1]; exact HI_any hH (lh_row25 (by omega))
    have hFU1 : FR md_wo_setAdjective S U1 := by rw [eU1]; exact FR.wI hF (mdf_i (r := (25, 65, 0, 100000)) (List.mem_of_getElem? (i := 0) rfl) (inR_i (by omega) (by omega) (by omega) (by omega)))
    have w4 : Xi U1 (25 + (row).toNat) ((a).toNat) = (-1) := by rw [eU1]; exact Xi_same (by unfold rg; omega)
    refine l_iload rfl rfl ?_
    refine l_iconst rfl ?_
    refine l_icmp_eq rfl rfl (by unfold rg; omega) (by unfold rg; omega) (fun w5 => ?_) (fun w6 => ?_)
    · refine l_return rfl rfl ?_
      exact ⟨hHU1, hFU1, rfl⟩
    · refine l_aload_n rfl rfl ?_
      refine l_gfr rfl rfl rfl rfl rfl (hHU1.r 20 5 24 rfl) ?_
      refine l_iload_n rfl rfl ?_
      refine l_aaload (n := 40) (a := 25 + (row).toNat) rfl rfl (by decide) (by omega) (by omega) (by unfold rg; omega) (RW_24 hHU1 (by omega)) ?_
      refine l_iload rfl rfl ?_
      refine l_iload_n rfl rfl ?_
      refine l_if_eq rfl rfl (by unfold rg; omega) (fun w7 => ?_) (fun w8 => ?_)
      · refine l_iconst rfl ?_
        refine l_iastore (n := 24) rfl (lay_25 (by omega)) (by omega) (by omega) (by unfold rg; omega) ?_
        obtain ⟨U2, eU2⟩ : ∃ T : sS, T = uI U1 (25 + (row).toNat) (((Xi S 11 ((a).toNat))).toNat) (Int32.ofInt 1) := ⟨_, rfl⟩
        rw [← eU2]
        have hHU2 : HI U2 := by rw [eU2]; exact HI_any hHU1 (lh_row25 (by omega))
        have hFU2 : FR md_wo_setAdjective S U2 := by rw [eU2]; exact FR.wI hFU1 (mdf_i (r := (25, 65, 0, 100000)) (List.mem_of_getElem? (i := 0) rfl) (inR_i (by omega) (by omega) (by omega) (by omega)))
        have w9 : Xi U2 (25 + (row).toNat) (((Xi S 11 ((a).toNat))).toNat) = 1 := by rw [eU2]; exact Xi_same (by unfold rg; omega)
        refine l_return rfl rfl ?_
        exact ⟨hHU2, hFU2, rfl⟩
      · refine l_iconst rfl ?_
        refine l_goto rfl rfl ?_
        refine l_iastore (n := 24) rfl (lay_25 (by omega)) (by omega) (by omega) (by unfold rg; omega) ?_
        obtain ⟨U3, eU3⟩ : ∃ T : sS, T = uI U1 (25 + (row).toNat) (((Xi S 11 ((a).toNat))).toNat) (Int32.ofInt (-1)) := ⟨_, rfl⟩
        rw [← eU3]
        have hHU3 : HI U3 := by rw [eU3]; exact HI_any hHU1 (lh_row25 (by omega))
        have hFU3 : FR md_wo_setAdjective S U3 := by rw [eU3]; exact FR.wI hFU1 (mdf_i (r := (25, 65, 0, 100000)) (List.mem_of_getElem? (i := 0) rfl) (inR_i (by omega) (by omega) (by omega) (by omega)))
        have w10 : Xi U3 (25 + (row).toNat) (((Xi S 11 ((a).toNat))).toNat) = (-1) := by rw [eU3]; exact Xi_same (by unfold rg; omega)
        refine l_return rfl rfl ?_
        exact ⟨hHU3, hFU3, rfl⟩
  · refine l_iconst rfl ?_
    refine l_goto rfl rfl ?_
    refine l_iastore (n := 24) rfl (lay_25 (by omega)) (by omega) (by omega) (by unfold rg; omega) ?_
    obtain ⟨U4, eU4⟩ : ∃ T : sS, T = uI S (25 + (row).toNat) ((a).toNat) (Int32.ofInt 1) := ⟨_, rfl⟩
    rw [← eU4]
    have hHU4 : HI U4 := by rw [eU4]; exact HI_any hH (lh_row25 (by omega))
    have hFU4 : FR md_wo_setAdjective S U4 := by rw [eU4]; exact FR.wI hF (mdf_i (r := (25, 65, 0, 100000)) (List.mem_of_getElem? (i := 0) rfl) (inR_i (by omega) (by omega) (by omega) (by omega)))
    have w11 : Xi U4 (25 + (row).toNat) ((a).toNat) = 1 := by rw [eU4]; exact Xi_same (by unfold rg; omega)
    refine l_iload rfl rfl ?_
    refine l_iconst rfl ?_
    refine l_icmp_eq rfl rfl (by unfold rg; omega) (by unfold rg; omega) (fun w12 => ?_) (fun w13 => ?_)
    · refine l_return rfl rfl ?_
      exact ⟨hHU4, hFU4, rfl⟩
    · refine l_aload_n rfl rfl ?_
      refine l_gfr rfl rfl rfl rfl rfl (hHU4.r 20 5 24 rfl) ?_
      refine l_iload_n rfl rfl ?_
      refine l_aaload (n := 40) (a := 25 + (row).toNat) rfl rfl (by decide) (by omega) (by omega) (by unfold rg; omega) (RW_24 hHU4 (by omega)) ?_
      refine l_iload rfl rfl ?_
      refine l_iload_n rfl rfl ?_
      refine l_if_eq rfl rfl (by unfold rg; omega) (fun w14 => ?_) (fun w15 => ?_)
      · refine l_iconst rfl ?_
        refine l_iastore (n := 24) rfl (lay_25 (by omega)) (by omega) (by omega) (by unfold rg; omega) ?_
        obtain ⟨U5, eU5⟩ : ∃ T : sS, T = uI U4 (25 + (row).toNat) (((Xi S 11 ((a).toNat))).toNat) (Int32.ofInt 1) := ⟨_, rfl⟩
        rw [← eU5]
        have hHU5 : HI U5 := by rw [eU5]; exact HI_any hHU4 (lh_row25 (by omega))
        have hFU5 : FR md_wo_setAdjective S U5 := by rw [eU5]; exact FR.wI hFU4 (mdf_i (r := (25, 65, 0, 100000)) (List.mem_of_getElem? (i := 0) rfl) (inR_i (by omega) (by omega) (by omega) (by omega)))
        have w16 : Xi U5 (25 + (row).toNat) (((Xi S 11 ((a).toNat))).toNat) = 1 := by rw [eU5]; exact Xi_same (by unfold rg; omega)
        refine l_return rfl rfl ?_
        exact ⟨hHU5, hFU5, rfl⟩
      · refine l_iconst rfl ?_
        refine l_goto rfl rfl ?_
        refine l_iastore (n := 24) rfl (lay_25 (by omega)) (by omega) (by omega) (by unfold rg; omega) ?_
        obtain ⟨U6, eU6⟩ : ∃ T : sS, T = uI U4 (25 + (row).toNat) (((Xi S 11 ((a).toNat))).toNat) (Int32.ofInt (-1)) := ⟨_, rfl⟩
        rw [← eU6]
        have hHU6 : HI U6 := by rw [eU6]; exact HI_any hHU4 (lh_row25 (by omega))
        have hFU6 : FR md_wo_setAdjective S U6 := by rw [eU6]; exact FR.wI hFU4 (mdf_i (r := (25, 65, 0, 100000)) (List.mem_of_getElem? (i := 0) rfl) (inR_i (by omega) (by omega) (by omega) (by omega)))
        have w17 : Xi U6 (25 + (row).toNat) (((Xi S 11 ((a).toNat))).toNat) = (-1) := by rw [eU6]; exact Xi_same (by unfold rg; omega)
        refine l_return rfl rfl ?_
        exact ⟨hHU6, hFU6, rfl⟩
def md_wo_setProperty : List rec := [(66, 106, 0, 100000), (107, 147, 0, 100000), (148, 188, 0, 100000)]
abbrev Q_wo_setProperty (S : sS) (row : Int) (p : Int) (value : Int) (length : Int) : pst := fun r S1 => HI S1 ∧ FR md_wo_setProperty S S1 ∧ (r = none ∧ (TX S → TXT S value length → TX S1))
set_option maxRecDepth 100000 in
theorem t_wo_setProperty {S : sS} (hH : HI S) (row : Int) (p : Int) (value : Int) (length : Int) (hrow : 0 ≤ row ∧ row ≤ 39) (hp : 0 ≤ p ∧ p ≤ 11) (hvalue : -2147483648 ≤ value ∧ value ≤ 2147483647) (hlength : -2147483648 ≤ length ∧ length ≤ 2147483647) (d : Nat) : Mt lay0 (d + 1) m_wo_setProperty [.ref 20, iv row, iv p, iv value, iv length] S (Q_wo_setProperty S row p value length) := by
  refine Mt_R rfl rfl ?_
  have hF : FR md_wo_setProperty S S := FR.rf
  refine l_aload_n rfl rfl ?_
  refine l_gfr rfl rfl rfl rfl rfl (hH.r 20 6 65 rfl) ?_
  refine l_iload_n rfl rfl ?_
  refine l_aaload (n := 40) (a := 66 + (row).toNat) rfl rfl (by decide) (by omega) (by omega) (by unfold rg; omega) (RW_65 hH (by omega)) ?_
  refine l_iload_n rfl rfl ?_
  refine l_iconst rfl ?_
  refine l_iastore (n := 12) rfl (lay_66 (by omega)) (by omega) (by omega) (by unfold rg; omega) ?_
  obtain ⟨U1, eU1⟩ : ∃ T : sS, T = uI S (66 + (row).toNat) ((p).toNat) (Int32.ofInt 1) := ⟨_, rfl⟩
  rw [← eU1]
  have hHU1 : HI U1 := by rw [eU1]; exact HI_any hH (lh_row66 (by omega))
  have hFU1 : FR md_wo_setProperty S U1 := by rw [eU1]; exact FR.wI hF (mdf_i (r := (66, 106, 0, 100000)) (List.mem_of_getElem? (i := 0) rfl) (inR_i (by omega) (by omega) (by omega) (by omega)))
  have w1 : Xi U1 (66 + (row).toNat) ((p).toNat) = 1 := by rw [eU1]; exact Xi_same (by unfold rg; omega)
  refine l_aload_n rfl rfl ?_
  refine l_gfr rfl rfl rfl rfl rfl (hHU1.r 20 7 106 rfl) ?_
  refine l_iload_n rfl rfl ?_
  refine l_aaload (n := 40) (a := 107 + (row).toNat) rfl rfl (by decide) (by omega) (by omega) (by unfold rg; omega) (RW_106 hHU1 (by omega)) ?_
  refine l_iload_n rfl rfl ?_
  refine l_iload_n rfl rfl ?_
  refine l_iastore (n := 12) rfl (lay_107 (by omega)) (by omega) (by omega) (by unfold rg; omega) ?_
  obtain ⟨U2, eU2⟩ : ∃ T : sS, T = uI U1 (107 + (row).toNat) ((p).toNat) (Int32.ofInt value) := ⟨_, rfl⟩
  rw [← eU2]
  have hHU2 : HI U2 := by rw [eU2]; exact HI_any hHU1 (lh_row107 (by omega))
  have hFU2 : FR md_wo_setProperty S U2 := by rw [eU2]; exact FR.wI hFU1 (mdf_i (r := (107, 147, 0, 100000)) (List.mem_of_getElem? (i := 1) rfl) (inR_i (by omega) (by omega) (by omega) (by omega)))
  have w2 : Xi U2 (107 + (row).toNat) ((p).toNat) = value := by rw [eU2]; exact Xi_same (by unfold rg; omega)
  refine l_aload_n rfl rfl ?_
  refine l_gfr rfl rfl rfl rfl rfl (hHU2.r 20 8 147 rfl) ?_
  refine l_iload_n rfl rfl ?_
  refine l_aaload (n := 40) (a := 148 + (row).toNat) rfl rfl (by decide) (by omega) (by omega) (by unfold rg; omega) (RW_147 hHU2 (by omega)) ?_
  refine l_iload_n rfl rfl ?_
  refine l_iload rfl rfl ?_
  refine l_iastore (n := 12) rfl (lay_148 (by omega)) (by omega) (by omega) (by unfold rg; omega) ?_
  obtain ⟨U3, eU3⟩ : ∃ T : sS, T = uI U2 (148 + (row).toNat) ((p).toNat) (Int32.ofInt length) := ⟨_, rfl⟩
  rw [← eU3]
  have hHU3 : HI U3 := by rw [eU3]; exact HI_any hHU2 (lh_row148 (by omega))
  have hFU3 : FR md_wo_setProperty S U3 := by rw [eU3]; exact FR.wI hFU2 (mdf_i (r := (148, 188, 0, 100000)) (List.mem_of_getElem? (i := 2) rfl) (inR_i (by omega) (by omega) (by omega) (by omega)))
  have w3 : Xi U3 (148 + (row).toNat) ((p).toNat) = length := by rw [eU3]; exact Xi_same (by unfold rg; omega)
  refine l_return rfl rfl ?_
  exact ⟨hHU3, hFU3, rfl, (fun h1 h3 => TX_set h1 eU1 eU2 eU3 (by omega) (by omega) (by omega) (by unfold rg; omega) (by unfold rg; omega) h3)⟩
def md_wo_place : List rec := [(22, 23, 0, 100000), (23, 24, 0, 100000)]
abbrev Q_wo_place (S : sS) (o : Int) (how : Int) (where_ : Int) : pst := fun r S1 => HI S1 ∧ FR md_wo_place S S1 ∧ (r = none)
set_option maxRecDepth 100000 in
theorem t_wo_place {S : sS} (hH : HI S) (o : Int) (how : Int) (where_ : Int) (ho : 0 ≤ o ∧ o ≤ 23) (hhow : 0 ≤ how ∧ how ≤ 5) (hwhere_ : -1 ≤ where_ ∧ where_ ≤ 23) (d : Nat) : Mt lay0 (d + 1) m_wo_place [.ref 20, iv o, iv how, iv where_] S (Q_wo_place S o how where_) := by
  refine Mt_R rfl rfl ?_
  have hF : FR md_wo_place S S := FR.rf
  refine l_aload_n rfl rfl ?_
  refine l_gfr rfl rfl rfl rfl rfl (hH.r 20 3 22 rfl) ?_
  refine l_iload_n rfl rfl ?_
  refine l_iload_n rfl rfl ?_
  refine l_iastore (n := 24) rfl rfl (by omega) (by omega) (by unfold rg; omega) ?_
  obtain ⟨U1, eU1⟩ : ∃ T : sS, T = uI S 22 ((o).toNat) (Int32.ofInt how) := ⟨_, rfl⟩
  rw [← eU1]
  have hHU1 : HI U1 := by rw [eU1]; exact HI_w hH (show 0 ≤ how by omega) (show how ≤ 5 by omega)
  have hFU1 : FR md_wo_place S U1 := by rw [eU1]; exact FR.wI hF (mdf_i (r := (22, 23, 0, 100000)) (List.mem_of_getElem? (i := 0) rfl) (inR_i (by omega) (by omega) (by omega) (by omega)))
  have w1 : Xi U1 22 ((o).toNat) = how := by rw [eU1]; exact Xi_same (by unfold rg; omega)
  refine l_aload_n rfl rfl ?_
  refine l_gfr rfl rfl rfl rfl rfl (hHU1.r 20 4 23 rfl) ?_
  refine l_iload_n rfl rfl ?_
  refine l_iload_n rfl rfl ?_
  refine l_iastore (n := 24) rfl rfl (by omega) (by omega) (by unfold rg; omega) ?_
  obtain ⟨U2, eU2⟩ : ∃ T : sS, T = uI U1 23 ((o).toNat) (Int32.ofInt where_) := ⟨_, rfl⟩
  rw [← eU2]
  have hHU2 : HI U2 := by rw [eU2]; exact HI_w hHU1 (show -1 ≤ where_ by omega) (show where_ ≤ 23 by omega)
  have hFU2 : FR md_wo_place S U2 := by rw [eU2]; exact FR.wI hFU1 (mdf_i (r := (23, 24, 0, 100000)) (List.mem_of_getElem? (i := 1) rfl) (inR_i (by omega) (by omega) (by omega) (by omega)))
  have w2 : Xi U2 23 ((o).toNat) = where_ := by rw [eU2]; exact Xi_same (by unfold rg; omega)
  refine l_return rfl rfl ?_
  exact ⟨hHU2, hFU2, rfl⟩
def md_wo_makeObject : List rec := [(21, 22, 0, 100000), (22, 23, 0, 100000), (23, 24, 0, 100000)]
abbrev Q_wo_makeObject (S : sS) (o : Int) (kind : Int) : pst := fun r S1 => HI S1 ∧ FR md_wo_makeObject S S1 ∧ (r = none)
set_option maxRecDepth 100000 in
theorem t_wo_makeObject {S : sS} (hH : HI S) (o : Int) (kind : Int) (ho : 0 ≤ o ∧ o ≤ 23) (hkind : 0 ≤ kind ∧ kind ≤ 15) (d : Nat) : Mt lay0 (d + 1) m_wo_makeObject [.ref 20, iv o, iv kind] S (Q_wo_makeObject S o kind) := by
  refine Mt_R rfl rfl ?_
  have hF : FR md_wo_makeObject S S := FR.rf
  refine l_aload_n rfl rfl ?_
  refine l_gfr rfl rfl rfl rfl rfl (hH.r 20 2 21 rfl) ?_
  refine l_iload_n rfl rfl ?_
  refine l_iload_n rfl rfl ?_
  refine l_iastore (n := 24) rfl rfl (by omega) (by omega) (by unfold rg; omega) ?_
  obtain ⟨U1, eU1⟩ : ∃ T : sS, T = uI S 21 ((o).toNat) (Int32.ofInt kind) := ⟨_, rfl⟩
  rw [← eU1]
  have hHU1 : HI U1 := by rw [eU1]; exact HI_w hH (show 0 ≤ kind by omega) (show kind ≤ 15 by omega)
  have hFU1 : FR md_wo_makeObject S U1 := by rw [eU1]; exact FR.wI hF (mdf_i (r := (21, 22, 0, 100000)) (List.mem_of_getElem? (i := 0) rfl) (inR_i (by omega) (by omega) (by omega) (by omega)))
  have w1 : Xi U1 21 ((o).toNat) = kind := by rw [eU1]; exact Xi_same (by unfold rg; omega)
  refine l_aload_n rfl rfl ?_
  refine l_gfr rfl rfl rfl rfl rfl (hHU1.r 20 3 22 rfl) ?_
  refine l_iload_n rfl rfl ?_
  refine l_iconst rfl ?_
  refine l_iastore (n := 24) rfl rfl (by omega) (by omega) (by unfold rg; omega) ?_
  obtain ⟨U2, eU2⟩ : ∃ T : sS, T = uI U1 22 ((o).toNat) (Int32.ofInt 0) := ⟨_, rfl⟩
  rw [← eU2]
  have hHU2 : HI U2 := by rw [eU2]; exact HI_w hHU1 (show 0 ≤ 0 by omega) (show 0 ≤ 5 by omega)
  have hFU2 : FR md_wo_makeObject S U2 := by rw [eU2]; exact FR.wI hFU1 (mdf_i (r := (22, 23, 0, 100000)) (List.mem_of_getElem? (i := 1) rfl) (inR_i (by omega) (by omega) (by omega) (by omega)))
  have w2 : Xi U2 22 ((o).toNat) = 0 := by rw [eU2]; exact Xi_same (by unfold rg; omega)
  refine l_aload_n rfl rfl ?_
  refine l_gfr rfl rfl rfl rfl rfl (hHU2.r 20 4 23 rfl) ?_
  refine l_iload_n rfl rfl ?_
  refine l_iconst rfl ?_
  refine l_iastore (n := 24) rfl rfl (by omega) (by omega) (by unfold rg; omega) ?_
  obtain ⟨U3, eU3⟩ : ∃ T : sS, T = uI U2 23 ((o).toNat) (Int32.ofInt (-1)) := ⟨_, rfl⟩
  rw [← eU3]
  have hHU3 : HI U3 := by rw [eU3]; exact HI_w hHU2 (show -1 ≤ (-1) by omega) (show (-1) ≤ 23 by omega)
  have hFU3 : FR md_wo_makeObject S U3 := by rw [eU3]; exact FR.wI hFU2 (mdf_i (r := (23, 24, 0, 100000)) (List.mem_of_getElem? (i := 2) rfl) (inR_i (by omega) (by omega) (by omega) (by omega)))
  have w3 : Xi U3 23 ((o).toNat) = (-1) := by rw [eU3]; exact Xi_same (by unfold rg; omega)
  refine l_return rfl rfl ?_
  exact ⟨hHU3, hFU3, rfl⟩
def md_wo_tellKind : List rec := [(21, 22, 0, 100000)]
abbrev Q_wo_tellKind (S : sS) (o : Int) (kind : Int) : pst := fun r S1 => HI S1 ∧ FR md_wo_tellKind S S1 ∧ (∃ z : Int, r = some (iv z) ∧ (0 ≤ z ∧ z ≤ 1))
set_option maxRecDepth 100000 in
theorem t_wo_tellKind {S : sS} (hH : HI S) (o : Int) (kind : Int) (ho : 0 ≤ o ∧ o ≤ 23) (hkind : 0 ≤ kind ∧ kind ≤ 15) (d : Nat) : Mt lay0 (d + 2) m_wo_tellKind [.ref 20, iv o, iv kind] S (Q_wo_tellKind S o kind) := by
  refine Mt_R rfl rfl ?_
  have hF : FR md_wo_tellKind S S := FR.rf
  refine l_aload_n rfl rfl ?_
  refine l_gfr rfl rfl rfl rfl rfl (hH.r 20 0 1 rfl) ?_
  refine l_iload_n rfl rfl ?_
  refine l_aload_n rfl rfl ?_
  refine l_gfr rfl rfl rfl rfl rfl (hH.r 20 2 21 rfl) ?_
  refine l_iload_n rfl rfl ?_
  refine l_iaload (n := 24) rfl rfl (by omega) (by omega) (by unfold rg; omega) ?_
  have w1 : 0 ≤ (Xi S 21 ((o).toNat)) ∧ (Xi S 21 ((o).toNat)) ≤ 15 := hH.c _ _
  refine l_callV rfl rfl rfl (t_vo_isKind hH kind (Xi S 21 ((o).toNat)) ⟨by omega, by omega⟩ ⟨by omega, by omega⟩ _) ?_
  rintro _ _ ⟨rfl, z3, rfl, w3, w2⟩
  show Rl _ _ _ _ _ [iv z3] _ _
  refine l_if_eq rfl rfl (by unfold rg; omega) (fun w4 => ?_) (fun w5 => ?_)
  · refine l_aload_n rfl rfl ?_
    refine l_gfr rfl rfl rfl rfl rfl (hH.r 20 0 1 rfl) ?_
    refine l_aload_n rfl rfl ?_
    refine l_gfr rfl rfl rfl rfl rfl (hH.r 20 2 21 rfl) ?_
    refine l_iload_n rfl rfl ?_
    refine l_iaload (n := 24) rfl rfl (by omega) (by omega) (by unfold rg; omega) ?_
    refine l_iload_n rfl rfl ?_
    refine l_callV rfl rfl rfl (t_vo_isKind hH (Xi S 21 ((o).toNat)) kind ⟨by omega, by omega⟩ ⟨by omega, by omega⟩ _) ?_
    rintro _ _ ⟨rfl, z7, rfl, w7, w6⟩
    show Rl _ _ _ _ _ [iv z7] _ _
    refine l_ireturn rfl (retI_z (by omega)) ?_
    exact ⟨hH, hF, _, rfl, ⟨by omega, by omega⟩⟩
  · refine l_aload_n rfl rfl ?_
    refine l_gfr rfl rfl rfl rfl rfl (hH.r 20 2 21 rfl) ?_
    refine l_iload_n rfl rfl ?_
    refine l_iload_n rfl rfl ?_
    refine l_iastore (n := 24) rfl rfl (by omega) (by omega) (by unfold rg; omega) ?_
    obtain ⟨U1, eU1⟩ : ∃ T : sS, T = uI S 21 ((o).toNat) (Int32.ofInt kind) := ⟨_, rfl⟩
    rw [← eU1]
    have hHU1 : HI U1 := by rw [eU1]; exact HI_w hH (show 0 ≤ kind by omega) (show kind ≤ 15 by omega)
    have hFU1 : FR md_wo_tellKind S U1 := by rw [eU1]; exact FR.wI hF (mdf_i (r := (21, 22, 0, 100000)) (List.mem_of_getElem? (i := 0) rfl) (inR_i (by omega) (by omega) (by omega) (by omega)))
    have w8 : Xi U1 21 ((o).toNat) = kind := by rw [eU1]; exact Xi_same (by unfold rg; omega)
    refine l_iconst rfl ?_
    refine l_ireturn rfl rfl ?_
    exact ⟨hHU1, hFU1, _, rfl, ⟨by omega, by omega⟩⟩
def md_wo_tellAdjective : List rec := [(25, 65, 0, 100000)]
abbrev Q_wo_tellAdjective (S : sS) (row : Int) (a : Int) (holds : Int) : pst := fun r S1 => HI S1 ∧ FR md_wo_tellAdjective S S1 ∧ (∃ z : Int, r = some (iv z) ∧ (0 ≤ z ∧ z ≤ 1))
set_option maxRecDepth 100000 in
theorem t_wo_tellAdjective {S : sS} (hH : HI S) (row : Int) (a : Int) (holds : Int) (hrow : 0 ≤ row ∧ row ≤ 39) (ha : 0 ≤ a ∧ a ≤ 23) (hholds : 0 ≤ holds ∧ holds ≤ 1) (d : Nat) : Mt lay0 (d + 2) m_wo_tellAdjective [.ref 20, iv row, iv a, iv holds] S (Q_wo_tellAdjective S row a holds) := by
  refine Mt_R rfl rfl ?_
  have hF : FR md_wo_tellAdjective S S := FR.rf
  refine l_aload_n rfl rfl ?_
  refine l_gfr rfl rfl rfl rfl rfl (hH.r 20 5 24 rfl) ?_
  refine l_iload_n rfl rfl ?_
  refine l_aaload (n := 40) (a := 25 + (row).toNat) rfl rfl (by decide) (by omega) (by omega) (by unfold rg; omega) (RW_24 hH (by omega)) ?_
  refine l_iload_n rfl rfl ?_
  refine l_iaload (n := 24) rfl (lay_25 (by omega)) (by omega) (by omega) (by unfold rg; omega) ?_
  have w1 : -2147483648 ≤ (Xi S (25 + (row).toNat) ((a).toNat)) ∧ (Xi S (25 + (row).toNat) ((a).toNat)) ≤ 2147483647 := Xi_rgI
  refine l_iload_n rfl rfl ?_
  refine l_if_eq rfl rfl (by unfold rg; omega) (fun w2 => ?_) (fun w3 => ?_)
  · refine l_iconst rfl ?_
    refine l_icmp_ne rfl rfl (by unfold rg; omega) (by unfold rg; omega) (fun w4 => ?_) (fun w5 => ?_)
    · refine l_aload_n rfl rfl ?_
      refine l_iload_n rfl rfl ?_
      refine l_iload_n rfl rfl ?_
      refine l_iload_n rfl rfl ?_
      refine l_callV rfl rfl rfl (t_wo_setAdjective hH row a holds ⟨by omega, by omega⟩ ⟨by omega, by omega⟩ ⟨by omega, by omega⟩ _) ?_
      rintro _ T1 ⟨hHT1, w7, rfl⟩
      have hFT1 : FR md_wo_tellAdjective S T1 := FR.tr hF w7 rfl
      show Rl _ _ _ _ _ [] _ _
      refine l_iconst rfl ?_
      refine l_ireturn rfl rfl ?_
      exact ⟨hHT1, hFT1, _, rfl, ⟨by omega, by omega⟩⟩
    · refine l_iconst rfl ?_
      refine l_ireturn rfl rfl ?_
      exact ⟨hH, hF, _, rfl, ⟨by omega, by omega⟩⟩
  · refine l_iconst rfl ?_
    refine l_goto rfl rfl ?_
    refine l_icmp_ne rfl rfl (by unfold rg; omega) (by unfold rg; omega) (fun w8 => ?_) (fun w9 => ?_)
    · refine l_aload_n rfl rfl ?_
      refine l_iload_n rfl rfl ?_
      refine l_iload_n rfl rfl ?_
      refine l_iload_n rfl rfl ?_
      refine l_callV rfl rfl rfl (t_wo_setAdjective hH row a holds ⟨by omega, by omega⟩ ⟨by omega, by omega⟩ ⟨by omega, by omega⟩ _) ?_
      rintro _ T2 ⟨hHT2, w11, rfl⟩
      have hFT2 : FR md_wo_tellAdjective S T2 := FR.tr hF w11 rfl
      show Rl _ _ _ _ _ [] _ _
      refine l_iconst rfl ?_
      refine l_ireturn rfl rfl ?_
      exact ⟨hHT2, hFT2, _, rfl, ⟨by omega, by omega⟩⟩
    · refine l_iconst rfl ?_
      refine l_ireturn rfl rfl ?_
      exact ⟨hH, hF, _, rfl, ⟨by omega, by omega⟩⟩
def md_wo_tellPlace : List rec := [(22, 23, 0, 100000), (23, 24, 0, 100000)]
abbrev Q_wo_tellPlace (S : sS) (o : Int) (how : Int) (where_ : Int) : pst := fun r S1 => HI S1 ∧ FR md_wo_tellPlace S S1 ∧ (∃ z : Int, r = some (iv z) ∧ (0 ≤ z ∧ z ≤ 6))
set_option maxRecDepth 100000 in
theorem t_wo_tellPlace {S : sS} (hH : HI S) (o : Int) (how : Int) (where_ : Int) (ho : 0 ≤ o ∧ o ≤ 23) (hhow : 0 ≤ how ∧ how ≤ 5) (hwhere_ : 0 ≤ where_ ∧ where_ ≤ 23) (d : Nat) : Mt lay0 (d + 3) m_wo_tellPlace [.ref 20, iv o, iv how, iv where_] S (Q_wo_tellPlace S o how where_) := by
  refine Mt_R rfl rfl ?_
  have hF : FR md_wo_tellPlace S S := FR.rf
  refine l_aload_n rfl rfl ?_
  refine l_iload_n rfl rfl ?_
  refine l_iconst rfl ?_
  refine l_callV rfl rfl rfl (t_wo_isA hH o 0 ⟨by omega, by omega⟩ ⟨by omega, by omega⟩ _) ?_
  rintro _ _ ⟨rfl, z2, rfl, w2, w1⟩
  show Rl _ _ _ _ _ [iv z2] _ _
  refine l_if_ne rfl rfl (by unfold rg; omega) (fun w3 => ?_) (fun w4 => ?_)
  · refine l_aload_n rfl rfl ?_
    refine l_gfr rfl rfl rfl rfl rfl (hH.r 20 3 22 rfl) ?_
    refine l_iload_n rfl rfl ?_
    refine l_iaload (n := 24) rfl rfl (by omega) (by omega) (by unfold rg; omega) ?_
    have w5 : 0 ≤ (Xi S 22 ((o).toNat)) ∧ (Xi S 22 ((o).toNat)) ≤ 5 := hH.c _ _
    refine l_if_eq rfl rfl (by unfold rg; omega) (fun w6 => ?_) (fun w7 => ?_)
    · refine l_aload_n rfl rfl ?_
      refine l_iload_n rfl rfl ?_
      refine l_iload_n rfl rfl ?_
      refine l_callV rfl rfl rfl (t_wo_isWithin hH where_ o ⟨by omega, by omega⟩ ⟨by omega, by omega⟩ _) ?_
      rintro _ _ ⟨rfl, z9, rfl, w9, w8⟩
      show Rl _ _ _ _ _ [iv z9] _ _
      refine l_if_eq rfl rfl (by unfold rg; omega) (fun w10 => ?_) (fun w11 => ?_)
      · refine l_aload_n rfl rfl ?_
        refine l_iload_n rfl rfl ?_
        refine l_iload_n rfl rfl ?_
        refine l_iload_n rfl rfl ?_
        refine l_callV rfl rfl rfl (t_wo_place hH o how where_ ⟨by omega, by omega⟩ ⟨by omega, by omega⟩ ⟨by omega, by omega⟩ _) ?_
        rintro _ T1 ⟨hHT1, w13, rfl⟩
        have hFT1 : FR md_wo_tellPlace S T1 := FR.tr hF w13 rfl
        show Rl _ _ _ _ _ [] _ _
        refine l_iconst rfl ?_
        refine l_ireturn rfl rfl ?_
        exact ⟨hHT1, hFT1, _, rfl, ⟨by omega, by omega⟩⟩
      · refine l_bipush rfl rfl ?_
        refine l_ireturn rfl rfl ?_
        exact ⟨hH, hF, _, rfl, ⟨by omega, by omega⟩⟩
    · refine l_aload_n rfl rfl ?_
      refine l_gfr rfl rfl rfl rfl rfl (hH.r 20 3 22 rfl) ?_
      refine l_iload_n rfl rfl ?_
      refine l_iaload (n := 24) rfl rfl (by omega) (by omega) (by unfold rg; omega) ?_
      refine l_iload_n rfl rfl ?_
      refine l_icmp_ne rfl rfl (by unfold rg; omega) (by unfold rg; omega) (fun w14 => ?_) (fun w15 => ?_)
      · refine l_iconst rfl ?_
        refine l_ireturn rfl rfl ?_
        exact ⟨hH, hF, _, rfl, ⟨by omega, by omega⟩⟩
      · refine l_aload_n rfl rfl ?_
        refine l_gfr rfl rfl rfl rfl rfl (hH.r 20 4 23 rfl) ?_
        refine l_iload_n rfl rfl ?_
        refine l_iaload (n := 24) rfl rfl (by omega) (by omega) (by unfold rg; omega) ?_
        have w16 : -1 ≤ (Xi S 23 ((o).toNat)) ∧ (Xi S 23 ((o).toNat)) ≤ 23 := hH.c _ _
        refine l_iload_n rfl rfl ?_
        refine l_icmp_ne rfl rfl (by unfold rg; omega) (by unfold rg; omega) (fun w17 => ?_) (fun w18 => ?_)
        · refine l_iconst rfl ?_
          refine l_ireturn rfl rfl ?_
          exact ⟨hH, hF, _, rfl, ⟨by omega, by omega⟩⟩
        · refine l_iconst rfl ?_
          refine l_goto rfl rfl ?_
          refine l_ireturn rfl rfl ?_
          exact ⟨hH, hF, _, rfl, ⟨by omega, by omega⟩⟩
  · refine l_iconst rfl ?_
    refine l_ireturn rfl rfl ?_
    exact ⟨hH, hF, _, rfl, ⟨by omega, by omega⟩⟩
def md_wo_tellWay : List rec := [(20, 21, 12, 13), (196, 220, 0, 100000), (221, 245, 0, 100000)]
abbrev Q_wo_tellWay (S : sS) (room : Int) (dir : Int) (to : Int) : pst := fun r S1 => HI S1 ∧ FR md_wo_tellWay S S1 ∧ (∃ z : Int, r = some (iv z) ∧ (0 ≤ z ∧ z ≤ 1))
set_option maxRecDepth 100000 in
theorem t_wo_tellWay {S : sS} (hH : HI S) (room : Int) (dir : Int) (to : Int) (hroom : 0 ≤ room ∧ room ≤ 23) (hdir : 0 ≤ dir ∧ dir ≤ 5) (hto : 0 ≤ to ∧ to ≤ 23) (d : Nat) : Mt lay0 (d + 1) m_wo_tellWay [.ref 20, iv room, iv dir, iv to] S (Q_wo_tellWay S room dir to) := by
  refine Mt_R rfl rfl ?_
  have hF : FR md_wo_tellWay S S := FR.rf
  refine l_aload_n rfl rfl ?_
  refine l_gfr rfl rfl rfl rfl rfl (hH.r 20 10 195 rfl) ?_
  refine l_iload_n rfl rfl ?_
  refine l_aaload (n := 24) (a := 196 + (room).toNat) rfl rfl (by decide) (by omega) (by omega) (by unfold rg; omega) (RW_195 hH (by omega)) ?_
  refine l_iload_n rfl rfl ?_
  refine l_iaload (n := 6) rfl (lay_196 (by omega)) (by omega) (by omega) (by unfold rg; omega) ?_
  have w1 : -1 ≤ (Xi S (196 + (room).toNat) ((dir).toNat)) ∧ (Xi S (196 + (room).toNat) ((dir).toNat)) ≤ 23 := wyc hH (by omega)
  refine l_iconst rfl ?_
  refine l_icmp_eq rfl rfl (by unfold rg; omega) (by unfold rg; omega) (fun w2 => ?_) (fun w3 => ?_)
  · refine l_aload_n rfl rfl ?_
    refine l_gfr rfl rfl rfl rfl rfl (hH.r 20 10 195 rfl) ?_
    refine l_iload_n rfl rfl ?_
    refine l_aaload (n := 24) (a := 196 + (room).toNat) rfl rfl (by decide) (by omega) (by omega) (by unfold rg; omega) (RW_195 hH (by omega)) ?_
    refine l_iload_n rfl rfl ?_
    refine l_iload_n rfl rfl ?_
    refine l_iastore (n := 6) rfl (lay_196 (by omega)) (by omega) (by omega) (by unfold rg; omega) ?_
    obtain ⟨U1, eU1⟩ : ∃ T : sS, T = uI S (196 + (room).toNat) ((dir).toNat) (Int32.ofInt to) := ⟨_, rfl⟩
    rw [← eU1]
    have hHU1 : HI U1 := by rw [eU1]; exact HI_w hH (by rw [lh_wy (by omega)]; omega) (by rw [lh_wy (by omega)]; omega)
    have hFU1 : FR md_wo_tellWay S U1 := by rw [eU1]; exact FR.wI hF (mdf_i (r := (196, 220, 0, 100000)) (List.mem_of_getElem? (i := 1) rfl) (inR_i (by omega) (by omega) (by omega) (by omega)))
    refine l_aload_n rfl rfl ?_
    refine l_gfr rfl rfl rfl rfl rfl (hHU1.r 20 11 220 rfl) ?_
    refine l_iload_n rfl rfl ?_
    refine l_aaload (n := 24) (a := 221 + (room).toNat) rfl rfl (by decide) (by omega) (by omega) (by unfold rg; omega) (RW_220 hHU1 (by omega)) ?_
    refine l_iload_n rfl rfl ?_
    refine l_aload_n rfl rfl ?_
    refine l_gfi rfl rfl rfl rfl rfl ?_
    have w4 : -2147483648 ≤ (Xi U1 20 12) ∧ (Xi U1 20 12) ≤ 2147483647 := Xi_rgI
    refine l_iastore (n := 6) rfl (lay_221 (by omega)) (by omega) (by omega) (by unfold rg; omega) ?_
    obtain ⟨U2, eU2⟩ : ∃ T : sS, T = uI U1 (221 + (room).toNat) ((dir).toNat) (Int32.ofInt (Xi U1 20 12)) := ⟨_, rfl⟩
    rw [← eU2]
    have hHU2 : HI U2 := by rw [eU2]; exact HI_any hHU1 (lh_row221 (by omega))
    have hFU2 : FR md_wo_tellWay S U2 := by rw [eU2]; exact FR.wI hFU1 (mdf_i (r := (221, 245, 0, 100000)) (List.mem_of_getElem? (i := 2) rfl) (inR_i (by omega) (by omega) (by omega) (by omega)))
    refine l_aload_n rfl rfl ?_
    refine l_dup rfl rfl ?_
    refine l_gfi rfl rfl rfl rfl rfl ?_
    have w5 : (Xi U2 20 12) = (Xi U1 20 12) := (show Xi U2 20 12 = Xi U1 20 12 from by rw [eU2]; exact Xi_ne (by omega))
    rw [w5]
    refine l_iconst rfl ?_
    refine l_iadd rfl ?_
    refine l_pfi rfl rfl rfl rfl ?_
    obtain ⟨U3, eU3⟩ : ∃ T : sS, T = uI U2 20 12 (Int32.ofInt ((Xi U1 20 12) + 1)) := ⟨_, rfl⟩
    rw [← eU3]
    have hHU3 : HI U3 := by rw [eU3]; exact HI_any hHU2 (rfl)
    have hFU3 : FR md_wo_tellWay S U3 := by rw [eU3]; exact FR.wI hFU2 (mdf_i (r := (20, 21, 12, 13)) (List.mem_of_getElem? (i := 0) rfl) (inR_i (by omega) (by omega) (by omega) (by omega)))
    refine l_iconst rfl ?_
    refine l_ireturn rfl rfl ?_
    exact ⟨hHU3, hFU3, _, rfl, ⟨by omega, by omega⟩⟩
  · refine l_aload_n rfl rfl ?_
    refine l_gfr rfl rfl rfl rfl rfl (hH.r 20 10 195 rfl) ?_
    refine l_iload_n rfl rfl ?_
    refine l_aaload (n := 24) (a := 196 + (room).toNat) rfl rfl (by decide) (by omega) (by omega) (by unfold rg; omega) (RW_195 hH (by omega)) ?_
    refine l_iload_n rfl rfl ?_
    refine l_iaload (n := 6) rfl (lay_196 (by omega)) (by omega) (by omega) (by unfold rg; omega) ?_
    refine l_iload_n rfl rfl ?_
    refine l_icmp_ne rfl rfl (by unfold rg; omega) (by unfold rg; omega) (fun w6 => ?_) (fun w7 => ?_)
    · refine l_iconst rfl ?_
      refine l_ireturn rfl rfl ?_
      exact ⟨hH, hF, _, rfl, ⟨by omega, by omega⟩⟩
    · refine l_iconst rfl ?_
      refine l_goto rfl rfl ?_
      refine l_ireturn rfl rfl ?_
      exact ⟨hH, hF, _, rfl, ⟨by omega, by omega⟩⟩
def md_wo_tellRelated : List rec := [(189, 195, 0, 100000)]
abbrev Q_wo_tellRelated (S : sS) (rl : Int) (a : Int) (b : Int) : pst := fun r S1 => HI S1 ∧ FR md_wo_tellRelated S S1 ∧ (∃ z : Int, r = some (iv z) ∧ (0 ≤ z ∧ z ≤ 1))
set_option maxRecDepth 100000 in
theorem t_wo_tellRelated {S : sS} (hH : HI S) (rl : Int) (a : Int) (b : Int) (hrl : 0 ≤ rl ∧ rl ≤ 5) (ha : 0 ≤ a ∧ a ≤ 23) (hb : 0 ≤ b ∧ b ≤ 23) (d : Nat) : Mt lay0 (d + 2) m_wo_tellRelated [.ref 20, iv rl, iv a, iv b] S (Q_wo_tellRelated S rl a b) := by
  refine Mt_R rfl rfl ?_
  have hF : FR md_wo_tellRelated S S := FR.rf
  have C31 : Rl lay0 (d + 1) m_wo_tellRelated 31 [(0, .ref 20), (1, iv rl), (2, iv a), (3, iv b)] [] S (Q_wo_tellRelated S rl a b) := by
    have C34 : ∀ (n34 : Nat) (v4 : Int), (0 ≤ v4 ∧ v4 ≤ 24) → n34 = (25 - v4).toNat → Rl lay0 (d + 1) m_wo_tellRelated 34 [(0, .ref 20), (1, iv rl), (2, iv a), (3, iv b), (4, iv v4)] [] S (Q_wo_tellRelated S rl a b) := by
      intro n34
      induction n34 using Nat.strongRecOn with
      | ind n34 ih34 =>
        intro v4 w1 hm34
        have C72 : ∀  (v4 : Int), (0 ≤ v4 ∧ v4 ≤ 23) → ((25 - v4).toNat ≤ n34) → Rl lay0 (d + 1) m_wo_tellRelated 72 [(0, .ref 20), (1, iv rl), (2, iv a), (3, iv b), (4, iv v4)] [] S (Q_wo_tellRelated S rl a b) := by
          intro v4 w2 w3
          refine l_iinc rfl rfl rfl rfl ?_
          refine l_goto rfl rfl ?_
          exact Rl_weak (ih34 _ (by omega) ((v4 + 1)) (by omega) rfl) (And.intro rfl (And.intro rfl (And.intro rfl (And.intro rfl (And.intro rfl (True.intro))))))
        have C78 : Rl lay0 (d + 1) m_wo_tellRelated 78 [(0, .ref 20), (1, iv rl), (2, iv a), (3, iv b)] [] S (Q_wo_tellRelated S rl a b) := by
          refine l_aload_n rfl rfl ?_
          refine l_gfr rfl rfl rfl rfl rfl (hH.r 20 9 188 rfl) ?_
          refine l_iload_n rfl rfl ?_
          refine l_aaload (n := 6) (a := 189 + (rl).toNat) rfl rfl (by decide) (by omega) (by omega) (by unfold rg; omega) (RW_188 hH (by omega)) ?_
          refine l_iload_n rfl rfl ?_
          refine l_dup2 rfl rfl ?_
          refine l_iaload (n := 24) rfl (lay_189 (by omega)) (by omega) (by omega) (by unfold rg; omega) ?_
          have w4 : -2147483648 ≤ (Xi S (189 + (rl).toNat) ((a).toNat)) ∧ (Xi S (189 + (rl).toNat) ((a).toNat)) ≤ 2147483647 := Xi_rgI
          refine l_iconst rfl ?_
          refine l_iload_n rfl rfl ?_
          refine l_ishlF rfl ?_
          have w5 : -2147483648 ≤ (ishlF 1 b) ∧ (ishlF 1 b) ≤ 2147483647 := ishlF_rg
          refine l_iorF rfl ?_
          have w6 : -2147483648 ≤ (iorF (Xi S (189 + (rl).toNat) ((a).toNat)) (ishlF 1 b)) ∧ (iorF (Xi S (189 + (rl).toNat) ((a).toNat)) (ishlF 1 b)) ≤ 2147483647 := iorF_rg
          have w6b : (0 : Int) ≤ (Xi S (189 + (rl).toNat) ((a).toNat)) → (0 : Int) ≤ (ishlF 1 b) → 0 ≤ (iorF (Xi S (189 + (rl).toNat) ((a).toNat)) (ishlF 1 b)) := iorF_nn (by unfold rg; omega) (by unfold rg; omega)
          refine l_iastore (n := 24) rfl (lay_189 (by omega)) (by omega) (by omega) (by unfold rg; omega) ?_
          obtain ⟨U1, eU1⟩ : ∃ T : sS, T = uI S (189 + (rl).toNat) ((a).toNat) (Int32.ofInt (iorF (Xi S (189 + (rl).toNat) ((a).toNat)) (ishlF 1 b))) := ⟨_, rfl⟩
          rw [← eU1]
          have hHU1 : HI U1 := by rw [eU1]; exact HI_any hH (lh_row189 (by omega))
          have hFU1 : FR md_wo_tellRelated S U1 := by rw [eU1]; exact FR.wI hF (mdf_i (r := (189, 195, 0, 100000)) (List.mem_of_getElem? (i := 0) rfl) (inR_i (by omega) (by omega) (by omega) (by omega)))
          have w7 : Xi U1 (189 + (rl).toNat) ((a).toNat) = (iorF (Xi S (189 + (rl).toNat) ((a).toNat)) (ishlF 1 b)) := by rw [eU1]; exact Xi_same (by unfold rg; omega)
          refine l_iconst rfl ?_
          refine l_ireturn rfl rfl ?_
          exact ⟨hHU1, hFU1, _, rfl, ⟨by omega, by omega⟩⟩
        refine l_iload rfl rfl ?_
        refine l_bipush rfl rfl ?_
        refine l_icmp_ge rfl rfl (by unfold rg; omega) (by unfold rg; omega) (fun w8 => ?_) (fun w9 => ?_)
        · exact Rl_weak (C78  ) (And.intro rfl (And.intro rfl (And.intro rfl (And.intro rfl (True.intro)))))
        · refine l_aload_n rfl rfl ?_
          refine l_gfr rfl rfl rfl rfl rfl (hH.r 20 0 1 rfl) ?_
          refine l_gfr rfl rfl rfl rfl rfl (hH.r 1 15 16 rfl) ?_
          refine l_iload_n rfl rfl ?_
          refine l_baload (n := 6) rfl rfl rfl (by decide) (by omega) (by omega) (by unfold rg; omega) ?_
          have w10 : 0 ≤ (Xi S 16 ((rl).toNat)) ∧ (Xi S 16 ((rl).toNat)) ≤ 1 := hH.c _ _
          refine l_if_eq rfl rfl (by unfold rg; omega) (fun w11 => ?_) (fun w12 => ?_)
          · exact Rl_weak (C78  ) (And.intro rfl (And.intro rfl (And.intro rfl (And.intro rfl (True.intro)))))
          · refine l_iload rfl rfl ?_
            refine l_iload_n rfl rfl ?_
            refine l_icmp_eq rfl rfl (by unfold rg; omega) (by unfold rg; omega) (fun w13 => ?_) (fun w14 => ?_)
            · exact Rl_weak (C72 (v4) (by omega) (by omega)) (And.intro rfl (And.intro rfl (And.intro rfl (And.intro rfl (And.intro rfl (True.intro))))))
            · refine l_aload_n rfl rfl ?_
              refine l_iload_n rfl rfl ?_
              refine l_iload rfl rfl ?_
              refine l_iload_n rfl rfl ?_
              refine l_callV rfl rfl rfl (t_wo_isRelated hH rl v4 b ⟨by omega, by omega⟩ ⟨by omega, by omega⟩ ⟨by omega, by omega⟩ _) ?_
              rintro _ _ ⟨rfl, z16, rfl, w16, w15⟩
              show Rl _ _ _ _ _ [iv z16] _ _
              refine l_if_eq rfl rfl (by unfold rg; omega) (fun w17 => ?_) (fun w18 => ?_)
              · exact Rl_weak (C72 (v4) (by omega) (by omega)) (And.intro rfl (And.intro rfl (And.intro rfl (And.intro rfl (And.intro rfl (True.intro))))))
              · refine l_iconst rfl ?_
                refine l_ireturn rfl rfl ?_
                exact ⟨hH, hF, _, rfl, ⟨by omega, by omega⟩⟩
    refine l_iconst rfl ?_
    refine l_istore rfl rfl rfl ?_
    exact Rl_weak (C34 _ (0) (by omega) rfl) (And.intro rfl (And.intro rfl (And.intro rfl (And.intro rfl (And.intro rfl (True.intro))))))
  refine l_aload_n rfl rfl ?_
  refine l_gfr rfl rfl rfl rfl rfl (hH.r 20 0 1 rfl) ?_
  refine l_gfr rfl rfl rfl rfl rfl (hH.r 1 16 17 rfl) ?_
  refine l_iload_n rfl rfl ?_
  refine l_baload (n := 6) rfl rfl rfl (by decide) (by omega) (by omega) (by unfold rg; omega) ?_
  have w19 : 0 ≤ (Xi S 17 ((rl).toNat)) ∧ (Xi S 17 ((rl).toNat)) ≤ 1 := hH.c _ _
  refine l_if_eq rfl rfl (by unfold rg; omega) (fun w20 => ?_) (fun w21 => ?_)
  · exact Rl_weak (C31  ) (And.intro rfl (And.intro rfl (And.intro rfl (And.intro rfl (True.intro)))))
  · refine l_aload_n rfl rfl ?_
    refine l_gfr rfl rfl rfl rfl rfl (hH.r 20 9 188 rfl) ?_
    refine l_iload_n rfl rfl ?_
    refine l_aaload (n := 6) (a := 189 + (rl).toNat) rfl rfl (by decide) (by omega) (by omega) (by unfold rg; omega) (RW_188 hH (by omega)) ?_
    refine l_iload_n rfl rfl ?_
    refine l_iaload (n := 24) rfl (lay_189 (by omega)) (by omega) (by omega) (by unfold rg; omega) ?_
    have w22 : -2147483648 ≤ (Xi S (189 + (rl).toNat) ((a).toNat)) ∧ (Xi S (189 + (rl).toNat) ((a).toNat)) ≤ 2147483647 := Xi_rgI
    refine l_iconst rfl ?_
    refine l_iload_n rfl rfl ?_
    refine l_ishlF rfl ?_
    have w23 : -2147483648 ≤ (ishlF 1 b) ∧ (ishlF 1 b) ≤ 2147483647 := ishlF_rg
    refine l_iconst rfl ?_
    refine l_ixorF rfl ?_
    have w24 : -2147483648 ≤ (ixorF (ishlF 1 b) (-1)) ∧ (ixorF (ishlF 1 b) (-1)) ≤ 2147483647 := ixorF_rg
    refine l_iandF rfl ?_
    have w25 : -2147483648 ≤ (iandF (Xi S (189 + (rl).toNat) ((a).toNat)) (ixorF (ishlF 1 b) (-1))) ∧ (iandF (Xi S (189 + (rl).toNat) ((a).toNat)) (ixorF (ishlF 1 b) (-1))) ≤ 2147483647 := iandF_rg
    refine l_if_eq rfl rfl (by unfold rg; omega) (fun w26 => ?_) (fun w27 => ?_)
    · exact Rl_weak (C31  ) (And.intro rfl (And.intro rfl (And.intro rfl (And.intro rfl (True.intro)))))
    · refine l_iconst rfl ?_
      refine l_ireturn rfl rfl ?_
      exact ⟨hH, hF, _, rfl, ⟨by omega, by omega⟩⟩
def md_wo_placePlayer : List rec := [(22, 23, 0, 100000), (23, 24, 0, 100000)]
abbrev Q_wo_placePlayer (S : sS) : pst := fun r S1 => HI S1 ∧ FR md_wo_placePlayer S S1 ∧ (r = none)
set_option maxRecDepth 100000 in
theorem t_wo_placePlayer {S : sS} (hH : HI S) (d : Nat) : Mt lay0 (d + 3) m_wo_placePlayer [.ref 20] S (Q_wo_placePlayer S) := by
  refine Mt_R rfl rfl ?_
  have hF : FR md_wo_placePlayer S S := FR.rf
  have C2 : ∀ (n2 : Nat) (T1 : sS) (_ : HI T1) (_ : FR md_wo_placePlayer S T1) (v1 : Int), (0 ≤ v1 ∧ v1 ≤ 64) → n2 = (65 - v1).toNat → Rl lay0 (d + 2) m_wo_placePlayer 2 [(0, .ref 20), (1, iv v1)] [] T1 (Q_wo_placePlayer S) := by
    intro n2
    induction n2 using Nat.strongRecOn with
    | ind n2 ih2 =>
      intro T1 hHT1 hFT1 v1 w1 hm2
      have C39 : ∀  (T2 : sS) (_ : HI T2) (_ : FR md_wo_placePlayer S T2) (v1 : Int), (0 ≤ v1 ∧ v1 ≤ 63) → ((65 - v1).toNat ≤ n2) → Rl lay0 (d + 2) m_wo_placePlayer 39 [(0, .ref 20), (1, iv v1)] [] T2 (Q_wo_placePlayer S) := by
        intro T2 hHT2 hFT2 v1 w2 w3
        refine l_iinc rfl rfl rfl rfl ?_
        refine l_goto rfl rfl ?_
        exact Rl_weak (ih2 _ (by omega) T2 hHT2 hFT2 ((v1 + 1)) (by omega) rfl) (And.intro rfl (And.intro rfl (True.intro)))
      refine l_iload_n rfl rfl ?_
      refine l_aload_n rfl rfl ?_
      refine l_gfr rfl rfl rfl rfl rfl (hHT1.r 20 0 1 rfl) ?_
      refine l_iconst rfl ?_
      refine l_callV rfl rfl rfl (t_vo_countOf hHT1 2 ⟨by omega, by omega⟩ _) ?_
      rintro _ _ ⟨rfl, z7, rfl, w7, w4, w5, w6⟩
      have w8 : z7 = Xi T1 5 2 ∧ 0 ≤ Xi T1 5 2 ∧ Xi T1 5 2 ≤ 24 := ⟨(w4 (by omega) (by omega)).1, hHT1.c 5 2⟩
      clear w4 w5 w6
      show Rl _ _ _ _ _ [iv z7, iv v1] _ _
      refine l_icmp_ge rfl rfl (by unfold rg; omega) (by unfold rg; omega) (fun w9 => ?_) (fun w10 => ?_)
      · refine l_return rfl rfl ?_
        exact ⟨hHT1, hFT1, rfl⟩
      · refine l_aload_n rfl rfl ?_
        refine l_gfr rfl rfl rfl rfl rfl (hHT1.r 20 3 22 rfl) ?_
        refine l_iconst rfl ?_
        refine l_iaload (n := 24) rfl rfl (by omega) (by omega) (by unfold rg; omega) ?_
        have w11 : 0 ≤ (Xi T1 22 ((0 : Int).toNat)) ∧ (Xi T1 22 ((0 : Int).toNat)) ≤ 5 := hHT1.c _ _
        have w12 : (Xi T1 22 ((0 : Int).toNat)) = Xi T1 22 0 := rfl
        refine l_if_ne rfl rfl (by unfold rg; omega) (fun w13 => ?_) (fun w14 => ?_)
        · refine l_return rfl rfl ?_
          exact ⟨hHT1, hFT1, rfl⟩
        · refine l_aload_n rfl rfl ?_
          refine l_iload_n rfl rfl ?_
          refine l_iconst rfl ?_
          refine l_callV rfl rfl rfl (t_wo_isA hHT1 v1 1 ⟨by omega, by omega⟩ ⟨by omega, by omega⟩ _) ?_
          rintro _ _ ⟨rfl, z16, rfl, w16, w15⟩
          show Rl _ _ _ _ _ [iv z16] _ _
          refine l_if_eq rfl rfl (by unfold rg; omega) (fun w17 => ?_) (fun w18 => ?_)
          · exact Rl_weak (C39 T1 hHT1 hFT1 (v1) (by omega) (by omega)) (And.intro rfl (And.intro rfl (True.intro)))
          · refine l_aload_n rfl rfl ?_
            refine l_iconst rfl ?_
            refine l_iconst rfl ?_
            refine l_iload_n rfl rfl ?_
            refine l_callV rfl rfl rfl (t_wo_place hHT1 0 1 v1 ⟨by omega, by omega⟩ ⟨by omega, by omega⟩ ⟨by omega, by omega⟩ _) ?_
            rintro _ T3 ⟨hHT3, w20, rfl⟩
            have hFT3 : FR md_wo_placePlayer S T3 := FR.tr hFT1 w20 rfl
            show Rl _ _ _ _ _ [] _ _
            exact Rl_weak (C39 T3 hHT3 hFT3 (v1) (by omega) (by omega)) (And.intro rfl (And.intro rfl (True.intro)))
  refine l_iconst rfl ?_
  refine l_istore_n rfl rfl rfl ?_
  exact Rl_weak (C2 _ S hH hF (0) (by omega) rfl) (And.intro rfl (And.intro rfl (True.intro)))
abbrev Q_bo_rank (S : sS) (r : Nat) : pst := fun r S1 => S = S1 ∧ (∃ z : Int, r = some (iv z) ∧ (0 ≤ z ∧ z ≤ 2))
set_option maxRecDepth 100000 in
theorem t_bo_rank {S : sS} (hH : HI S) (r : Nat) (hr : r < 24) (d : Nat) : Mt lay0 (d + 1) m_bo_rank [.ref (248 + r)] S (Q_bo_rank S r) := by
  refine Mt_R rfl rfl ?_
  refine l_aload_n rfl rfl ?_
  refine l_iconst rfl ?_
  refine l_iaload (n := 8) rfl (lay_248 (by omega)) (by omega) (by omega) (by unfold rg; omega) ?_
  have w1 : -1 ≤ (Xi S (248 + r) ((2 : Int).toNat)) ∧ (Xi S (248 + r) ((2 : Int).toNat)) ≤ 23 := ruc2 hH (by omega)
  have w2 : (Xi S (248 + r) ((2 : Int).toNat)) = Xi S (248 + r) 2 := rfl
  refine l_iconst rfl ?_
  refine l_icmp_eq rfl rfl (by unfold rg; omega) (by unfold rg; omega) (fun w3 => ?_) (fun w4 => ?_)
  · refine l_aload_n rfl rfl ?_
    refine l_iconst rfl ?_
    refine l_iaload (n := 8) rfl (lay_248 (by omega)) (by omega) (by omega) (by unfold rg; omega) ?_
    have w5 : -1 ≤ (Xi S (248 + r) ((3 : Int).toNat)) ∧ (Xi S (248 + r) ((3 : Int).toNat)) ≤ 15 := ruc3 hH (by omega)
    have w6 : (Xi S (248 + r) ((3 : Int).toNat)) = Xi S (248 + r) 3 := rfl
    refine l_iconst rfl ?_
    refine l_icmp_eq rfl rfl (by unfold rg; omega) (by unfold rg; omega) (fun w7 => ?_) (fun w8 => ?_)
    · refine l_iconst rfl ?_
      refine l_ireturn rfl rfl ?_
      exact ⟨rfl, _, rfl, ⟨by omega, by omega⟩⟩
    · refine l_iconst rfl ?_
      refine l_goto rfl rfl ?_
      refine l_ireturn rfl rfl ?_
      exact ⟨rfl, _, rfl, ⟨by omega, by omega⟩⟩
  · refine l_iconst rfl ?_
    refine l_ireturn rfl rfl ?_
    exact ⟨rfl, _, rfl, ⟨by omega, by omega⟩⟩
def md_rs_wipe : List rec := [(0, 1, 10, 11)]
abbrev Q_rs_wipe (S : sS) : pst := fun r S1 => HI S1 ∧ FR md_rs_wipe S S1 ∧ (∃ z : Int, r = some (iv z) ∧ (0 ≤ z ∧ z ≤ 5000) ∧ (z = Xi S 0 10 ∧ Xi S1 0 10 = 0))
set_option maxRecDepth 100000 in
theorem t_rs_wipe {S : sS} (hH : HI S) (d : Nat) : Mt lay0 (d + 1) m_rs_wipe [.ref 0] S (Q_rs_wipe S) := by
  refine Mt_R rfl rfl ?_
  have hF : FR md_rs_wipe S S := FR.rf
  have w1 : 0 ≤ Xi S 0 10 ∧ Xi S 0 10 ≤ 5000 := hH.c _ _
  refine l_aload_n rfl rfl ?_
  refine l_gfi rfl rfl rfl rfl rfl ?_
  refine l_istore_n rfl rfl rfl ?_
  refine l_aload_n rfl rfl ?_
  refine l_iconst rfl ?_
  refine l_pfi rfl rfl rfl rfl ?_
  obtain ⟨U1, eU1⟩ : ∃ T : sS, T = uI S 0 10 (Int32.ofInt 0) := ⟨_, rfl⟩
  rw [← eU1]
  have hHU1 : HI U1 := by rw [eU1]; exact HI_w hH (show 0 ≤ 0 by omega) (show 0 ≤ 5000 by omega)
  have hFU1 : FR md_rs_wipe S U1 := by rw [eU1]; exact FR.wI hF (mdf_i (r := (0, 1, 10, 11)) (List.mem_of_getElem? (i := 0) rfl) (inR_i (by omega) (by omega) (by omega) (by omega)))
  have w2 : Xi U1 0 10 = 0 := by rw [eU1]; exact Xi_same (by unfold rg; omega)
  refine l_iload_n rfl rfl ?_
  refine l_ireturn rfl rfl ?_
  have w3 : 0 ≤ Xi U1 0 10 ∧ Xi U1 0 10 ≤ 5000 := hHU1.c _ _
  exact ⟨hHU1, hFU1, _, rfl, ⟨by omega, by omega⟩, (by first | assumption | omega)⟩
def md_rs_clear : List rec := [(900, 901, 4, 5)]
abbrev Q_rs_clear (S : sS) : pst := fun r S1 => HI S1 ∧ FR md_rs_clear S S1 ∧ (∃ z : Int, r = some (iv z) ∧ (0 ≤ z ∧ z ≤ 2000))
