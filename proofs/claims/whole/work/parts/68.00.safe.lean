/-! SAFETY of methods: printed by wip/safe (vc.py, decl.py) -/
abbrev Q_vo_countOf (S : sS) (s : Int) : pst := fun r S1 => S = S1 ∧ (∃ z : Int, r = some (iv z) ∧ (-1 ≤ z ∧ z ≤ 64) ∧ (0 ≤ s → s ≤ 8 → z = Xi S 5 s.toNat ∧ 0 ≤ z) ∧ ((s = 0 → z ≤ 16) ∧ (s = 1 → z ≤ 8) ∧ (s = 2 → z ≤ 24) ∧ (s = 3 → z ≤ 24) ∧ (s = 4 → z ≤ 64) ∧ (s = 5 → z ≤ 12) ∧ (s = 6 → z ≤ 6) ∧ (s = 7 → z ≤ 8) ∧ (s = 8 → z ≤ 12)) ∧ (s < 0 ∨ 8 < s → z = -1))
set_option maxRecDepth 100000 in
theorem t_vo_countOf {S : sS} (hH : HI S) (s : Int) (hs : -2147483648 ≤ s ∧ s ≤ 2147483647) (d : Nat) : Mt lay0 (d + 1) m_vo_countOf [.ref 1, iv s] S (Q_vo_countOf S s) := by
  refine Mt_R rfl rfl ?_
  refine l_iload_n rfl rfl ?_
  refine l_if_lt rfl rfl (by unfold rg; omega) (fun w1 => ?_) (fun w2 => ?_)
  · refine l_iconst rfl ?_
    refine l_ireturn rfl rfl ?_
    exact ⟨rfl, _, rfl, ⟨by omega, by omega⟩, (by first | assumption | omega), (by first | assumption | omega), (by first | assumption | omega)⟩
  · refine l_iload_n rfl rfl ?_
    refine l_aload_n rfl rfl ?_
    refine l_gfr rfl rfl rfl rfl rfl (hH.r 1 4 5 rfl) ?_
    refine l_alen (n := 9) (z := 9) rfl rfl rfl rfl rfl ?_
    refine l_icmp_ge rfl rfl (by unfold rg; omega) (by unfold rg; omega) (fun w3 => ?_) (fun w4 => ?_)
    · refine l_iconst rfl ?_
      refine l_ireturn rfl rfl ?_
      exact ⟨rfl, _, rfl, ⟨by omega, by omega⟩, (by first | assumption | omega), (by first | assumption | omega), (by first | assumption | omega)⟩
    · refine l_aload_n rfl rfl ?_
      refine l_gfr rfl rfl rfl rfl rfl (hH.r 1 4 5 rfl) ?_
      refine l_iload_n rfl rfl ?_
      refine l_iaload (n := 9) rfl rfl (by omega) (by omega) (by unfold rg; omega) ?_
      have w5 : -2147483648 ≤ (Xi S 5 ((s).toNat)) ∧ (Xi S 5 ((s).toNat)) ≤ 2147483647 := Xi_rgI
      have hcr := cnt_rg hH (by omega) (by omega) _ (Eq.refl (Xi S 5 s.toNat))
      refine l_goto rfl rfl ?_
      refine l_ireturn rfl rfl ?_
      exact ⟨rfl, _, rfl, ⟨by omega, by omega⟩, (by first | assumption | omega), (by first | assumption | omega), (by first | assumption | omega)⟩
abbrev Q_vo_isKind (S : sS) (kind : Int) (other : Int) : pst := fun r S1 => S = S1 ∧ (∃ z : Int, r = some (iv z) ∧ (0 ≤ z ∧ z ≤ 1) ∧ (z = isK S kind other))
set_option maxRecDepth 100000 in
theorem t_vo_isKind {S : sS} (hH : HI S) (kind : Int) (other : Int) (hkind : -1 ≤ kind ∧ kind ≤ 15) (hother : -2147483648 ≤ other ∧ other ≤ 2147483647) (d : Nat) : Mt lay0 (d + 1) m_vo_isKind [.ref 1, iv kind, iv other] S (Q_vo_isKind S kind other) := by
  refine Mt_R rfl rfl ?_
  have C5 : ∀ (n5 : Nat) (v3 : Int) (v4 : Int), (-1 ≤ v3 ∧ v3 ≤ 15) → (0 ≤ v4 ∧ v4 ≤ 16) → (isK S kind other = isKn S other (16 - v4).toNat v3) → n5 = (17 - v4).toNat → Rl lay0 (d + 0) m_vo_isKind 5 [(0, .ref 1), (2, iv other), (3, iv v3), (4, iv v4)] [] S (Q_vo_isKind S kind other) := by
    intro n5
    induction n5 using Nat.strongRecOn with
    | ind n5 ih5 =>
      intro v3 v4 w1 w2 hq hm5
      refine l_iload rfl rfl ?_
      refine l_bipush rfl rfl ?_
      refine l_icmp_ge rfl rfl (by unfold rg; omega) (by unfold rg; omega) (fun w3 => ?_) (fun w4 => ?_)
      · refine l_iconst rfl ?_
        refine l_ireturn rfl rfl ?_
        exact ⟨rfl, _, rfl, ⟨by omega, by omega⟩, (by first | exact (hq.trans (isKn_f (by omega) (by omega) (by omega))).symm | exact (hq.trans (isKn_e (by omega))).symm)⟩
      · refine l_iload_n rfl rfl ?_
        refine l_if_lt rfl rfl (by unfold rg; omega) (fun w5 => ?_) (fun w6 => ?_)
        · refine l_iconst rfl ?_
          refine l_ireturn rfl rfl ?_
          exact ⟨rfl, _, rfl, ⟨by omega, by omega⟩, (by first | exact (hq.trans (isKn_f (by omega) (by omega) (by omega))).symm | exact (hq.trans (isKn_e (by omega))).symm)⟩
        · refine l_iload_n rfl rfl ?_
          refine l_iload_n rfl rfl ?_
          refine l_icmp_ne rfl rfl (by unfold rg; omega) (by unfold rg; omega) (fun w7 => ?_) (fun w8 => ?_)
          · refine l_aload_n rfl rfl ?_
            refine l_gfr rfl rfl rfl rfl rfl (hH.r 1 5 6 rfl) ?_
            refine l_iload_n rfl rfl ?_
            refine l_iaload (n := 16) rfl rfl (by omega) (by omega) (by unfold rg; omega) ?_
            have w9 : -1 ≤ (Xi S 6 ((v3).toNat)) ∧ (Xi S 6 ((v3).toNat)) ≤ 15 := hH.c _ _
            refine l_istore_n rfl rfl rfl ?_
            refine l_iinc rfl rfl rfl rfl ?_
            refine l_goto rfl rfl ?_
            exact Rl_weak (ih5 _ (by omega) ((Xi S 6 ((v3).toNat))) ((v4 + 1)) (by omega) (by omega) (by first | exact hq.trans (isKn_s (by omega) (by omega) (by omega)) | rfl) rfl) (And.intro rfl (And.intro rfl (And.intro rfl (And.intro rfl (True.intro)))))
          · refine l_iconst rfl ?_
            refine l_ireturn rfl rfl ?_
            exact ⟨rfl, _, rfl, ⟨by omega, by omega⟩, (by first | exact (hq.trans (isKn_f (by omega) (by omega) (by omega))).symm | exact (hq.trans (isKn_e (by omega))).symm)⟩
  refine l_iload_n rfl rfl ?_
  refine l_istore_n rfl rfl rfl ?_
  refine l_iconst rfl ?_
  refine l_istore rfl rfl rfl ?_
  exact Rl_weak (C5 _ (kind) (0) (by omega) (by omega) (by first | exact hq.trans (isKn_s (by omega) (by omega) (by omega)) | rfl) rfl) (And.intro rfl (And.intro rfl (And.intro rfl (And.intro rfl (True.intro)))))
abbrev Q_wo_isA (S : sS) (o : Int) (kind : Int) : pst := fun r S1 => S = S1 ∧ (∃ z : Int, r = some (iv z) ∧ (0 ≤ z ∧ z ≤ 1) ∧ (z = isK S (Xi S 21 o.toNat) kind))
set_option maxRecDepth 100000 in
theorem t_wo_isA {S : sS} (hH : HI S) (o : Int) (kind : Int) (ho : 0 ≤ o ∧ o ≤ 23) (hkind : -2147483648 ≤ kind ∧ kind ≤ 2147483647) (d : Nat) : Mt lay0 (d + 2) m_wo_isA [.ref 20, iv o, iv kind] S (Q_wo_isA S o kind) := by
  refine Mt_R rfl rfl ?_
  refine l_aload_n rfl rfl ?_
  refine l_gfr rfl rfl rfl rfl rfl (hH.r 20 0 1 rfl) ?_
  refine l_aload_n rfl rfl ?_
  refine l_gfr rfl rfl rfl rfl rfl (hH.r 20 2 21 rfl) ?_
  refine l_iload_n rfl rfl ?_
  refine l_iaload (n := 24) rfl rfl (by omega) (by omega) (by unfold rg; omega) ?_
  have w1 : 0 ≤ (Xi S 21 ((o).toNat)) ∧ (Xi S 21 ((o).toNat)) ≤ 15 := hH.c _ _
  refine l_iload_n rfl rfl ?_
  refine l_callV rfl rfl rfl (t_vo_isKind hH (Xi S 21 ((o).toNat)) kind ⟨by omega, by omega⟩ ⟨by omega, by omega⟩ _) ?_
  rintro _ _ ⟨rfl, z3, rfl, w3, w2⟩
  show Rl _ _ _ _ _ [iv z3] _ _
  refine l_ireturn rfl (retI_z (by omega)) ?_
  exact ⟨rfl, _, rfl, ⟨by omega, by omega⟩, (by first | assumption | omega)⟩
abbrev Q_bo_clauseAt (S : sS) (i : Int) : pst := fun r S1 => S = S1 ∧ (∃ z : Nat, r = some (.ref (276 + z)) ∧ z < 600 ∧ (0 ≤ i → i < 600 → (z : Int) = i))
set_option maxRecDepth 100000 in
theorem t_bo_clauseAt {S : sS} (hH : HI S) (i : Int) (hi : -2147483648 ≤ i ∧ i ≤ 2147483647) (d : Nat) : Mt lay0 (d + 1) m_bo_clauseAt [.ref 246, iv i] S (Q_bo_clauseAt S i) := by
  refine Mt_R rfl rfl ?_
  refine l_aload_n rfl rfl ?_
  refine l_gfr rfl rfl rfl rfl rfl (hH.r 246 4 273 rfl) ?_
  refine l_iload_n rfl rfl ?_
  refine l_if_lt rfl rfl (by unfold rg; omega) (fun w1 => ?_) (fun w2 => ?_)
  · refine l_sipush rfl rfl ?_
    refine l_aaload (n := 600) (a := 276 + (599 : Int).toNat) rfl rfl (by decide) (by omega) (by omega) (by unfold rg; omega) (RW_273 hH (by omega)) ?_
    refine l_areturn rfl rfl ?_
    exact ⟨rfl, _, rfl, (by omega), (by first | assumption | omega)⟩
  · refine l_iload_n rfl rfl ?_
    refine l_sipush rfl rfl ?_
    refine l_icmp_ge rfl rfl (by unfold rg; omega) (by unfold rg; omega) (fun w3 => ?_) (fun w4 => ?_)
    · refine l_sipush rfl rfl ?_
      refine l_aaload (n := 600) (a := 276 + (599 : Int).toNat) rfl rfl (by decide) (by omega) (by omega) (by unfold rg; omega) (RW_273 hH (by omega)) ?_
      refine l_areturn rfl rfl ?_
      exact ⟨rfl, _, rfl, (by omega), (by first | assumption | omega)⟩
    · refine l_iload_n rfl rfl ?_
      refine l_goto rfl rfl ?_
      refine l_aaload (n := 600) (a := 276 + (i).toNat) rfl rfl (by decide) (by omega) (by omega) (by unfold rg; omega) (RW_273 hH (by omega)) ?_
      refine l_areturn rfl rfl ?_
      exact ⟨rfl, _, rfl, (by omega), (by first | assumption | omega)⟩
abbrev Q_tu_whoIs (S : sS) (who : Int) (self : Int) : pst := fun r S1 => S = S1 ∧ (∃ z : Int, r = some (iv z) ∧ (-2 ≤ z ∧ z ≤ 23) ∧ ((who = -2 → z = self) ∧ (who ≠ -2 → z = who)))
set_option maxRecDepth 100000 in
theorem t_tu_whoIs {S : sS} (hH : HI S) (who : Int) (self : Int) (hwho : -2 ≤ who ∧ who ≤ 23) (hself : -1 ≤ self ∧ self ≤ 23) (d : Nat) : Mt lay0 (d + 1) m_tu_whoIs [iv who, iv self] S (Q_tu_whoIs S who self) := by
  refine Mt_R rfl rfl ?_
  refine l_iload_n rfl rfl ?_
  refine l_bipush rfl rfl ?_
  refine l_icmp_ne rfl rfl (by unfold rg; omega) (by unfold rg; omega) (fun w1 => ?_) (fun w2 => ?_)
  · refine l_iload_n rfl rfl ?_
    refine l_ireturn rfl rfl ?_
    exact ⟨rfl, _, rfl, ⟨by omega, by omega⟩, (by first | assumption | omega)⟩
  · refine l_iload_n rfl rfl ?_
    refine l_goto rfl rfl ?_
    refine l_ireturn rfl rfl ?_
    exact ⟨rfl, _, rfl, ⟨by omega, by omega⟩, (by first | assumption | omega)⟩
abbrev Q_wo_hasAdjective (S : sS) (o : Int) (a : Int) : pst := fun r S1 => S = S1 ∧ (∃ z : Int, r = some (iv z) ∧ (0 ≤ z ∧ z ≤ 1) ∧ (z = hasA S o a))
set_option maxRecDepth 100000 in
theorem t_wo_hasAdjective {S : sS} (hH : HI S) (o : Int) (a : Int) (ho : 0 ≤ o ∧ o ≤ 23) (ha : 0 ≤ a ∧ a ≤ 23) (d : Nat) : Mt lay0 (d + 1) m_wo_hasAdjective [.ref 20, iv o, iv a] S (Q_wo_hasAdjective S o a) := by
  refine Mt_R rfl rfl ?_
  have C20 : ∀ (n20 : Nat) (v3 : Int) (v4 : Int) (v5 : Int), (-2147483648 ≤ v3 ∧ v3 ≤ 2147483647) → (-1 ≤ v4 ∧ v4 ≤ 15) → (0 ≤ v5 ∧ v5 ≤ 16) → (hasS S o a.toNat = hasn S a.toNat (16 - v5).toNat v4 v3) → n20 = (17 - v5).toNat → Rl lay0 (d + 0) m_wo_hasAdjective 20 [(0, .ref 20), (2, iv a), (3, iv v3), (4, iv v4), (5, iv v5)] [] S (Q_wo_hasAdjective S o a) := by
    intro n20
    induction n20 using Nat.strongRecOn with
    | ind n20 ih20 =>
      intro v3 v4 v5 w1 w2 w3 hq hm20
      have C67 : ∀  (v3 : Int), (-2147483648 ≤ v3 ∧ v3 ≤ 2147483647) → (hasS S o a.toNat = v3) → Rl lay0 (d + 0) m_wo_hasAdjective 67 [(0, .ref 20), (2, iv a), (3, iv v3)] [] S (Q_wo_hasAdjective S o a) := by
        intro v3 w4 hq67
        refine l_iload_n rfl rfl ?_
        refine l_if_eq rfl rfl (by unfold rg; omega) (fun w5 => ?_) (fun w6 => ?_)
        · refine l_aload_n rfl rfl ?_
          refine l_gfr rfl rfl rfl rfl rfl (hH.r 20 0 1 rfl) ?_
          refine l_gfr rfl rfl rfl rfl rfl (hH.r 1 10 11 rfl) ?_
          refine l_iload_n rfl rfl ?_
          refine l_iaload (n := 24) rfl rfl (by omega) (by omega) (by unfold rg; omega) ?_
          have w7 : -1 ≤ (Xi S 11 ((a).toNat)) ∧ (Xi S 11 ((a).toNat)) ≤ 23 := hH.c _ _
          refine l_iload_n rfl rfl ?_
          refine l_icmp_ge rfl rfl (by unfold rg; omega) (by unfold rg; omega) (fun w8 => ?_) (fun w9 => ?_)
          · refine l_iconst rfl ?_
            refine l_ireturn rfl rfl ?_
            exact ⟨rfl, _, rfl, ⟨by omega, by omega⟩, (by first | (rw [hasA_s hq67 (by omega)]; exact (if_pos (by omega)).symm) | (rw [hasA_s hq67 (by omega)]; exact (if_neg (by omega)).symm) | (rw [hasA_0 hq67 (by omega)]; exact (if_pos (by omega)).symm) | (rw [hasA_0 hq67 (by omega)]; exact (if_neg (by omega)).symm))⟩
          · refine l_iconst rfl ?_
            refine l_goto rfl rfl ?_
            refine l_ireturn rfl rfl ?_
            exact ⟨rfl, _, rfl, ⟨by omega, by omega⟩, (by first | (rw [hasA_s hq67 (by omega)]; exact (if_pos (by omega)).symm) | (rw [hasA_s hq67 (by omega)]; exact (if_neg (by omega)).symm) | (rw [hasA_0 hq67 (by omega)]; exact (if_pos (by omega)).symm) | (rw [hasA_0 hq67 (by omega)]; exact (if_neg (by omega)).symm))⟩
        · refine l_iload_n rfl rfl ?_
          refine l_if_le rfl rfl (by unfold rg; omega) (fun w10 => ?_) (fun w11 => ?_)
          · refine l_iconst rfl ?_
            refine l_goto rfl rfl ?_
            refine l_ireturn rfl rfl ?_
            exact ⟨rfl, _, rfl, ⟨by omega, by omega⟩, (by first | (rw [hasA_s hq67 (by omega)]; exact (if_pos (by omega)).symm) | (rw [hasA_s hq67 (by omega)]; exact (if_neg (by omega)).symm) | (rw [hasA_0 hq67 (by omega)]; exact (if_pos (by omega)).symm) | (rw [hasA_0 hq67 (by omega)]; exact (if_neg (by omega)).symm))⟩
          · refine l_iconst rfl ?_
            refine l_goto rfl rfl ?_
            refine l_ireturn rfl rfl ?_
            exact ⟨rfl, _, rfl, ⟨by omega, by omega⟩, (by first | (rw [hasA_s hq67 (by omega)]; exact (if_pos (by omega)).symm) | (rw [hasA_s hq67 (by omega)]; exact (if_neg (by omega)).symm) | (rw [hasA_0 hq67 (by omega)]; exact (if_pos (by omega)).symm) | (rw [hasA_0 hq67 (by omega)]; exact (if_neg (by omega)).symm))⟩
      refine l_iload rfl rfl ?_
      refine l_bipush rfl rfl ?_
      refine l_icmp_ge rfl rfl (by unfold rg; omega) (by unfold rg; omega) (fun w12 => ?_) (fun w13 => ?_)
      · exact Rl_weak (C67 (v3) (by omega) (hq.trans (hasn_e (by omega)))) (And.intro rfl (And.intro rfl (And.intro rfl (True.intro))))
      · refine l_iload rfl rfl ?_
        refine l_if_lt rfl rfl (by unfold rg; omega) (fun w14 => ?_) (fun w15 => ?_)
        · exact Rl_weak (C67 (v3) (by omega) (hq.trans (hasn_e (by omega)))) (And.intro rfl (And.intro rfl (And.intro rfl (True.intro))))
        · refine l_iload_n rfl rfl ?_
          refine l_if_ne rfl rfl (by unfold rg; omega) (fun w16 => ?_) (fun w17 => ?_)
          · exact Rl_weak (C67 (v3) (by omega) (hq.trans (hasn_e (by omega)))) (And.intro rfl (And.intro rfl (And.intro rfl (True.intro))))
          · refine l_aload_n rfl rfl ?_
            refine l_gfr rfl rfl rfl rfl rfl (hH.r 20 5 24 rfl) ?_
            refine l_bipush rfl rfl ?_
            refine l_iload rfl rfl ?_
            refine l_iadd rfl ?_
            refine l_aaload (n := 40) (a := 25 + ((24 + v4)).toNat) rfl rfl (by decide) (by omega) (by omega) (by unfold rg; omega) (RW_24 hH (by omega)) ?_
            refine l_iload_n rfl rfl ?_
            refine l_iaload (n := 24) rfl (lay_25 (by omega)) (by omega) (by omega) (by unfold rg; omega) ?_
            have w18 : -2147483648 ≤ (Xi S (25 + ((24 + v4)).toNat) ((a).toNat)) ∧ (Xi S (25 + ((24 + v4)).toNat) ((a).toNat)) ≤ 2147483647 := Xi_rgI
            refine l_istore_n rfl rfl rfl ?_
            refine l_aload_n rfl rfl ?_
            refine l_gfr rfl rfl rfl rfl rfl (hH.r 20 0 1 rfl) ?_
            refine l_gfr rfl rfl rfl rfl rfl (hH.r 1 5 6 rfl) ?_
            refine l_iload rfl rfl ?_
            refine l_iaload (n := 16) rfl rfl (by omega) (by omega) (by unfold rg; omega) ?_
            have w19 : -1 ≤ (Xi S 6 ((v4).toNat)) ∧ (Xi S 6 ((v4).toNat)) ≤ 15 := hH.c _ _
            refine l_istore rfl rfl rfl ?_
            refine l_iinc rfl rfl rfl rfl ?_
            refine l_goto rfl rfl ?_
            exact Rl_weak (ih20 _ (by omega) ((Xi S (25 + ((24 + v4)).toNat) ((a).toNat))) ((Xi S 6 ((v4).toNat))) ((v5 + 1)) (by omega) (by omega) (by omega) (by first | exact hq.trans (hasn_s (by omega) (by omega) (by omega)) | rfl) rfl) (And.intro rfl (And.intro rfl (And.intro rfl (And.intro rfl (And.intro rfl (True.intro))))))
  refine l_aload_n rfl rfl ?_
  refine l_gfr rfl rfl rfl rfl rfl (hH.r 20 5 24 rfl) ?_
  refine l_iload_n rfl rfl ?_
  refine l_aaload (n := 40) (a := 25 + (o).toNat) rfl rfl (by decide) (by omega) (by omega) (by unfold rg; omega) (RW_24 hH (by omega)) ?_
  refine l_iload_n rfl rfl ?_
  refine l_iaload (n := 24) rfl (lay_25 (by omega)) (by omega) (by omega) (by unfold rg; omega) ?_
  have w20 : -2147483648 ≤ (Xi S (25 + (o).toNat) ((a).toNat)) ∧ (Xi S (25 + (o).toNat) ((a).toNat)) ≤ 2147483647 := Xi_rgI
  refine l_istore_n rfl rfl rfl ?_
  refine l_aload_n rfl rfl ?_
  refine l_gfr rfl rfl rfl rfl rfl (hH.r 20 2 21 rfl) ?_
  refine l_iload_n rfl rfl ?_
  refine l_iaload (n := 24) rfl rfl (by omega) (by omega) (by unfold rg; omega) ?_
  have w21 : 0 ≤ (Xi S 21 ((o).toNat)) ∧ (Xi S 21 ((o).toNat)) ≤ 15 := hH.c _ _
  refine l_istore rfl rfl rfl ?_
  refine l_iconst rfl ?_
  refine l_istore rfl rfl rfl ?_
  exact Rl_weak (C20 _ ((Xi S (25 + (o).toNat) ((a).toNat))) ((Xi S 21 ((o).toNat))) (0) (by omega) (by omega) (by omega) (by first | exact hq.trans (hasn_s (by omega) (by omega) (by omega)) | rfl) rfl) (And.intro rfl (And.intro rfl (And.intro rfl (And.intro rfl (And.intro rfl (True.intro))))))
abbrev Q_wo_tellingRow (S : sS) (o : Int) (p : Int) : pst := fun r S1 => S = S1 ∧ (∃ z : Int, r = some (iv z) ∧ (-1 ≤ z ∧ z ≤ 39) ∧ (z = trw S o p.toNat))
set_option maxRecDepth 100000 in
theorem t_wo_tellingRow {S : sS} (hH : HI S) (o : Int) (p : Int) (ho : 0 ≤ o ∧ o ≤ 23) (hp : 0 ≤ p ∧ p ≤ 11) (d : Nat) : Mt lay0 (d + 1) m_wo_tellingRow [.ref 20, iv o, iv p] S (Q_wo_tellingRow S o p) := by
  refine Mt_R rfl rfl ?_
  have C23 : ∀ (n23 : Nat) (v3 : Int) (v4 : Int), (-1 ≤ v3 ∧ v3 ≤ 15) → (0 ≤ v4 ∧ v4 ≤ 16) → (trw S o p.toNat = trwn S p.toNat (16 - v4).toNat v3) → n23 = (17 - v4).toNat → Rl lay0 (d + 0) m_wo_tellingRow 23 [(0, .ref 20), (2, iv p), (3, iv v3), (4, iv v4)] [] S (Q_wo_tellingRow S o p) := by
    intro n23
    induction n23 using Nat.strongRecOn with
    | ind n23 ih23 =>
      intro v3 v4 w1 w2 hq hm23
      refine l_iload rfl rfl ?_
      refine l_bipush rfl rfl ?_
      refine l_icmp_ge rfl rfl (by unfold rg; omega) (by unfold rg; omega) (fun w3 => ?_) (fun w4 => ?_)
      · refine l_iconst rfl ?_
        refine l_ireturn rfl rfl ?_
        exact ⟨rfl, _, rfl, ⟨by omega, by omega⟩, (by first | exact trw_1 (by omega) | exact (hq.trans (trwn_f (by omega) (by omega) (by omega))).symm | exact (hq.trans (trwn_e (by omega))).symm)⟩
      · refine l_iload_n rfl rfl ?_
        refine l_if_lt rfl rfl (by unfold rg; omega) (fun w5 => ?_) (fun w6 => ?_)
        · refine l_iconst rfl ?_
          refine l_ireturn rfl rfl ?_
          exact ⟨rfl, _, rfl, ⟨by omega, by omega⟩, (by first | exact trw_1 (by omega) | exact (hq.trans (trwn_f (by omega) (by omega) (by omega))).symm | exact (hq.trans (trwn_e (by omega))).symm)⟩
        · refine l_aload_n rfl rfl ?_
          refine l_gfr rfl rfl rfl rfl rfl (hH.r 20 6 65 rfl) ?_
          refine l_bipush rfl rfl ?_
          refine l_iload_n rfl rfl ?_
          refine l_iadd rfl ?_
          refine l_aaload (n := 40) (a := 66 + ((24 + v3)).toNat) rfl rfl (by decide) (by omega) (by omega) (by unfold rg; omega) (RW_65 hH (by omega)) ?_
          refine l_iload_n rfl rfl ?_
          refine l_iaload (n := 12) rfl (lay_66 (by omega)) (by omega) (by omega) (by unfold rg; omega) ?_
          have w7 : -2147483648 ≤ (Xi S (66 + ((24 + v3)).toNat) ((p).toNat)) ∧ (Xi S (66 + ((24 + v3)).toNat) ((p).toNat)) ≤ 2147483647 := Xi_rgI
          refine l_if_eq rfl rfl (by unfold rg; omega) (fun w8 => ?_) (fun w9 => ?_)
          · refine l_aload_n rfl rfl ?_
            refine l_gfr rfl rfl rfl rfl rfl (hH.r 20 0 1 rfl) ?_
            refine l_gfr rfl rfl rfl rfl rfl (hH.r 1 5 6 rfl) ?_
            refine l_iload_n rfl rfl ?_
            refine l_iaload (n := 16) rfl rfl (by omega) (by omega) (by unfold rg; omega) ?_
            have w10 : -1 ≤ (Xi S 6 ((v3).toNat)) ∧ (Xi S 6 ((v3).toNat)) ≤ 15 := hH.c _ _
            refine l_istore_n rfl rfl rfl ?_
            refine l_iinc rfl rfl rfl rfl ?_
            refine l_goto rfl rfl ?_
            exact Rl_weak (ih23 _ (by omega) ((Xi S 6 ((v3).toNat))) ((v4 + 1)) (by omega) (by omega) (by first | exact hq.trans (trwn_s (by omega) (by omega) (by omega)) | exact trw_0 (by omega)) rfl) (And.intro rfl (And.intro rfl (And.intro rfl (And.intro rfl (True.intro)))))
          · refine l_bipush rfl rfl ?_
            refine l_iload_n rfl rfl ?_
            refine l_iadd rfl ?_
            refine l_ireturn rfl rfl ?_
            exact ⟨rfl, _, rfl, ⟨by omega, by omega⟩, (by first | exact trw_1 (by omega) | exact (hq.trans (trwn_f (by omega) (by omega) (by omega))).symm | exact (hq.trans (trwn_e (by omega))).symm)⟩
  refine l_aload_n rfl rfl ?_
  refine l_gfr rfl rfl rfl rfl rfl (hH.r 20 6 65 rfl) ?_
  refine l_iload_n rfl rfl ?_
  refine l_aaload (n := 40) (a := 66 + (o).toNat) rfl rfl (by decide) (by omega) (by omega) (by unfold rg; omega) (RW_65 hH (by omega)) ?_
  refine l_iload_n rfl rfl ?_
  refine l_iaload (n := 12) rfl (lay_66 (by omega)) (by omega) (by omega) (by unfold rg; omega) ?_
  have w11 : -2147483648 ≤ (Xi S (66 + (o).toNat) ((p).toNat)) ∧ (Xi S (66 + (o).toNat) ((p).toNat)) ≤ 2147483647 := Xi_rgI
  refine l_if_eq rfl rfl (by unfold rg; omega) (fun w12 => ?_) (fun w13 => ?_)
  · refine l_aload_n rfl rfl ?_
    refine l_gfr rfl rfl rfl rfl rfl (hH.r 20 2 21 rfl) ?_
    refine l_iload_n rfl rfl ?_
    refine l_iaload (n := 24) rfl rfl (by omega) (by omega) (by unfold rg; omega) ?_
    have w14 : 0 ≤ (Xi S 21 ((o).toNat)) ∧ (Xi S 21 ((o).toNat)) ≤ 15 := hH.c _ _
    refine l_istore_n rfl rfl rfl ?_
    refine l_iconst rfl ?_
    refine l_istore rfl rfl rfl ?_
    exact Rl_weak (C23 _ ((Xi S 21 ((o).toNat))) (0) (by omega) (by omega) (by first | exact hq.trans (trwn_s (by omega) (by omega) (by omega)) | exact trw_0 (by omega)) rfl) (And.intro rfl (And.intro rfl (And.intro rfl (And.intro rfl (True.intro)))))
  · refine l_iload_n rfl rfl ?_
    refine l_ireturn rfl rfl ?_
    exact ⟨rfl, _, rfl, ⟨by omega, by omega⟩, (by first | exact trw_1 (by omega) | exact (hq.trans (trwn_f (by omega) (by omega) (by omega))).symm | exact (hq.trans (trwn_e (by omega))).symm)⟩
abbrev Q_vo_firstValueOf (S : sS) (t : Int) : pst := fun r S1 => S = S1 ∧ (∃ z : Int, r = some (iv z) ∧ (-1 ≤ z ∧ z ≤ 63) ∧ (z = fvo S t))
set_option maxRecDepth 100000 in
theorem t_vo_firstValueOf {S : sS} (hH : HI S) (t : Int) (ht : -2147483648 ≤ t ∧ t ≤ 2147483647) (d : Nat) : Mt lay0 (d + 1) m_vo_firstValueOf [.ref 1, iv t] S (Q_vo_firstValueOf S t) := by
  refine Mt_R rfl rfl ?_
  have w1 : 0 ≤ Xi S 5 4 ∧ Xi S 5 4 ≤ 64 := hH.c _ _
  have C2 : ∀ (n2 : Nat) (v2 : Int), (0 ≤ v2 ∧ v2 ≤ 64) → (fvo S t = fvn S t (Xi S 5 4 - v2).toNat v2) → n2 = (65 - v2).toNat → Rl lay0 (d + 0) m_vo_firstValueOf 2 [(0, .ref 1), (1, iv t), (2, iv v2)] [] S (Q_vo_firstValueOf S t) := by
    intro n2
    induction n2 using Nat.strongRecOn with
    | ind n2 ih2 =>
      intro v2 w2 hq hm2
      refine l_iload_n rfl rfl ?_
      refine l_aload_n rfl rfl ?_
      refine l_gfr rfl rfl rfl rfl rfl (hH.r 1 4 5 rfl) ?_
      refine l_iconst rfl ?_
      refine l_iaload (n := 9) rfl rfl (by omega) (by omega) (by unfold rg; omega) ?_
      have w3 : 0 ≤ (Xi S 5 ((4 : Int).toNat)) ∧ (Xi S 5 ((4 : Int).toNat)) ≤ 64 := hH.c _ _
      have w4 : (Xi S 5 ((4 : Int).toNat)) = Xi S 5 4 := rfl
      refine l_icmp_ge rfl rfl (by unfold rg; omega) (by unfold rg; omega) (fun w5 => ?_) (fun w6 => ?_)
      · refine l_iconst rfl ?_
        refine l_ireturn rfl rfl ?_
        exact ⟨rfl, _, rfl, ⟨by omega, by omega⟩, (by first | exact (hq.trans (fvn_f (by omega) (by omega))).symm | exact (hq.trans (fvn_e (by omega))).symm)⟩
      · refine l_aload_n rfl rfl ?_
        refine l_gfr rfl rfl rfl rfl rfl (hH.r 1 7 8 rfl) ?_
        refine l_iload_n rfl rfl ?_
        refine l_iaload (n := 64) rfl rfl (by omega) (by omega) (by unfold rg; omega) ?_
        have w7 : 0 ≤ (Xi S 8 ((v2).toNat)) ∧ (Xi S 8 ((v2).toNat)) ≤ 7 := hH.c _ _
        refine l_iload_n rfl rfl ?_
        refine l_icmp_ne rfl rfl (by unfold rg; omega) (by unfold rg; omega) (fun w8 => ?_) (fun w9 => ?_)
        · refine l_iinc rfl rfl rfl rfl ?_
          refine l_goto rfl rfl ?_
          exact Rl_weak (ih2 _ (by omega) ((v2 + 1)) (by omega) (by first | exact hq.trans (fvn_s (by omega) (by omega)) | exact (show fvo S t = fvn S t (Xi S 5 4 - 0).toNat 0 by unfold fvo; rw [Int.sub_zero])) rfl) (And.intro rfl (And.intro rfl (And.intro rfl (True.intro))))
        · refine l_iload_n rfl rfl ?_
          refine l_ireturn rfl rfl ?_
          exact ⟨rfl, _, rfl, ⟨by omega, by omega⟩, (by first | exact (hq.trans (fvn_f (by omega) (by omega))).symm | exact (hq.trans (fvn_e (by omega))).symm)⟩
  refine l_iconst rfl ?_
  refine l_istore_n rfl rfl rfl ?_
  exact Rl_weak (C2 _ (0) (by omega) (by first | exact hq.trans (fvn_s (by omega) (by omega)) | exact (show fvo S t = fvn S t (Xi S 5 4 - 0).toNat 0 by unfold fvo; rw [Int.sub_zero])) rfl) (And.intro rfl (And.intro rfl (And.intro rfl (True.intro))))
abbrev Q_wo_valueOf (S : sS) (o : Int) (p : Int) : pst := fun r S1 => S = S1 ∧ (∃ z : Int, r = some (iv z) ∧ (-2147483648 ≤ z ∧ z ≤ 2147483647) ∧ (z = vof S o p.toNat))
set_option maxRecDepth 100000 in
theorem t_wo_valueOf {S : sS} (hH : HI S) (o : Int) (p : Int) (ho : 0 ≤ o ∧ o ≤ 23) (hp : 0 ≤ p ∧ p ≤ 11) (d : Nat) : Mt lay0 (d + 2) m_wo_valueOf [.ref 20, iv o, iv p] S (Q_wo_valueOf S o p) := by
  refine Mt_R rfl rfl ?_
  refine l_aload_n rfl rfl ?_
  refine l_iload_n rfl rfl ?_
  refine l_iload_n rfl rfl ?_
  refine l_callV rfl rfl rfl (t_wo_tellingRow hH o p ⟨by omega, by omega⟩ ⟨by omega, by omega⟩ _) ?_
  rintro _ _ ⟨rfl, z2, rfl, w2, w1⟩
  show Rl _ _ _ _ _ [iv z2] _ _
  refine l_istore_n rfl rfl rfl ?_
  refine l_iload_n rfl rfl ?_
  refine l_iconst rfl ?_
  refine l_icmp_eq rfl rfl (by unfold rg; omega) (by unfold rg; omega) (fun w3 => ?_) (fun w4 => ?_)
  · refine l_aload_n rfl rfl ?_
    refine l_gfr rfl rfl rfl rfl rfl (hH.r 20 0 1 rfl) ?_
    refine l_gfr rfl rfl rfl rfl rfl (hH.r 1 8 9 rfl) ?_
    refine l_iload_n rfl rfl ?_
    refine l_iaload (n := 12) rfl rfl (by omega) (by omega) (by unfold rg; omega) ?_
    have w5 : 0 ≤ (Xi S 9 ((p).toNat)) ∧ (Xi S 9 ((p).toNat)) ≤ 7 := hH.c _ _
    refine l_istore rfl rfl rfl ?_
    refine l_iload rfl rfl ?_
    refine l_if_eq rfl rfl (by unfold rg; omega) (fun w6 => ?_) (fun w7 => ?_)
    · refine l_iconst rfl ?_
      refine l_goto rfl rfl ?_
      refine l_ireturn rfl rfl ?_
      exact ⟨rfl, _, rfl, ⟨by omega, by omega⟩, (by first | exact vof_r (by assumption) (by omega) | exact vof_0 (by assumption) (by omega) (by omega) | exact vof_f (by assumption) (by omega) (by omega) (by assumption))⟩
    · refine l_iload rfl rfl ?_
      refine l_iconst rfl ?_
      refine l_icmp_ne rfl rfl (by unfold rg; omega) (by unfold rg; omega) (fun w8 => ?_) (fun w9 => ?_)
      · refine l_aload_n rfl rfl ?_
        refine l_gfr rfl rfl rfl rfl rfl (hH.r 20 0 1 rfl) ?_
        refine l_iload rfl rfl ?_
        refine l_callV rfl rfl rfl (t_vo_firstValueOf hH (Xi S 9 ((p).toNat)) ⟨by omega, by omega⟩ _) ?_
        rintro _ _ ⟨rfl, z11, rfl, w11, w10⟩
        show Rl _ _ _ _ _ [iv z11] _ _
        refine l_ireturn rfl rfl ?_
        exact ⟨rfl, _, rfl, ⟨by omega, by omega⟩, (by first | exact vof_r (by assumption) (by omega) | exact vof_0 (by assumption) (by omega) (by omega) | exact vof_f (by assumption) (by omega) (by omega) (by assumption))⟩
      · refine l_iconst rfl ?_
        refine l_goto rfl rfl ?_
        refine l_ireturn rfl rfl ?_
        exact ⟨rfl, _, rfl, ⟨by omega, by omega⟩, (by first | exact vof_r (by assumption) (by omega) | exact vof_0 (by assumption) (by omega) (by omega) | exact vof_f (by assumption) (by omega) (by omega) (by assumption))⟩
  · refine l_aload_n rfl rfl ?_
    refine l_gfr rfl rfl rfl rfl rfl (hH.r 20 7 106 rfl) ?_
    refine l_iload_n rfl rfl ?_
    refine l_aaload (n := 40) (a := 107 + (z2).toNat) rfl rfl (by decide) (by omega) (by omega) (by unfold rg; omega) (RW_106 hH (by omega)) ?_
    refine l_iload_n rfl rfl ?_
    refine l_iaload (n := 12) rfl (lay_107 (by omega)) (by omega) (by omega) (by unfold rg; omega) ?_
    have w12 : -2147483648 ≤ (Xi S (107 + (z2).toNat) ((p).toNat)) ∧ (Xi S (107 + (z2).toNat) ((p).toNat)) ≤ 2147483647 := Xi_rgI
    refine l_ireturn rfl rfl ?_
    exact ⟨rfl, _, rfl, ⟨by omega, by omega⟩, (by first | exact vof_r (by assumption) (by omega) | exact vof_0 (by assumption) (by omega) (by omega) | exact vof_f (by assumption) (by omega) (by omega) (by assumption))⟩
abbrev Q_wo_lengthOf (S : sS) (o : Int) (p : Int) : pst := fun r S1 => S = S1 ∧ (∃ z : Int, r = some (iv z) ∧ (-2147483648 ≤ z ∧ z ≤ 2147483647) ∧ (z = lof S o p.toNat))
set_option maxRecDepth 100000 in
theorem t_wo_lengthOf {S : sS} (hH : HI S) (o : Int) (p : Int) (ho : 0 ≤ o ∧ o ≤ 23) (hp : 0 ≤ p ∧ p ≤ 11) (d : Nat) : Mt lay0 (d + 2) m_wo_lengthOf [.ref 20, iv o, iv p] S (Q_wo_lengthOf S o p) := by
  refine Mt_R rfl rfl ?_
  refine l_aload_n rfl rfl ?_
  refine l_iload_n rfl rfl ?_
  refine l_iload_n rfl rfl ?_
  refine l_callV rfl rfl rfl (t_wo_tellingRow hH o p ⟨by omega, by omega⟩ ⟨by omega, by omega⟩ _) ?_
  rintro _ _ ⟨rfl, z2, rfl, w2, w1⟩
  show Rl _ _ _ _ _ [iv z2] _ _
  refine l_istore_n rfl rfl rfl ?_
  refine l_iload_n rfl rfl ?_
  refine l_iconst rfl ?_
  refine l_icmp_ne rfl rfl (by unfold rg; omega) (by unfold rg; omega) (fun w3 => ?_) (fun w4 => ?_)
  · refine l_aload_n rfl rfl ?_
    refine l_gfr rfl rfl rfl rfl rfl (hH.r 20 8 147 rfl) ?_
    refine l_iload_n rfl rfl ?_
    refine l_aaload (n := 40) (a := 148 + (z2).toNat) rfl rfl (by decide) (by omega) (by omega) (by unfold rg; omega) (RW_147 hH (by omega)) ?_
    refine l_iload_n rfl rfl ?_
    refine l_iaload (n := 12) rfl (lay_148 (by omega)) (by omega) (by omega) (by unfold rg; omega) ?_
    have w5 : -2147483648 ≤ (Xi S (148 + (z2).toNat) ((p).toNat)) ∧ (Xi S (148 + (z2).toNat) ((p).toNat)) ≤ 2147483647 := Xi_rgI
    refine l_ireturn rfl rfl ?_
    exact ⟨rfl, _, rfl, ⟨by omega, by omega⟩, (by first | exact lof_r (by assumption) (by omega) | exact lof_0 (by assumption) (by omega))⟩
  · refine l_iconst rfl ?_
    refine l_goto rfl rfl ?_
    refine l_ireturn rfl rfl ?_
    exact ⟨rfl, _, rfl, ⟨by omega, by omega⟩, (by first | exact lof_r (by assumption) (by omega) | exact lof_0 (by assumption) (by omega))⟩
abbrev Q_wo_isRelated (S : sS) (rl : Int) (a : Int) (b : Int) : pst := fun r S1 => S = S1 ∧ (∃ z : Int, r = some (iv z) ∧ (0 ≤ z ∧ z ≤ 1) ∧ (z = relF S rl a b))
set_option maxRecDepth 100000 in
theorem t_wo_isRelated {S : sS} (hH : HI S) (rl : Int) (a : Int) (b : Int) (hrl : 0 ≤ rl ∧ rl ≤ 5) (ha : 0 ≤ a ∧ a ≤ 23) (hb : 0 ≤ b ∧ b ≤ 23) (d : Nat) : Mt lay0 (d + 1) m_wo_isRelated [.ref 20, iv rl, iv a, iv b] S (Q_wo_isRelated S rl a b) := by
  refine Mt_R rfl rfl ?_
  refine l_aload_n rfl rfl ?_
  refine l_gfr rfl rfl rfl rfl rfl (hH.r 20 9 188 rfl) ?_
  refine l_iload_n rfl rfl ?_
  refine l_aaload (n := 6) (a := 189 + (rl).toNat) rfl rfl (by decide) (by omega) (by omega) (by unfold rg; omega) (RW_188 hH (by omega)) ?_
  refine l_iload_n rfl rfl ?_
  refine l_iaload (n := 24) rfl (lay_189 (by omega)) (by omega) (by omega) (by unfold rg; omega) ?_
  have w1 : -2147483648 ≤ (Xi S (189 + (rl).toNat) ((a).toNat)) ∧ (Xi S (189 + (rl).toNat) ((a).toNat)) ≤ 2147483647 := Xi_rgI
  refine l_iload_n rfl rfl ?_
  refine l_ishrF rfl ?_
  have w2 : -2147483648 ≤ (ishrF (Xi S (189 + (rl).toNat) ((a).toNat)) b) ∧ (ishrF (Xi S (189 + (rl).toNat) ((a).toNat)) b) ≤ 2147483647 := ishrF_rg
  refine l_iconst rfl ?_
  refine l_iandF rfl ?_
  have w3 : 0 ≤ (iandF (ishrF (Xi S (189 + (rl).toNat) ((a).toNat)) b) 1) ∧ (iandF (ishrF (Xi S (189 + (rl).toNat) ((a).toNat)) b) 1) ≤ 1 := iandF_le (by omega) (by unfold rg; omega)
  refine l_iconst rfl ?_
  refine l_icmp_ne rfl rfl (by unfold rg; omega) (by unfold rg; omega) (fun w4 => ?_) (fun w5 => ?_)
  · refine l_iconst rfl ?_
    refine l_ireturn rfl rfl ?_
    exact ⟨rfl, _, rfl, ⟨by omega, by omega⟩, (by unfold relF; first | exact (if_pos (by omega)).symm | exact (if_neg (by omega)).symm)⟩
  · refine l_iconst rfl ?_
    refine l_goto rfl rfl ?_
    refine l_ireturn rfl rfl ?_
    exact ⟨rfl, _, rfl, ⟨by omega, by omega⟩, (by unfold relF; first | exact (if_pos (by omega)).symm | exact (if_neg (by omega)).symm)⟩
abbrev Q_vo_kindsAbove (S : sS) (kind : Int) : pst := fun r S1 => S = S1 ∧ (∃ z : Int, r = some (iv z) ∧ (0 ≤ z ∧ z ≤ 16) ∧ (z = kab S kind))
set_option maxRecDepth 100000 in
theorem t_vo_kindsAbove {S : sS} (hH : HI S) (kind : Int) (hkind : 0 ≤ kind ∧ kind ≤ 15) (d : Nat) : Mt lay0 (d + 1) m_vo_kindsAbove [.ref 1, iv kind] S (Q_vo_kindsAbove S kind) := by
  refine Mt_R rfl rfl ?_
  have C9 : ∀ (n9 : Nat) (v2 : Int) (v3 : Int), (-1 ≤ v2 ∧ v2 ≤ 15) → (0 ≤ v3 ∧ v3 ≤ 16) → (kab S kind = kabn S (16 - v3).toNat v2 v3) → n9 = (17 - v3).toNat → Rl lay0 (d + 0) m_vo_kindsAbove 9 [(0, .ref 1), (2, iv v2), (3, iv v3)] [] S (Q_vo_kindsAbove S kind) := by
    intro n9
    induction n9 using Nat.strongRecOn with
    | ind n9 ih9 =>
      intro v2 v3 w1 w2 hq hm9
      refine l_iload_n rfl rfl ?_
      refine l_bipush rfl rfl ?_
      refine l_icmp_ge rfl rfl (by unfold rg; omega) (by unfold rg; omega) (fun w3 => ?_) (fun w4 => ?_)
      · refine l_iload_n rfl rfl ?_
        refine l_ireturn rfl rfl ?_
        exact ⟨rfl, _, rfl, ⟨by omega, by omega⟩, ((hq.trans (kabn_e (by omega))).symm)⟩
      · refine l_iload_n rfl rfl ?_
        refine l_if_lt rfl rfl (by unfold rg; omega) (fun w5 => ?_) (fun w6 => ?_)
        · refine l_iload_n rfl rfl ?_
          refine l_ireturn rfl rfl ?_
          exact ⟨rfl, _, rfl, ⟨by omega, by omega⟩, ((hq.trans (kabn_e (by omega))).symm)⟩
        · refine l_aload_n rfl rfl ?_
          refine l_gfr rfl rfl rfl rfl rfl (hH.r 1 5 6 rfl) ?_
          refine l_iload_n rfl rfl ?_
          refine l_iaload (n := 16) rfl rfl (by omega) (by omega) (by unfold rg; omega) ?_
          have w7 : -1 ≤ (Xi S 6 ((v2).toNat)) ∧ (Xi S 6 ((v2).toNat)) ≤ 15 := hH.c _ _
          refine l_istore_n rfl rfl rfl ?_
          refine l_iinc rfl rfl rfl rfl ?_
          refine l_goto rfl rfl ?_
          exact Rl_weak (ih9 _ (by omega) ((Xi S 6 ((v2).toNat))) ((v3 + 1)) (by omega) (by omega) (by first | exact hq.trans (kabn_s (by omega) (by omega)) | rfl) rfl) (And.intro rfl (And.intro rfl (And.intro rfl (True.intro))))
  refine l_aload_n rfl rfl ?_
  refine l_gfr rfl rfl rfl rfl rfl (hH.r 1 5 6 rfl) ?_
  refine l_iload_n rfl rfl ?_
  refine l_iaload (n := 16) rfl rfl (by omega) (by omega) (by unfold rg; omega) ?_
  have w8 : -1 ≤ (Xi S 6 ((kind).toNat)) ∧ (Xi S 6 ((kind).toNat)) ≤ 15 := hH.c _ _
  refine l_istore_n rfl rfl rfl ?_
  refine l_iconst rfl ?_
  refine l_istore_n rfl rfl rfl ?_
  exact Rl_weak (C9 _ ((Xi S 6 ((kind).toNat))) (0) (by omega) (by omega) (by first | exact hq.trans (kabn_s (by omega) (by omega)) | rfl) rfl) (And.intro rfl (And.intro rfl (And.intro rfl (True.intro))))
abbrev Q_vo_propertiesOf (S : sS) (kind : Int) : pst := fun r S1 => S = S1 ∧ (∃ z : Int, r = some (iv z) ∧ (-2147483648 ≤ z ∧ z ≤ 2147483647) ∧ (z = pps S kind))
set_option maxRecDepth 100000 in
theorem t_vo_propertiesOf {S : sS} (hH : HI S) (kind : Int) (hkind : -1 ≤ kind ∧ kind ≤ 15) (d : Nat) : Mt lay0 (d + 1) m_vo_propertiesOf [.ref 1, iv kind] S (Q_vo_propertiesOf S kind) := by
  refine Mt_R rfl rfl ?_
  have C7 : ∀ (n7 : Nat) (v2 : Int) (v3 : Int) (v4 : Int), (-2147483648 ≤ v2 ∧ v2 ≤ 2147483647) → (-1 ≤ v3 ∧ v3 ≤ 15) → (0 ≤ v4 ∧ v4 ≤ 16) → (pps S kind = ppn S (16 - v4).toNat v3 v2) → n7 = (17 - v4).toNat → Rl lay0 (d + 0) m_vo_propertiesOf 7 [(0, .ref 1), (2, iv v2), (3, iv v3), (4, iv v4)] [] S (Q_vo_propertiesOf S kind) := by
    intro n7
    induction n7 using Nat.strongRecOn with
    | ind n7 ih7 =>
      intro v2 v3 v4 w1 w2 w3 hq hm7
      refine l_iload rfl rfl ?_
      refine l_bipush rfl rfl ?_
      refine l_icmp_ge rfl rfl (by unfold rg; omega) (by unfold rg; omega) (fun w4 => ?_) (fun w5 => ?_)
      · refine l_iload_n rfl rfl ?_
        refine l_ireturn rfl rfl ?_
        exact ⟨rfl, _, rfl, ⟨by omega, by omega⟩, ((hq.trans (ppn_e (by omega))).symm)⟩
      · refine l_iload_n rfl rfl ?_
        refine l_if_lt rfl rfl (by unfold rg; omega) (fun w6 => ?_) (fun w7 => ?_)
        · refine l_iload_n rfl rfl ?_
          refine l_ireturn rfl rfl ?_
          exact ⟨rfl, _, rfl, ⟨by omega, by omega⟩, ((hq.trans (ppn_e (by omega))).symm)⟩
        · refine l_iload_n rfl rfl ?_
          refine l_aload_n rfl rfl ?_
          refine l_gfr rfl rfl rfl rfl rfl (hH.r 1 6 7 rfl) ?_
          refine l_iload_n rfl rfl ?_
          refine l_iaload (n := 16) rfl rfl (by omega) (by omega) (by unfold rg; omega) ?_
          have w8 : -2147483648 ≤ (Xi S 7 ((v3).toNat)) ∧ (Xi S 7 ((v3).toNat)) ≤ 2147483647 := Xi_rgI
          refine l_iorF rfl ?_
          have w9 : -2147483648 ≤ (iorF v2 (Xi S 7 ((v3).toNat))) ∧ (iorF v2 (Xi S 7 ((v3).toNat))) ≤ 2147483647 := iorF_rg
          have w9b : (0 : Int) ≤ v2 → (0 : Int) ≤ (Xi S 7 ((v3).toNat)) → 0 ≤ (iorF v2 (Xi S 7 ((v3).toNat))) := iorF_nn (by unfold rg; omega) (by unfold rg; omega)
          refine l_istore_n rfl rfl rfl ?_
          refine l_aload_n rfl rfl ?_
          refine l_gfr rfl rfl rfl rfl rfl (hH.r 1 5 6 rfl) ?_
          refine l_iload_n rfl rfl ?_
          refine l_iaload (n := 16) rfl rfl (by omega) (by omega) (by unfold rg; omega) ?_
          have w10 : -1 ≤ (Xi S 6 ((v3).toNat)) ∧ (Xi S 6 ((v3).toNat)) ≤ 15 := hH.c _ _
          refine l_istore_n rfl rfl rfl ?_
          refine l_iinc rfl rfl rfl rfl ?_
          refine l_goto rfl rfl ?_
          exact Rl_weak (ih7 _ (by omega) ((iorF v2 (Xi S 7 ((v3).toNat)))) ((Xi S 6 ((v3).toNat))) ((v4 + 1)) (by omega) (by omega) (by omega) (by first | exact hq.trans (ppn_s (by omega) (by omega)) | rfl) rfl) (And.intro rfl (And.intro rfl (And.intro rfl (And.intro rfl (True.intro)))))
  refine l_iconst rfl ?_
  refine l_istore_n rfl rfl rfl ?_
  refine l_iload_n rfl rfl ?_
  refine l_istore_n rfl rfl rfl ?_
  refine l_iconst rfl ?_
  refine l_istore rfl rfl rfl ?_
  exact Rl_weak (C7 _ (0) (kind) (0) (by omega) (by omega) (by omega) (by first | exact hq.trans (ppn_s (by omega) (by omega)) | rfl) rfl) (And.intro rfl (And.intro rfl (And.intro rfl (And.intro rfl (True.intro)))))
abbrev Q_vo_adjectivesOf (S : sS) (kind : Int) : pst := fun r S1 => S = S1 ∧ (∃ z : Int, r = some (iv z) ∧ (0 ≤ z ∧ z ≤ 24) ∧ (z = adjs S kind))
set_option maxRecDepth 100000 in
theorem t_vo_adjectivesOf {S : sS} (hH : HI S) (kind : Int) (hkind : -1 ≤ kind ∧ kind ≤ 15) (d : Nat) : Mt lay0 (d + 2) m_vo_adjectivesOf [.ref 1, iv kind] S (Q_vo_adjectivesOf S kind) := by
  refine Mt_R rfl rfl ?_
  have w1 : 0 ≤ Xi S 5 3 ∧ Xi S 5 3 ≤ 24 := hH.c _ _
  have C4 : ∀ (n4 : Nat) (v2 : Int) (v3 : Int), (-2147483648 ≤ v2 ∧ v2 ≤ 2147483647) → (0 ≤ v3 ∧ v3 ≤ 24) → (0 ≤ v2 ∧ v2 ≤ v3) → (adjs S kind = adjn S kind (Xi S 5 3 - v3).toNat v3 v2) → n4 = (25 - v3).toNat → Rl lay0 (d + 1) m_vo_adjectivesOf 4 [(0, .ref 1), (1, iv kind), (2, iv v2), (3, iv v3)] [] S (Q_vo_adjectivesOf S kind) := by
    intro n4
    induction n4 using Nat.strongRecOn with
    | ind n4 ih4 =>
      intro v2 v3 w2 w3 w4 hq hm4
      have C31 : ∀  (v2 : Int) (v3 : Int), (-2147483648 ≤ v2 ∧ v2 ≤ 2147483647) → (0 ≤ v3 ∧ v3 ≤ 23) → (0 ≤ v2 ∧ v2 ≤ v3 + 1) → (adjs S kind = adjn S kind (Xi S 5 3 - (v3 + 1)).toNat (v3 + 1) v2) → ((25 - v3).toNat ≤ n4) → Rl lay0 (d + 1) m_vo_adjectivesOf 31 [(0, .ref 1), (1, iv kind), (2, iv v2), (3, iv v3)] [] S (Q_vo_adjectivesOf S kind) := by
        intro v2 v3 w5 w6 w7 hq31 w8
        refine l_iinc rfl rfl rfl rfl ?_
        refine l_goto rfl rfl ?_
        exact Rl_weak (ih4 _ (by omega) (v2) ((v3 + 1)) (by omega) (by omega) (by omega) (by first | exact hq31 | exact (show adjs S kind = adjn S kind (Xi S 5 3 - 0).toNat 0 0 by unfold adjs; rw [Int.sub_zero])) rfl) (And.intro rfl (And.intro rfl (And.intro rfl (And.intro rfl (True.intro)))))
      refine l_iload_n rfl rfl ?_
      refine l_aload_n rfl rfl ?_
      refine l_gfr rfl rfl rfl rfl rfl (hH.r 1 4 5 rfl) ?_
      refine l_iconst rfl ?_
      refine l_iaload (n := 9) rfl rfl (by omega) (by omega) (by unfold rg; omega) ?_
      have w9 : 0 ≤ (Xi S 5 ((3 : Int).toNat)) ∧ (Xi S 5 ((3 : Int).toNat)) ≤ 24 := hH.c _ _
      have w10 : (Xi S 5 ((3 : Int).toNat)) = Xi S 5 3 := rfl
      refine l_icmp_ge rfl rfl (by unfold rg; omega) (by unfold rg; omega) (fun w11 => ?_) (fun w12 => ?_)
      · refine l_iload_n rfl rfl ?_
        refine l_ireturn rfl rfl ?_
        exact ⟨rfl, _, rfl, ⟨by omega, by omega⟩, ((hq.trans (adjn_e (by omega))).symm)⟩
      · refine l_aload_n rfl rfl ?_
        refine l_iload_n rfl rfl ?_
        refine l_aload_n rfl rfl ?_
        refine l_gfr rfl rfl rfl rfl rfl (hH.r 1 9 10 rfl) ?_
        refine l_iload_n rfl rfl ?_
        refine l_iaload (n := 24) rfl rfl (by omega) (by omega) (by unfold rg; omega) ?_
        have w13 : 0 ≤ (Xi S 10 ((v3).toNat)) ∧ (Xi S 10 ((v3).toNat)) ≤ 15 := hH.c _ _
        refine l_callV rfl rfl rfl (t_vo_isKind hH kind (Xi S 10 ((v3).toNat)) ⟨by omega, by omega⟩ ⟨by omega, by omega⟩ _) ?_
        rintro _ _ ⟨rfl, z15, rfl, w15, w14⟩
        show Rl _ _ _ _ _ [iv z15] _ _
        refine l_if_eq rfl rfl (by unfold rg; omega) (fun w16 => ?_) (fun w17 => ?_)
        · exact Rl_weak (C31 (v2) (v3) (by omega) (by omega) (by omega) (by first | exact hq.trans (adjn_0 (by omega) (by omega)) | exact hq.trans (adjn_1 (by omega) (by omega))) (by omega)) (And.intro rfl (And.intro rfl (And.intro rfl (And.intro rfl (True.intro)))))
        · refine l_iinc rfl rfl rfl rfl ?_
          exact Rl_weak (C31 ((v2 + 1)) (v3) (by omega) (by omega) (by omega) (by first | exact hq.trans (adjn_0 (by omega) (by omega)) | exact hq.trans (adjn_1 (by omega) (by omega))) (by omega)) (And.intro rfl (And.intro rfl (And.intro rfl (And.intro rfl (True.intro)))))
  refine l_iconst rfl ?_
  refine l_istore_n rfl rfl rfl ?_
  refine l_iconst rfl ?_
  refine l_istore_n rfl rfl rfl ?_
  exact Rl_weak (C4 _ (0) (0) (by omega) (by omega) (by omega) (by first | exact hq31 | exact (show adjs S kind = adjn S kind (Xi S 5 3 - 0).toNat 0 0 by unfold adjs; rw [Int.sub_zero])) rfl) (And.intro rfl (And.intro rfl (And.intro rfl (And.intro rfl (True.intro)))))
abbrev Q_vo_valuesOf (S : sS) (t : Int) : pst := fun r S1 => S = S1 ∧ (∃ z : Int, r = some (iv z) ∧ (0 ≤ z ∧ z ≤ 64) ∧ (z = vals S t))
set_option maxRecDepth 100000 in
theorem t_vo_valuesOf {S : sS} (hH : HI S) (t : Int) (ht : -2147483648 ≤ t ∧ t ≤ 2147483647) (d : Nat) : Mt lay0 (d + 1) m_vo_valuesOf [.ref 1, iv t] S (Q_vo_valuesOf S t) := by
  refine Mt_R rfl rfl ?_
  have w1 : 0 ≤ Xi S 5 4 ∧ Xi S 5 4 ≤ 64 := hH.c _ _
  have C4 : ∀ (n4 : Nat) (v2 : Int) (v3 : Int), (-2147483648 ≤ v2 ∧ v2 ≤ 2147483647) → (0 ≤ v3 ∧ v3 ≤ 64) → (0 ≤ v2 ∧ v2 ≤ v3) → (vals S t = valn S t (Xi S 5 4 - v3).toNat v3 v2) → n4 = (65 - v3).toNat → Rl lay0 (d + 0) m_vo_valuesOf 4 [(0, .ref 1), (1, iv t), (2, iv v2), (3, iv v3)] [] S (Q_vo_valuesOf S t) := by
    intro n4
    induction n4 using Nat.strongRecOn with
    | ind n4 ih4 =>
      intro v2 v3 w2 w3 w4 hq hm4
      refine l_iload_n rfl rfl ?_
      refine l_aload_n rfl rfl ?_
      refine l_gfr rfl rfl rfl rfl rfl (hH.r 1 4 5 rfl) ?_
      refine l_iconst rfl ?_
      refine l_iaload (n := 9) rfl rfl (by omega) (by omega) (by unfold rg; omega) ?_
      have w5 : 0 ≤ (Xi S 5 ((4 : Int).toNat)) ∧ (Xi S 5 ((4 : Int).toNat)) ≤ 64 := hH.c _ _
      have w6 : (Xi S 5 ((4 : Int).toNat)) = Xi S 5 4 := rfl
      refine l_icmp_ge rfl rfl (by unfold rg; omega) (by unfold rg; omega) (fun w7 => ?_) (fun w8 => ?_)
      · refine l_iload_n rfl rfl ?_
        refine l_ireturn rfl rfl ?_
        exact ⟨rfl, _, rfl, ⟨by omega, by omega⟩, ((hq.trans (valn_e (by omega))).symm)⟩
      · refine l_iload_n rfl rfl ?_
        refine l_aload_n rfl rfl ?_
        refine l_gfr rfl rfl rfl rfl rfl (hH.r 1 7 8 rfl) ?_
        refine l_iload_n rfl rfl ?_
        refine l_iaload (n := 64) rfl rfl (by omega) (by omega) (by unfold rg; omega) ?_
        have w9 : 0 ≤ (Xi S 8 ((v3).toNat)) ∧ (Xi S 8 ((v3).toNat)) ≤ 7 := hH.c _ _
        refine l_iload_n rfl rfl ?_
        refine l_icmp_ne rfl rfl (by unfold rg; omega) (by unfold rg; omega) (fun w10 => ?_) (fun w11 => ?_)
        · refine l_iconst rfl ?_
          refine l_iadd rfl ?_
          refine l_istore_n rfl rfl rfl ?_
          refine l_iinc rfl rfl rfl rfl ?_
          refine l_goto rfl rfl ?_
          exact Rl_weak (ih4 _ (by omega) ((v2 + 0)) ((v3 + 1)) (by omega) (by omega) (by omega) (by first | exact hq.trans (valn_1 (by omega) (by omega)) | exact hq.trans (valn_0 (by omega) (by omega)) | exact (show vals S t = valn S t (Xi S 5 4 - 0).toNat 0 0 by unfold vals; rw [Int.sub_zero])) rfl) (And.intro rfl (And.intro rfl (And.intro rfl (And.intro rfl (True.intro)))))
        · refine l_iconst rfl ?_
          refine l_goto rfl rfl ?_
          refine l_iadd rfl ?_
          refine l_istore_n rfl rfl rfl ?_
          refine l_iinc rfl rfl rfl rfl ?_
          refine l_goto rfl rfl ?_
          exact Rl_weak (ih4 _ (by omega) ((v2 + 1)) ((v3 + 1)) (by omega) (by omega) (by omega) (by first | exact hq.trans (valn_1 (by omega) (by omega)) | exact hq.trans (valn_0 (by omega) (by omega)) | exact (show vals S t = valn S t (Xi S 5 4 - 0).toNat 0 0 by unfold vals; rw [Int.sub_zero])) rfl) (And.intro rfl (And.intro rfl (And.intro rfl (And.intro rfl (True.intro)))))
  refine l_iconst rfl ?_
  refine l_istore_n rfl rfl rfl ?_
  refine l_iconst rfl ?_
  refine l_istore_n rfl rfl rfl ?_
  exact Rl_weak (C4 _ (0) (0) (by omega) (by omega) (by omega) (by first | exact hq.trans (valn_1 (by omega) (by omega)) | exact hq.trans (valn_0 (by omega) (by omega)) | exact (show vals S t = valn S t (Xi S 5 4 - 0).toNat 0 0 by unfold vals; rw [Int.sub_zero])) rfl) (And.intro rfl (And.intro rfl (And.intro rfl (And.intro rfl (True.intro)))))
abbrev Q_wo_isWithin (S : sS) (o : Int) (other : Int) : pst := fun r S1 => S = S1 ∧ (∃ z : Int, r = some (iv z) ∧ (0 ≤ z ∧ z ≤ 1) ∧ (z = isW S o other))
set_option maxRecDepth 100000 in
theorem t_wo_isWithin {S : sS} (hH : HI S) (o : Int) (other : Int) (ho : -1 ≤ o ∧ o ≤ 23) (hother : -2147483648 ≤ other ∧ other ≤ 2147483647) (d : Nat) : Mt lay0 (d + 1) m_wo_isWithin [.ref 20, iv o, iv other] S (Q_wo_isWithin S o other) := by
  refine Mt_R rfl rfl ?_
  have C5 : ∀ (n5 : Nat) (v3 : Int) (v4 : Int), (-1 ≤ v3 ∧ v3 ≤ 23) → (0 ≤ v4 ∧ v4 ≤ 25) → (isW S o other = isWn S other (25 - v4).toNat v3) → n5 = (26 - v4).toNat → Rl lay0 (d + 0) m_wo_isWithin 5 [(0, .ref 20), (2, iv other), (3, iv v3), (4, iv v4)] [] S (Q_wo_isWithin S o other) := by
    intro n5
    induction n5 using Nat.strongRecOn with
    | ind n5 ih5 =>
      intro v3 v4 w1 w2 hq hm5
      refine l_iload rfl rfl ?_
      refine l_bipush rfl rfl ?_
      refine l_icmp_gt rfl rfl (by unfold rg; omega) (by unfold rg; omega) (fun w3 => ?_) (fun w4 => ?_)
      · refine l_iconst rfl ?_
        refine l_ireturn rfl rfl ?_
        exact ⟨rfl, _, rfl, ⟨by omega, by omega⟩, (by first | exact (hq.trans (isWn_f (by omega) (by omega) (by omega))).symm | exact (hq.trans (isWn_e (by omega))).symm)⟩
      · refine l_iload_n rfl rfl ?_
        refine l_if_lt rfl rfl (by unfold rg; omega) (fun w5 => ?_) (fun w6 => ?_)
        · refine l_iconst rfl ?_
          refine l_ireturn rfl rfl ?_
          exact ⟨rfl, _, rfl, ⟨by omega, by omega⟩, (by first | exact (hq.trans (isWn_f (by omega) (by omega) (by omega))).symm | exact (hq.trans (isWn_e (by omega))).symm)⟩
        · refine l_iload_n rfl rfl ?_
          refine l_iload_n rfl rfl ?_
          refine l_icmp_ne rfl rfl (by unfold rg; omega) (by unfold rg; omega) (fun w7 => ?_) (fun w8 => ?_)
          · refine l_aload_n rfl rfl ?_
            refine l_gfr rfl rfl rfl rfl rfl (hH.r 20 4 23 rfl) ?_
            refine l_iload_n rfl rfl ?_
            refine l_iaload (n := 24) rfl rfl (by omega) (by omega) (by unfold rg; omega) ?_
            have w9 : -1 ≤ (Xi S 23 ((v3).toNat)) ∧ (Xi S 23 ((v3).toNat)) ≤ 23 := hH.c _ _
            refine l_istore_n rfl rfl rfl ?_
            refine l_iinc rfl rfl rfl rfl ?_
            refine l_goto rfl rfl ?_
            exact Rl_weak (ih5 _ (by omega) ((Xi S 23 ((v3).toNat))) ((v4 + 1)) (by omega) (by omega) (by first | exact hq.trans (isWn_s (by omega) (by omega) (by omega)) | rfl) rfl) (And.intro rfl (And.intro rfl (And.intro rfl (And.intro rfl (True.intro)))))
          · refine l_iconst rfl ?_
            refine l_ireturn rfl rfl ?_
            exact ⟨rfl, _, rfl, ⟨by omega, by omega⟩, (by first | exact (hq.trans (isWn_f (by omega) (by omega) (by omega))).symm | exact (hq.trans (isWn_e (by omega))).symm)⟩
  refine l_iload_n rfl rfl ?_
  refine l_istore_n rfl rfl rfl ?_
  refine l_iconst rfl ?_
  refine l_istore rfl rfl rfl ?_
  exact Rl_weak (C5 _ (o) (0) (by omega) (by omega) (by first | exact hq.trans (isWn_s (by omega) (by omega) (by omega)) | rfl) rfl) (And.intro rfl (And.intro rfl (And.intro rfl (And.intro rfl (True.intro)))))
abbrev Q_wo_roomBehind (S : sS) (room : Int) (dir : Int) : pst := fun r S1 => S = S1 ∧ (∃ z : Int, r = some (iv z) ∧ (-1 ≤ z ∧ z ≤ 23) ∧ (z = rbh S room dir))
set_option maxRecDepth 100000 in
theorem t_wo_roomBehind {S : sS} (hH : HI S) (room : Int) (dir : Int) (hroom : 0 ≤ room ∧ room ≤ 23) (hdir : 0 ≤ dir ∧ dir ≤ 5) (d : Nat) : Mt lay0 (d + 1) m_wo_roomBehind [.ref 20, iv room, iv dir] S (Q_wo_roomBehind S room dir) := by
  refine Mt_R rfl rfl ?_
  have C31 : ∀ (n31 : Nat) (v3 : Int) (v4 : Int) (v5 : Int), (0 ≤ v3 ∧ v3 ≤ 5) → (-1 ≤ v4 ∧ v4 ≤ 23) → (0 ≤ v5 ∧ v5 ≤ 24) → (rbh S room dir = rbn S v3.toNat room (24 - v5).toNat v5 v4) → n31 = (25 - v5).toNat → Rl lay0 (d + 0) m_wo_roomBehind 31 [(0, .ref 20), (1, iv room), (3, iv v3), (4, iv v4), (5, iv v5)] [] S (Q_wo_roomBehind S room dir) := by
    intro n31
    induction n31 using Nat.strongRecOn with
    | ind n31 ih31 =>
      intro v3 v4 v5 w1 w2 w3 hq hm31
      have C82 : ∀  (v3 : Int) (v4 : Int) (v5 : Int), (0 ≤ v3 ∧ v3 ≤ 5) → (-1 ≤ v4 ∧ v4 ≤ 23) → (0 ≤ v5 ∧ v5 ≤ 23) → (v5 < 24) → (rbh S room dir = rbn S v3.toNat room (24 - (v5 + 1)).toNat (v5 + 1) v4) → ((25 - v5).toNat ≤ n31) → Rl lay0 (d + 0) m_wo_roomBehind 82 [(0, .ref 20), (1, iv room), (3, iv v3), (4, iv v4), (5, iv v5)] [] S (Q_wo_roomBehind S room dir) := by
        intro v3 v4 v5 w4 w5 w6 w7 hq82 w8
        refine l_iinc rfl rfl rfl rfl ?_
        refine l_goto rfl rfl ?_
        exact Rl_weak (ih31 _ (by omega) (v3) (v4) ((v5 + 1)) (by omega) (by omega) (by omega) (by first | exact hq82 | exact rbh_0 (by omega)) rfl) (And.intro rfl (And.intro rfl (And.intro rfl (And.intro rfl (And.intro rfl (True.intro))))))
      have C78 : ∀  (v3 : Int) (v5 : Int), (0 ≤ v3 ∧ v3 ≤ 5) → (0 ≤ v5 ∧ v5 ≤ 23) → (v5 < 24) → (rbh S room dir = rbn S v3.toNat room (24 - (v5 + 1)).toNat (v5 + 1) v5) → ((25 - v5).toNat ≤ n31) → Rl lay0 (d + 0) m_wo_roomBehind 78 [(0, .ref 20), (1, iv room), (3, iv v3), (5, iv v5)] [] S (Q_wo_roomBehind S room dir) := by
        intro v3 v5 w9 w10 w11 hq78 w12
        refine l_iload rfl rfl ?_
        refine l_istore rfl rfl rfl ?_
        exact Rl_weak (C82 (v3) (v5) (v5) (by omega) (by omega) (by omega) (by omega) (by first | exact hq78 | exact hq.trans (rbn_n (by omega) (by omega))) (by omega)) (And.intro rfl (And.intro rfl (And.intro rfl (And.intro rfl (And.intro rfl (True.intro))))))
      refine l_iload rfl rfl ?_
      refine l_bipush rfl rfl ?_
      refine l_icmp_ge rfl rfl (by unfold rg; omega) (by unfold rg; omega) (fun w13 => ?_) (fun w14 => ?_)
      · refine l_iload rfl rfl ?_
        refine l_ireturn rfl rfl ?_
        exact ⟨rfl, _, rfl, ⟨by omega, by omega⟩, (by first | exact rbh_1 (by omega) | exact (hq.trans (rbn_e (by omega))).symm)⟩
      · refine l_aload_n rfl rfl ?_
        refine l_gfr rfl rfl rfl rfl rfl (hH.r 20 10 195 rfl) ?_
        refine l_iload rfl rfl ?_
        refine l_aaload (n := 24) (a := 196 + (v5).toNat) rfl rfl (by decide) (by omega) (by omega) (by unfold rg; omega) (RW_195 hH (by omega)) ?_
        refine l_iload_n rfl rfl ?_
        refine l_iaload (n := 6) rfl (lay_196 (by omega)) (by omega) (by omega) (by unfold rg; omega) ?_
        have w15 : -1 ≤ (Xi S (196 + (v5).toNat) ((v3).toNat)) ∧ (Xi S (196 + (v5).toNat) ((v3).toNat)) ≤ 23 := wyc hH (by omega)
        refine l_iload_n rfl rfl ?_
        refine l_icmp_ne rfl rfl (by unfold rg; omega) (by unfold rg; omega) (fun w16 => ?_) (fun w17 => ?_)
        · exact Rl_weak (C82 (v3) (v4) (v5) (by omega) (by omega) (by omega) (by omega) (by first | exact hq78 | exact hq.trans (rbn_n (by omega) (by omega))) (by omega)) (And.intro rfl (And.intro rfl (And.intro rfl (And.intro rfl (And.intro rfl (True.intro))))))
        · refine l_iload rfl rfl ?_
          refine l_iconst rfl ?_
          refine l_icmp_eq rfl rfl (by unfold rg; omega) (by unfold rg; omega) (fun w18 => ?_) (fun w19 => ?_)
          · exact Rl_weak (C78 (v3) (v5) (by omega) (by omega) (by omega) (hq.trans (rbn_y (by omega) ⟨by omega, by omega⟩)) (by omega)) (And.intro rfl (And.intro rfl (And.intro rfl (And.intro rfl (True.intro)))))
          · refine l_aload_n rfl rfl ?_
            refine l_gfr rfl rfl rfl rfl rfl (hH.r 20 11 220 rfl) ?_
            refine l_iload rfl rfl ?_
            refine l_aaload (n := 24) (a := 221 + (v5).toNat) rfl rfl (by decide) (by omega) (by omega) (by unfold rg; omega) (RW_220 hH (by omega)) ?_
            refine l_iload_n rfl rfl ?_
            refine l_iaload (n := 6) rfl (lay_221 (by omega)) (by omega) (by omega) (by unfold rg; omega) ?_
            have w20 : -2147483648 ≤ (Xi S (221 + (v5).toNat) ((v3).toNat)) ∧ (Xi S (221 + (v5).toNat) ((v3).toNat)) ≤ 2147483647 := Xi_rgI
            refine l_aload_n rfl rfl ?_
            refine l_gfr rfl rfl rfl rfl rfl (hH.r 20 11 220 rfl) ?_
            refine l_iload rfl rfl ?_
            refine l_aaload (n := 24) (a := 221 + (v4).toNat) rfl rfl (by decide) (by omega) (by omega) (by unfold rg; omega) (RW_220 hH (by omega)) ?_
            refine l_iload_n rfl rfl ?_
            refine l_iaload (n := 6) rfl (lay_221 (by omega)) (by omega) (by omega) (by unfold rg; omega) ?_
            have w21 : -2147483648 ≤ (Xi S (221 + (v4).toNat) ((v3).toNat)) ∧ (Xi S (221 + (v4).toNat) ((v3).toNat)) ≤ 2147483647 := Xi_rgI
            refine l_icmp_ge rfl rfl (by unfold rg; omega) (by unfold rg; omega) (fun w22 => ?_) (fun w23 => ?_)
            · exact Rl_weak (C82 (v3) (v4) (v5) (by omega) (by omega) (by omega) (by omega) (by first | exact hq78 | exact hq.trans (rbn_n (by omega) (by omega))) (by omega)) (And.intro rfl (And.intro rfl (And.intro rfl (And.intro rfl (And.intro rfl (True.intro))))))
            · exact Rl_weak (C78 (v3) (v5) (by omega) (by omega) (by omega) (hq.trans (rbn_y (by omega) ⟨by omega, by omega⟩)) (by omega)) (And.intro rfl (And.intro rfl (And.intro rfl (And.intro rfl (True.intro)))))
  refine l_aload_n rfl rfl ?_
  refine l_gfr rfl rfl rfl rfl rfl (hH.r 20 10 195 rfl) ?_
  refine l_iload_n rfl rfl ?_
  refine l_aaload (n := 24) (a := 196 + (room).toNat) rfl rfl (by decide) (by omega) (by omega) (by unfold rg; omega) (RW_195 hH (by omega)) ?_
  refine l_iload_n rfl rfl ?_
  refine l_iaload (n := 6) rfl (lay_196 (by omega)) (by omega) (by omega) (by unfold rg; omega) ?_
  have w24 : -1 ≤ (Xi S (196 + (room).toNat) ((dir).toNat)) ∧ (Xi S (196 + (room).toNat) ((dir).toNat)) ≤ 23 := wyc hH (by omega)
  refine l_iconst rfl ?_
  refine l_icmp_eq rfl rfl (by unfold rg; omega) (by unfold rg; omega) (fun w25 => ?_) (fun w26 => ?_)
  · refine l_iload_n rfl rfl ?_
    refine l_iconst rfl ?_
    refine l_ixorF rfl ?_
    have w27 : 0 ≤ (ixorF dir 1) ∧ (ixorF dir 1) ≤ 5 := ixorF_1 (by omega) (by omega)
    refine l_istore_n rfl rfl rfl ?_
    refine l_iconst rfl ?_
    refine l_istore rfl rfl rfl ?_
    refine l_iconst rfl ?_
    refine l_istore rfl rfl rfl ?_
    exact Rl_weak (C31 _ ((ixorF dir 1)) ((-1)) (0) (by omega) (by omega) (by omega) (by first | exact hq82 | exact rbh_0 (by omega)) rfl) (And.intro rfl (And.intro rfl (And.intro rfl (And.intro rfl (And.intro rfl (True.intro))))))
  · refine l_aload_n rfl rfl ?_
    refine l_gfr rfl rfl rfl rfl rfl (hH.r 20 10 195 rfl) ?_
    refine l_iload_n rfl rfl ?_
    refine l_aaload (n := 24) (a := 196 + (room).toNat) rfl rfl (by decide) (by omega) (by omega) (by unfold rg; omega) (RW_195 hH (by omega)) ?_
    refine l_iload_n rfl rfl ?_
    refine l_iaload (n := 6) rfl (lay_196 (by omega)) (by omega) (by omega) (by unfold rg; omega) ?_
    refine l_ireturn rfl rfl ?_
    exact ⟨rfl, _, rfl, ⟨by omega, by omega⟩, (by first | exact rbh_1 (by omega) | exact (hq.trans (rbn_e (by omega))).symm)⟩
abbrev Q_rs_isArt (S : sS) (t : Int) : pst := fun r S1 => S = S1 ∧ (∃ z : Int, r = some (iv z) ∧ (0 ≤ z ∧ z ≤ 1) ∧ ((z = 1 → 0 ≤ t ∧ t ≤ 3) ∧ (z = 0 → t < 0 ∨ 3 < t)))
set_option maxRecDepth 100000 in
theorem t_rs_isArt {S : sS} (hH : HI S) (t : Int) (ht : -2147483648 ≤ t ∧ t ≤ 2147483647) (d : Nat) : Mt lay0 (d + 1) m_rs_isArt [iv t] S (Q_rs_isArt S t) := by
  refine Mt_R rfl rfl ?_
  refine l_iload_n rfl rfl ?_
  refine l_if_lt rfl rfl (by unfold rg; omega) (fun w1 => ?_) (fun w2 => ?_)
  · refine l_iconst rfl ?_
    refine l_ireturn rfl rfl ?_
    exact ⟨rfl, _, rfl, ⟨by omega, by omega⟩, (by first | assumption | omega)⟩
  · refine l_iload_n rfl rfl ?_
    refine l_iconst rfl ?_
    refine l_icmp_gt rfl rfl (by unfold rg; omega) (by unfold rg; omega) (fun w3 => ?_) (fun w4 => ?_)
    · refine l_iconst rfl ?_
      refine l_ireturn rfl rfl ?_
      exact ⟨rfl, _, rfl, ⟨by omega, by omega⟩, (by first | assumption | omega)⟩
    · refine l_iconst rfl ?_
      refine l_goto rfl rfl ?_
      refine l_ireturn rfl rfl ?_
      exact ⟨rfl, _, rfl, ⟨by omega, by omega⟩, (by first | assumption | omega)⟩
abbrev Q_to_typeAt (S : sS) (row : Int) : pst := fun r S1 => S = S1 ∧ (∃ z : Int, r = some (iv z) ∧ (0 ≤ z ∧ z ≤ 108) ∧ (z ≠ 107 → 0 ≤ row ∧ row < Xi S 876 7 ∧ z = Xi S 877 row.toNat) ∧ (0 ≤ row → row < Xi S 876 7 → z = Xi S 877 row.toNat) ∧ (row < 0 ∨ Xi S 876 7 ≤ row → z = 107))
set_option maxRecDepth 100000 in
theorem t_to_typeAt {S : sS} (hH : HI S) (row : Int) (hrow : -2147483648 ≤ row ∧ row ≤ 2147483647) (d : Nat) : Mt lay0 (d + 1) m_to_typeAt [.ref 876, iv row] S (Q_to_typeAt S row) := by
  refine Mt_R rfl rfl ?_
  have w1 : 0 ≤ Xi S 876 7 ∧ Xi S 876 7 ≤ 5125 := hH.c _ _
  refine l_iload_n rfl rfl ?_
  refine l_if_lt rfl rfl (by unfold rg; omega) (fun w2 => ?_) (fun w3 => ?_)
  · refine l_bipush rfl rfl ?_
    refine l_ireturn rfl rfl ?_
    exact ⟨rfl, _, rfl, ⟨by omega, by omega⟩, (by first | assumption | omega), (by first | assumption | omega), (by first | assumption | omega)⟩
  · refine l_iload_n rfl rfl ?_
    refine l_aload_n rfl rfl ?_
    refine l_gfi rfl rfl rfl rfl rfl ?_
    refine l_icmp_ge rfl rfl (by unfold rg; omega) (by unfold rg; omega) (fun w4 => ?_) (fun w5 => ?_)
    · refine l_bipush rfl rfl ?_
      refine l_ireturn rfl rfl ?_
      exact ⟨rfl, _, rfl, ⟨by omega, by omega⟩, (by first | assumption | omega), (by first | assumption | omega), (by first | assumption | omega)⟩
    · refine l_aload_n rfl rfl ?_
      refine l_gfr rfl rfl rfl rfl rfl (hH.r 876 0 877 rfl) ?_
      refine l_iload_n rfl rfl ?_
      refine l_iaload (n := 5130) rfl rfl (by omega) (by omega) (by unfold rg; omega) ?_
      have w6 : 0 ≤ (Xi S 877 ((row).toNat)) ∧ (Xi S 877 ((row).toNat)) ≤ 108 := hH.c _ _
      refine l_goto rfl rfl ?_
      refine l_ireturn rfl rfl ?_
      exact ⟨rfl, _, rfl, ⟨by omega, by omega⟩, (by first | assumption | omega), (by first | assumption | omega), (by first | assumption | omega)⟩
abbrev Q_bo_thingOfInsert (S : sS) (i : Int) : pst := fun r S1 => S = S1 ∧ (∃ z : Int, r = some (iv z) ∧ (-2 ≤ z ∧ z ≤ 23) ∧ (0 ≤ i → i < Xi S 246 8 → z = Xi S 274 i.toNat) ∧ (i < 0 ∨ Xi S 246 8 ≤ i → z = -1))
set_option maxRecDepth 100000 in
theorem t_bo_thingOfInsert {S : sS} (hH : HI S) (i : Int) (hi : -2147483648 ≤ i ∧ i ≤ 2147483647) (d : Nat) : Mt lay0 (d + 1) m_bo_thingOfInsert [.ref 246, iv i] S (Q_bo_thingOfInsert S i) := by
  refine Mt_R rfl rfl ?_
  have w1 : 0 ≤ Xi S 246 8 ∧ Xi S 246 8 ≤ 1666 := hH.c _ _
  refine l_iload_n rfl rfl ?_
  refine l_if_lt rfl rfl (by unfold rg; omega) (fun w2 => ?_) (fun w3 => ?_)
  · refine l_iconst rfl ?_
    refine l_ireturn rfl rfl ?_
    exact ⟨rfl, _, rfl, ⟨by omega, by omega⟩, (by first | assumption | omega), (by first | assumption | omega)⟩
  · refine l_iload_n rfl rfl ?_
    refine l_aload_n rfl rfl ?_
    refine l_gfi rfl rfl rfl rfl rfl ?_
    refine l_icmp_ge rfl rfl (by unfold rg; omega) (by unfold rg; omega) (fun w4 => ?_) (fun w5 => ?_)
    · refine l_iconst rfl ?_
      refine l_ireturn rfl rfl ?_
      exact ⟨rfl, _, rfl, ⟨by omega, by omega⟩, (by first | assumption | omega), (by first | assumption | omega)⟩
    · refine l_aload_n rfl rfl ?_
      refine l_gfr rfl rfl rfl rfl rfl (hH.r 246 6 274 rfl) ?_
      refine l_iload_n rfl rfl ?_
      refine l_iaload (n := 1666) rfl rfl (by omega) (by omega) (by unfold rg; omega) ?_
      have w6 : -2 ≤ (Xi S 274 ((i).toNat)) ∧ (Xi S 274 ((i).toNat)) ≤ 23 := hH.c _ _
      refine l_goto rfl rfl ?_
      refine l_ireturn rfl rfl ?_
      exact ⟨rfl, _, rfl, ⟨by omega, by omega⟩, (by first | assumption | omega), (by first | assumption | omega)⟩
abbrev Q_bo_propertyOfInsert (S : sS) (i : Int) : pst := fun r S1 => S = S1 ∧ (∃ z : Int, r = some (iv z) ∧ (-1 ≤ z ∧ z ≤ 11) ∧ (0 ≤ i → i < Xi S 246 8 → z = Xi S 275 i.toNat) ∧ (i < 0 ∨ Xi S 246 8 ≤ i → z = -1))
set_option maxRecDepth 100000 in
theorem t_bo_propertyOfInsert {S : sS} (hH : HI S) (i : Int) (hi : -2147483648 ≤ i ∧ i ≤ 2147483647) (d : Nat) : Mt lay0 (d + 1) m_bo_propertyOfInsert [.ref 246, iv i] S (Q_bo_propertyOfInsert S i) := by
  refine Mt_R rfl rfl ?_
  have w1 : 0 ≤ Xi S 246 8 ∧ Xi S 246 8 ≤ 1666 := hH.c _ _
  refine l_iload_n rfl rfl ?_
  refine l_if_lt rfl rfl (by unfold rg; omega) (fun w2 => ?_) (fun w3 => ?_)
  · refine l_iconst rfl ?_
    refine l_ireturn rfl rfl ?_
    exact ⟨rfl, _, rfl, ⟨by omega, by omega⟩, (by first | assumption | omega), (by first | assumption | omega)⟩
  · refine l_iload_n rfl rfl ?_
    refine l_aload_n rfl rfl ?_
    refine l_gfi rfl rfl rfl rfl rfl ?_
    refine l_icmp_ge rfl rfl (by unfold rg; omega) (by unfold rg; omega) (fun w4 => ?_) (fun w5 => ?_)
    · refine l_iconst rfl ?_
      refine l_ireturn rfl rfl ?_
      exact ⟨rfl, _, rfl, ⟨by omega, by omega⟩, (by first | assumption | omega), (by first | assumption | omega)⟩
    · refine l_aload_n rfl rfl ?_
      refine l_gfr rfl rfl rfl rfl rfl (hH.r 246 7 275 rfl) ?_
      refine l_iload_n rfl rfl ?_
      refine l_iaload (n := 1666) rfl rfl (by omega) (by omega) (by unfold rg; omega) ?_
      have w6 : -1 ≤ (Xi S 275 ((i).toNat)) ∧ (Xi S 275 ((i).toNat)) ≤ 11 := hH.c _ _
      refine l_goto rfl rfl ?_
      refine l_ireturn rfl rfl ?_
      exact ⟨rfl, _, rfl, ⟨by omega, by omega⟩, (by first | assumption | omega), (by first | assumption | omega)⟩
abbrev Q_rs_letterOf (S : sS) (b : Int) : pst := fun r S1 => S = S1 ∧ (∃ z : Int, r = some (iv z) ∧ (0 ≤ z ∧ z ≤ 26))
set_option maxRecDepth 100000 in
theorem t_rs_letterOf {S : sS} (hH : HI S) (b : Int) (hb : -2147483648 ≤ b ∧ b ≤ 2147483647) (d : Nat) : Mt lay0 (d + 1) m_rs_letterOf [iv b] S (Q_rs_letterOf S b) := by
  refine Mt_R rfl rfl ?_
  refine l_iload_n rfl rfl ?_
  refine l_bipush rfl rfl ?_
  refine l_iorF rfl ?_
  have w1 : -2147483648 ≤ (iorF b 32) ∧ (iorF b 32) ≤ 2147483647 := iorF_rg
  have w1b : (0 : Int) ≤ b → (0 : Int) ≤ 32 → 0 ≤ (iorF b 32) := iorF_nn (by unfold rg; omega) (by unfold rg; omega)
  refine l_bipush rfl rfl ?_
  refine l_isub rfl ?_
  refine l_iconst rfl ?_
  refine l_iadd rfl ?_
  refine l_istore_n rfl rfl rfl ?_
  refine l_iload_n rfl rfl ?_
  refine l_if_le rfl rfl (by unfold rg; omega) (fun w2 => ?_) (fun w3 => ?_)
  · refine l_iconst rfl ?_
    refine l_ireturn rfl rfl ?_
    exact ⟨rfl, _, rfl, ⟨by omega, by omega⟩⟩
  · refine l_iload_n rfl rfl ?_
    refine l_iconst rfl ?_
    refine l_icmp_lt rfl rfl (by unfold rg; omega) (by unfold rg; omega) (fun w4 => ?_) (fun w5 => ?_)
    · refine l_iconst rfl ?_
      refine l_ireturn rfl rfl ?_
      exact ⟨rfl, _, rfl, ⟨by omega, by omega⟩⟩
    · refine l_iload_n rfl rfl ?_
      refine l_bipush rfl rfl ?_
      refine l_icmp_gt rfl rfl (by unfold rg; omega) (by unfold rg; omega) (fun w6 => ?_) (fun w7 => ?_)
      · refine l_iconst rfl ?_
        refine l_ireturn rfl rfl ?_
        exact ⟨rfl, _, rfl, ⟨by omega, by omega⟩⟩
      · refine l_iload_n rfl rfl ?_
        refine l_goto rfl rfl ?_
        refine l_ireturn rfl rfl ?_
        exact ⟨rfl, _, rfl, ⟨by omega, by omega⟩⟩
abbrev Q_to_closing (S : sS) (ts : Nat) (from_ : Int) : pst := fun r S1 => S = S1 ∧ (∃ z : Int, r = some (iv z) ∧ (-1 ≤ z ∧ z ≤ 4999) ∧ (z = -1 ∨ (from_ ≤ z ∧ z < Xi S 876 5)))
set_option maxRecDepth 100000 in
theorem t_to_closing {S : sS} (hH : HI S) (ts : Nat) (from_ : Int) (hfrom_ : 0 ≤ from_ ∧ from_ ≤ 5000) (hts : S.2.2 876 4 = some ts) (htp : tp ts) (d : Nat) : Mt lay0 (d + 1) m_to_closing [.ref 876, iv from_] S (Q_to_closing S ts from_) := by
  refine Mt_R rfl rfl ?_
  have w1 : 0 ≤ Xi S 876 5 ∧ Xi S 876 5 ≤ 5000 := hH.c _ _
  have C2 : ∀ (n2 : Nat) (v2 : Int), (0 ≤ v2 ∧ v2 ≤ 5000) → (from_ ≤ v2) → n2 = (5001 - v2).toNat → Rl lay0 (d + 0) m_to_closing 2 [(0, .ref 876), (2, iv v2)] [] S (Q_to_closing S ts from_) := by
    intro n2
    induction n2 using Nat.strongRecOn with
    | ind n2 ih2 =>
      intro v2 w2 w3 hm2
      refine l_iload_n rfl rfl ?_
      refine l_aload_n rfl rfl ?_
      refine l_gfi rfl rfl rfl rfl rfl ?_
      refine l_icmp_ge rfl rfl (by unfold rg; omega) (by unfold rg; omega) (fun w4 => ?_) (fun w5 => ?_)
      · refine l_iconst rfl ?_
        refine l_ireturn rfl rfl ?_
        exact ⟨rfl, _, rfl, ⟨by omega, by omega⟩, (by first | assumption | omega)⟩
      · refine l_aload_n rfl rfl ?_
        refine l_gfr rfl rfl rfl rfl rfl hts ?_
        refine l_iload_n rfl rfl ?_
        refine l_baload (n := 5000) rfl (tp_sv (by assumption)) (lay_tp (by assumption)) (by decide) (by omega) (by omega) (by unfold rg; omega) ?_
        have w7 : -128 ≤ (Xi S ts ((v2).toNat)) ∧ (Xi S ts ((v2).toNat)) ≤ 127 := tpc hH (by assumption)
        refine l_bipush rfl rfl ?_
        refine l_icmp_ne rfl rfl (by unfold rg; omega) (by unfold rg; omega) (fun w8 => ?_) (fun w9 => ?_)
        · refine l_iinc rfl rfl rfl rfl ?_
          refine l_goto rfl rfl ?_
          exact Rl_weak (ih2 _ (by omega) ((v2 + 1)) (by omega) (by omega) rfl) (And.intro rfl (And.intro rfl (True.intro)))
        · refine l_iload_n rfl rfl ?_
          refine l_ireturn rfl rfl ?_
          exact ⟨rfl, _, rfl, ⟨by omega, by omega⟩, (by first | assumption | omega)⟩
  refine l_iload_n rfl rfl ?_
  refine l_istore_n rfl rfl rfl ?_
  exact Rl_weak (C2 _ (from_) (by omega) (by omega) rfl) (And.intro rfl (And.intro rfl (True.intro)))
abbrev Q_to_skip (S : sS) (ts : Nat) (from_ : Int) : pst := fun r S1 => S = S1 ∧ (∃ z : Int, r = some (iv z) ∧ (0 ≤ z ∧ z ≤ 5000) ∧ (from_ ≤ z ∧ z ≤ Xi S 876 5))
set_option maxRecDepth 100000 in
theorem t_to_skip {S : sS} (hH : HI S) (ts : Nat) (from_ : Int) (hfrom_ : 0 ≤ from_ ∧ from_ ≤ 5000) (hts : S.2.2 876 4 = some ts) (htp : tp ts) (h5 : from_ ≤ Xi S 876 5) (d : Nat) : Mt lay0 (d + 2) m_to_skip [.ref 876, iv from_] S (Q_to_skip S ts from_) := by
  refine Mt_R rfl rfl ?_
  have w1 : 0 ≤ Xi S 876 5 ∧ Xi S 876 5 ≤ 5000 := hH.c _ _
  have C2 : ∀ (n2 : Nat) (v2 : Int), (0 ≤ v2 ∧ v2 ≤ 5000) → (from_ ≤ v2 ∧ v2 ≤ Xi S 876 5) → n2 = (5001 - v2).toNat → Rl lay0 (d + 1) m_to_skip 2 [(0, .ref 876), (2, iv v2)] [] S (Q_to_skip S ts from_) := by
    intro n2
    induction n2 using Nat.strongRecOn with
    | ind n2 ih2 =>
      intro v2 w2 w3 hm2
      refine l_iload_n rfl rfl ?_
      refine l_aload_n rfl rfl ?_
      refine l_gfi rfl rfl rfl rfl rfl ?_
      refine l_icmp_ge rfl rfl (by unfold rg; omega) (by unfold rg; omega) (fun w4 => ?_) (fun w5 => ?_)
      · refine l_aload_n rfl rfl ?_
        refine l_gfi rfl rfl rfl rfl rfl ?_
        refine l_ireturn rfl rfl ?_
        exact ⟨rfl, _, rfl, ⟨by omega, by omega⟩, (by first | assumption | omega)⟩
      · refine l_aload_n rfl rfl ?_
        refine l_gfr rfl rfl rfl rfl rfl hts ?_
        refine l_iload_n rfl rfl ?_
        refine l_baload (n := 5000) rfl (tp_sv (by assumption)) (lay_tp (by assumption)) (by decide) (by omega) (by omega) (by unfold rg; omega) ?_
        have w7 : -128 ≤ (Xi S ts ((v2).toNat)) ∧ (Xi S ts ((v2).toNat)) ≤ 127 := tpc hH (by assumption)
        refine l_istore_n rfl rfl rfl ?_
        refine l_iload_n rfl rfl ?_
        refine l_bipush rfl rfl ?_
        refine l_icmp_ne rfl rfl (by unfold rg; omega) (by unfold rg; omega) (fun w8 => ?_) (fun w9 => ?_)
        · refine l_iload_n rfl rfl ?_
          refine l_bipush rfl rfl ?_
          refine l_icmp_eq rfl rfl (by unfold rg; omega) (by unfold rg; omega) (fun w10 => ?_) (fun w11 => ?_)
          · refine l_iinc rfl rfl rfl rfl ?_
            refine l_goto rfl rfl ?_
            refine l_goto rfl rfl ?_
            exact Rl_weak (ih2 _ (by omega) ((v2 + 1)) (by omega) (by omega) rfl) (And.intro rfl (And.intro rfl (True.intro)))
          · refine l_iload_n rfl rfl ?_
            refine l_bipush rfl rfl ?_
            refine l_icmp_eq rfl rfl (by unfold rg; omega) (by unfold rg; omega) (fun w12 => ?_) (fun w13 => ?_)
            · refine l_iinc rfl rfl rfl rfl ?_
              refine l_goto rfl rfl ?_
              refine l_goto rfl rfl ?_
              exact Rl_weak (ih2 _ (by omega) ((v2 + 1)) (by omega) (by omega) rfl) (And.intro rfl (And.intro rfl (True.intro)))
            · refine l_iload_n rfl rfl ?_
              refine l_bipush rfl rfl ?_
              refine l_icmp_eq rfl rfl (by unfold rg; omega) (by unfold rg; omega) (fun w14 => ?_) (fun w15 => ?_)
              · refine l_iinc rfl rfl rfl rfl ?_
                refine l_goto rfl rfl ?_
                refine l_goto rfl rfl ?_
                exact Rl_weak (ih2 _ (by omega) ((v2 + 1)) (by omega) (by omega) rfl) (And.intro rfl (And.intro rfl (True.intro)))
              · refine l_iload_n rfl rfl ?_
                refine l_bipush rfl rfl ?_
                refine l_icmp_ne rfl rfl (by unfold rg; omega) (by unfold rg; omega) (fun w16 => ?_) (fun w17 => ?_)
                · refine l_iload_n rfl rfl ?_
                  refine l_ireturn rfl rfl ?_
                  exact ⟨rfl, _, rfl, ⟨by omega, by omega⟩, (by first | assumption | omega)⟩
                · refine l_iinc rfl rfl rfl rfl ?_
                  refine l_goto rfl rfl ?_
                  refine l_goto rfl rfl ?_
                  exact Rl_weak (ih2 _ (by omega) ((v2 + 1)) (by omega) (by omega) rfl) (And.intro rfl (And.intro rfl (True.intro)))
        · refine l_aload_n rfl rfl ?_
          refine l_iload_n rfl rfl ?_
          refine l_callV rfl rfl rfl (t_to_closing hH ts v2 ⟨by omega, by omega⟩ hts htp _) ?_
          rintro _ _ ⟨rfl, z20, rfl, w20, w19⟩
          show Rl _ _ _ _ _ [iv z20] _ _
          refine l_istore rfl rfl rfl ?_
          refine l_iload rfl rfl ?_
          refine l_iconst rfl ?_
          refine l_icmp_ne rfl rfl (by unfold rg; omega) (by unfold rg; omega) (fun w21 => ?_) (fun w22 => ?_)
          · refine l_iload rfl rfl ?_
            refine l_iconst rfl ?_
            refine l_iadd rfl ?_
            refine l_istore_n rfl rfl rfl ?_
            refine l_goto rfl rfl ?_
            refine l_goto rfl rfl ?_
            exact Rl_weak (ih2 _ (by omega) ((z20 + 1)) (by omega) (by omega) rfl) (And.intro rfl (And.intro rfl (True.intro)))
          · refine l_iload_n rfl rfl ?_
            refine l_ireturn rfl rfl ?_
            exact ⟨rfl, _, rfl, ⟨by omega, by omega⟩, (by first | assumption | omega)⟩
  refine l_iload_n rfl rfl ?_
  refine l_istore_n rfl rfl rfl ?_
  exact Rl_weak (C2 _ (from_) (by omega) (by omega) rfl) (And.intro rfl (And.intro rfl (True.intro)))
abbrev Q_to_keyOf (S : sS) (code : Int) : pst := fun r S1 => S = S1 ∧ (∃ z : Int, r = some (iv z) ∧ (0 ≤ z ∧ z ≤ 100))
set_option maxRecDepth 100000 in
theorem t_to_keyOf {S : sS} (hH : HI S) (code : Int) (d : Nat) : Mt lay0 (d + 1) m_to_keyOf [.ref 876, jw code] S (Q_to_keyOf S code) := by
  refine Mt_R rfl rfl ?_
  have C2 : ∀ (n2 : Nat) (v3 : Int), (0 ≤ v3 ∧ v3 ≤ 55) → n2 = (56 - v3).toNat → Rl lay0 (d + 0) m_to_keyOf 2 [(0, .ref 876), (1, jw code), (3, iv v3)] [] S (Q_to_keyOf S code) := by
    intro n2
    induction n2 using Nat.strongRecOn with
    | ind n2 ih2 =>
      intro v3 w1 hm2
      refine l_iload_n rfl rfl ?_
      refine l_bipush rfl rfl ?_
      refine l_icmp_ge rfl rfl (by unfold rg; omega) (by unfold rg; omega) (fun w2 => ?_) (fun w3 => ?_)
      · refine l_bipush rfl rfl ?_
        refine l_ireturn rfl rfl ?_
        exact ⟨rfl, _, rfl, ⟨by omega, by omega⟩⟩
      · refine l_aload_n rfl rfl ?_
        refine l_gfr rfl rfl rfl rfl rfl (hH.r 876 3 880 rfl) ?_
        refine l_iload_n rfl rfl ?_
        refine l_laload (n := 55) rfl rfl (by omega) (by omega) (by unfold rg; omega) ?_
        have w4 : -9223372036854775808 ≤ (Xj S 880 ((v3).toNat)) ∧ (Xj S 880 ((v3).toNat)) < 9223372036854775808 := Xj_rg
        refine l_lload_n rfl rfl ?_
        refine l_lcmpA rfl (fun c5 w5 => ?_)
        refine l_if_ne rfl rfl (by unfold rg; omega) (fun w6 => ?_) (fun w7 => ?_)
        · refine l_iinc rfl rfl rfl rfl ?_
          refine l_goto rfl rfl ?_
          exact Rl_weak (ih2 _ (by omega) ((v3 + 1)) (by omega) rfl) (And.intro rfl (And.intro rfl (And.intro rfl (True.intro))))
        · refine l_iload_n rfl rfl ?_
          refine l_ireturn rfl rfl ?_
          exact ⟨rfl, _, rfl, ⟨by omega, by omega⟩⟩
  refine l_iconst rfl ?_
  refine l_istore_n rfl rfl rfl ?_
  exact Rl_weak (C2 _ (0) (by omega) rfl) (And.intro rfl (And.intro rfl (And.intro rfl (True.intro))))
abbrev Q_to_endsBadly (S : sS) : pst := fun r S1 => S = S1 ∧ (∃ z : Int, r = some (iv z) ∧ (0 ≤ z ∧ z ≤ 1))
set_option maxRecDepth 100000 in
theorem t_to_endsBadly {S : sS} (hH : HI S) (d : Nat) : Mt lay0 (d + 2) m_to_endsBadly [.ref 876] S (Q_to_endsBadly S) := by
  refine Mt_R rfl rfl ?_
  refine l_aload_n rfl rfl ?_
  refine l_aload_n rfl rfl ?_
  refine l_gfi rfl rfl rfl rfl rfl ?_
  have w1 : 0 ≤ (Xi S 876 6) ∧ (Xi S 876 6) ≤ 5002 := hH.c _ _
  refine l_iconst rfl ?_
  refine l_isub rfl ?_
  have w2 : 0 ≤ Xi S 876 7 ∧ Xi S 876 7 ≤ 5125 := hH.c _ _
  refine l_callV rfl rfl rfl (t_to_typeAt hH ((Xi S 876 6) - 1) ⟨by omega, by omega⟩ _) ?_
  rintro _ _ ⟨rfl, z6, rfl, w6, w3, w4, w5⟩
  show Rl _ _ _ _ _ [iv z6] _ _
  refine l_bipush rfl rfl ?_
  refine l_icmp_ne rfl rfl (by unfold rg; omega) (by unfold rg; omega) (fun w7 => ?_) (fun w8 => ?_)
  · refine l_iconst rfl ?_
    refine l_ireturn rfl rfl ?_
    exact ⟨rfl, _, rfl, ⟨by omega, by omega⟩⟩
  · refine l_iconst rfl ?_
    refine l_goto rfl rfl ?_
    refine l_ireturn rfl rfl ?_
    exact ⟨rfl, _, rfl, ⟨by omega, by omega⟩⟩
abbrev Q_to_lastRow (S : sS) : pst := fun r S1 => S = S1 ∧ (∃ z : Int, r = some (iv z) ∧ (-1 ≤ z ∧ z ≤ 5129) ∧ (z = Xi S 876 7 - 1))
set_option maxRecDepth 100000 in
theorem t_to_lastRow {S : sS} (hH : HI S) (d : Nat) : Mt lay0 (d + 1) m_to_lastRow [.ref 876] S (Q_to_lastRow S) := by
  refine Mt_R rfl rfl ?_
  have w1 : 0 ≤ Xi S 876 7 ∧ Xi S 876 7 ≤ 5125 := hH.c _ _
  refine l_aload_n rfl rfl ?_
  refine l_gfi rfl rfl rfl rfl rfl ?_
  refine l_iconst rfl ?_
  refine l_isub rfl ?_
  refine l_ireturn rfl rfl ?_
  exact ⟨rfl, _, rfl, ⟨by omega, by omega⟩, (by first | assumption | omega)⟩
def md_to_wrong : List rec := [(876, 877, 8, 9), (876, 877, 9, 10)]
abbrev Q_to_wrong (S : sS) (code : Int) (row : Int) : pst := fun r S1 => HI S1 ∧ FR md_to_wrong S S1 ∧ (∃ z : Int, r = some (iv z) ∧ (0 ≤ z ∧ z ≤ 1) ∧ (z = 0) ∧ (1 ≤ code → Xi S1 876 8 ≠ 0))
set_option maxRecDepth 100000 in
theorem t_to_wrong {S : sS} (hH : HI S) (code : Int) (row : Int) (hcode : 0 ≤ code ∧ code ≤ 9) (hrow : -2147483648 ≤ row ∧ row ≤ 2147483647) (d : Nat) : Mt lay0 (d + 1) m_to_wrong [.ref 876, iv code, iv row] S (Q_to_wrong S code row) := by
  refine Mt_R rfl rfl ?_
  have hF : FR md_to_wrong S S := FR.rf
  refine l_aload_n rfl rfl ?_
  refine l_gfi rfl rfl rfl rfl rfl ?_
  have w1 : 0 ≤ (Xi S 876 8) ∧ (Xi S 876 8) ≤ 9 := hH.c _ _
  refine l_if_ne rfl rfl (by unfold rg; omega) (fun w2 => ?_) (fun w3 => ?_)
  · refine l_iconst rfl ?_
    refine l_ireturn rfl rfl ?_
    have w4 : 0 ≤ Xi S 876 8 ∧ Xi S 876 8 ≤ 9 := hH.c _ _
    exact ⟨hH, hF, _, rfl, ⟨by omega, by omega⟩, (by first | assumption | omega), (by first | assumption | omega)⟩
  · refine l_aload_n rfl rfl ?_
    refine l_iload_n rfl rfl ?_
    refine l_pfi rfl rfl rfl rfl ?_
    obtain ⟨U1, eU1⟩ : ∃ T : sS, T = uI S 876 8 (Int32.ofInt code) := ⟨_, rfl⟩
    rw [← eU1]
    have hHU1 : HI U1 := by rw [eU1]; exact HI_w hH (show 0 ≤ code by omega) (show code ≤ 9 by omega)
    have hFU1 : FR md_to_wrong S U1 := by rw [eU1]; exact FR.wI hF (mdf_i (r := (876, 877, 8, 9)) (List.mem_of_getElem? (i := 0) rfl) (inR_i (by omega) (by omega) (by omega) (by omega)))
    have w5 : Xi U1 876 8 = code := by rw [eU1]; exact Xi_same (by unfold rg; omega)
    refine l_aload_n rfl rfl ?_
    refine l_iload_n rfl rfl ?_
    refine l_if_lt rfl rfl (by unfold rg; omega) (fun w6 => ?_) (fun w7 => ?_)
    · refine l_aload_n rfl rfl ?_
      refine l_gfi rfl rfl rfl rfl rfl ?_
      have w8 : 0 ≤ (Xi U1 876 5) ∧ (Xi U1 876 5) ≤ 5000 := hHU1.c _ _
      refine l_pfi rfl rfl rfl rfl ?_
      obtain ⟨U2, eU2⟩ : ∃ T : sS, T = uI U1 876 9 (Int32.ofInt (Xi U1 876 5)) := ⟨_, rfl⟩
      rw [← eU2]
      have hHU2 : HI U2 := by rw [eU2]; exact HI_w hHU1 (show 0 ≤ (Xi U1 876 5) by omega) (show (Xi U1 876 5) ≤ 5000 by omega)
      have hFU2 : FR md_to_wrong S U2 := by rw [eU2]; exact FR.wI hFU1 (mdf_i (r := (876, 877, 9, 10)) (List.mem_of_getElem? (i := 1) rfl) (inR_i (by omega) (by omega) (by omega) (by omega)))
      have w9 : Xi U2 876 9 = (Xi U1 876 5) := by rw [eU2]; exact Xi_same (by unfold rg; omega)
      refine l_iconst rfl ?_
      refine l_ireturn rfl rfl ?_
      have w10 : Xi U2 876 8 = Xi U1 876 8 := (show Xi U2 876 8 = Xi U1 876 8 from by rw [eU2]; exact Xi_ne (by omega))
      have w11 : 0 ≤ Xi U1 876 8 ∧ Xi U1 876 8 ≤ 9 := hHU1.c _ _
      exact ⟨hHU2, hFU2, _, rfl, ⟨by omega, by omega⟩, (by first | assumption | omega), (by first | assumption | omega)⟩
    · refine l_iload_n rfl rfl ?_
      refine l_aload_n rfl rfl ?_
      refine l_gfi rfl rfl rfl rfl rfl ?_
      have w12 : 0 ≤ (Xi U1 876 7) ∧ (Xi U1 876 7) ≤ 5125 := hHU1.c _ _
      refine l_icmp_ge rfl rfl (by unfold rg; omega) (by unfold rg; omega) (fun w13 => ?_) (fun w14 => ?_)
      · refine l_aload_n rfl rfl ?_
        refine l_gfi rfl rfl rfl rfl rfl ?_
        have w15 : 0 ≤ (Xi U1 876 5) ∧ (Xi U1 876 5) ≤ 5000 := hHU1.c _ _
        refine l_pfi rfl rfl rfl rfl ?_
        obtain ⟨U3, eU3⟩ : ∃ T : sS, T = uI U1 876 9 (Int32.ofInt (Xi U1 876 5)) := ⟨_, rfl⟩
        rw [← eU3]
        have hHU3 : HI U3 := by rw [eU3]; exact HI_w hHU1 (show 0 ≤ (Xi U1 876 5) by omega) (show (Xi U1 876 5) ≤ 5000 by omega)
        have hFU3 : FR md_to_wrong S U3 := by rw [eU3]; exact FR.wI hFU1 (mdf_i (r := (876, 877, 9, 10)) (List.mem_of_getElem? (i := 1) rfl) (inR_i (by omega) (by omega) (by omega) (by omega)))
        have w16 : Xi U3 876 9 = (Xi U1 876 5) := by rw [eU3]; exact Xi_same (by unfold rg; omega)
        refine l_iconst rfl ?_
        refine l_ireturn rfl rfl ?_
        have w17 : Xi U3 876 8 = Xi U1 876 8 := (show Xi U3 876 8 = Xi U1 876 8 from by rw [eU3]; exact Xi_ne (by omega))
        have w18 : 0 ≤ Xi U1 876 8 ∧ Xi U1 876 8 ≤ 9 := hHU1.c _ _
        exact ⟨hHU3, hFU3, _, rfl, ⟨by omega, by omega⟩, (by first | assumption | omega), (by first | assumption | omega)⟩
      · refine l_aload_n rfl rfl ?_
        refine l_gfr rfl rfl rfl rfl rfl (hHU1.r 876 1 878 rfl) ?_
        refine l_iload_n rfl rfl ?_
        refine l_iaload (n := 5130) rfl rfl (by omega) (by omega) (by unfold rg; omega) ?_
        have w19 : 0 ≤ (Xi U1 878 ((row).toNat)) ∧ (Xi U1 878 ((row).toNat)) ≤ 5000 := hHU1.c _ _
        refine l_goto rfl rfl ?_
        refine l_pfi rfl rfl rfl rfl ?_
        obtain ⟨U4, eU4⟩ : ∃ T : sS, T = uI U1 876 9 (Int32.ofInt (Xi U1 878 ((row).toNat))) := ⟨_, rfl⟩
        rw [← eU4]
        have hHU4 : HI U4 := by rw [eU4]; exact HI_w hHU1 (show 0 ≤ (Xi U1 878 ((row).toNat)) by omega) (show (Xi U1 878 ((row).toNat)) ≤ 5000 by omega)
        have hFU4 : FR md_to_wrong S U4 := by rw [eU4]; exact FR.wI hFU1 (mdf_i (r := (876, 877, 9, 10)) (List.mem_of_getElem? (i := 1) rfl) (inR_i (by omega) (by omega) (by omega) (by omega)))
        have w20 : Xi U4 876 9 = (Xi U1 878 ((row).toNat)) := by rw [eU4]; exact Xi_same (by unfold rg; omega)
        refine l_iconst rfl ?_
        refine l_ireturn rfl rfl ?_
        have w21 : Xi U4 876 8 = Xi U1 876 8 := (show Xi U4 876 8 = Xi U1 876 8 from by rw [eU4]; exact Xi_ne (by omega))
        have w22 : 0 ≤ Xi U1 876 8 ∧ Xi U1 876 8 ≤ 9 := hHU1.c _ _
        exact ⟨hHU4, hFU4, _, rfl, ⟨by omega, by omega⟩, (by first | assumption | omega), (by first | assumption | omega)⟩
abbrev Q_to_runEndUpTo (S : sS) (from_ : Int) (limit : Int) : pst := fun r S1 => S = S1 ∧ (∃ z : Int, r = some (iv z) ∧ (-2147483648 ≤ z ∧ z ≤ 2147483647) ∧ (from_ ≤ z) ∧ (from_ < z → 0 ≤ from_ ∧ z ≤ limit ∧ z ≤ Xi S 876 7) ∧ (from_ < z → Xi S 877 from_.toNat = 100) ∧ (0 ≤ from_ → from_ < limit → from_ < Xi S 876 7 → Xi S 877 from_.toNat = 100 → from_ < z) ∧ (∀ r : Nat, from_ ≤ r → (r : Int) < z → Xi S 877 r = 100) ∧ (z < limit → z < Xi S 876 7 → 0 ≤ z → Xi S 877 z.toNat ≠ 100) ∧ (z = ruF S from_ limit))
set_option maxRecDepth 100000 in
theorem t_to_runEndUpTo {S : sS} (hH : HI S) (from_ : Int) (limit : Int) (hfrom_ : -2147483648 ≤ from_ ∧ from_ ≤ 2147483647) (hlimit : -2147483648 ≤ limit ∧ limit ≤ 2147483647) (d : Nat) : Mt lay0 (d + 1) m_to_runEndUpTo [.ref 876, iv from_, iv limit] S (Q_to_runEndUpTo S from_ limit) := by
  refine Mt_R rfl rfl ?_
  have w1 : 0 ≤ Xi S 876 7 ∧ Xi S 876 7 ≤ 5125 := hH.c _ _
  have C2 : ∀ (n2 : Nat) (v3 : Int), (-2147483648 ≤ v3 ∧ v3 ≤ 2147483647) → (ruF S from_ limit = ren S limit (5131 - (v3 - from_)).toNat v3) → (∀ r : Nat, from_ ≤ r → (r : Int) < v3 → Xi S 877 r = 100) → (from_ ≤ v3) → (from_ < v3 → 0 ≤ from_ ∧ v3 ≤ limit ∧ v3 ≤ Xi S 876 7 ∧ Xi S 877 from_.toNat = 100) → (v3 = from_ → Xi S 877 v3.toNat = Xi S 877 from_.toNat) → n2 = (5131 - v3).toNat → Rl lay0 (d + 0) m_to_runEndUpTo 2 [(0, .ref 876), (2, iv limit), (3, iv v3)] [] S (Q_to_runEndUpTo S from_ limit) := by
    intro n2
    induction n2 using Nat.strongRecOn with
    | ind n2 ih2 =>
      intro v3 w2 hv2 hq w3 w4 w5 hm2
      have C36 : ∀  (v3 : Int), (-2147483648 ≤ v3 ∧ v3 ≤ 2147483647) → (ruF S from_ limit = v3) → (∀ r : Nat, from_ ≤ r → (r : Int) < v3 → Xi S 877 r = 100) → (from_ ≤ v3) → (from_ < v3 → 0 ≤ from_ ∧ v3 ≤ limit ∧ v3 ≤ Xi S 876 7 ∧ Xi S 877 from_.toNat = 100) → (0 ≤ from_ → from_ < limit → from_ < Xi S 876 7 → Xi S 877 from_.toNat = 100 → from_ < v3) → (v3 < limit → v3 < Xi S 876 7 → 0 ≤ v3 → Xi S 877 v3.toNat ≠ 100) → Rl lay0 (d + 0) m_to_runEndUpTo 36 [(3, iv v3)] [] S (Q_to_runEndUpTo S from_ limit) := by
        intro v3 w6 hv36 hq36 w7 w8 w9 w10
        refine l_iload_n rfl rfl ?_
        refine l_ireturn rfl rfl ?_
        exact ⟨rfl, _, rfl, ⟨by omega, by omega⟩, (by omega), (by omega), (by omega), (by omega), (by assumption), (by omega), (hv36.symm)⟩
      refine l_iload_n rfl rfl ?_
      refine l_if_lt rfl rfl (by unfold rg; omega) (fun w11 => ?_) (fun w12 => ?_)
      · exact Rl_weak (C36 (v3) (by omega) (hv2.trans (ren_e (by omega))) (by first | assumption | omega) (by omega) (by omega) (by omega) (by omega)) (And.intro rfl (True.intro))
      · refine l_iload_n rfl rfl ?_
        refine l_iload_n rfl rfl ?_
        refine l_icmp_ge rfl rfl (by unfold rg; omega) (by unfold rg; omega) (fun w13 => ?_) (fun w14 => ?_)
        · exact Rl_weak (C36 (v3) (by omega) (hv2.trans (ren_e (by omega))) (by first | assumption | omega) (by omega) (by omega) (by omega) (by omega)) (And.intro rfl (True.intro))
        · refine l_iload_n rfl rfl ?_
          refine l_aload_n rfl rfl ?_
          refine l_gfi rfl rfl rfl rfl rfl ?_
          refine l_icmp_ge rfl rfl (by unfold rg; omega) (by unfold rg; omega) (fun w15 => ?_) (fun w16 => ?_)
          · exact Rl_weak (C36 (v3) (by omega) (hv2.trans (ren_e (by omega))) (by first | assumption | omega) (by omega) (by omega) (by omega) (by omega)) (And.intro rfl (True.intro))
          · refine l_aload_n rfl rfl ?_
            refine l_gfr rfl rfl rfl rfl rfl (hH.r 876 0 877 rfl) ?_
            refine l_iload_n rfl rfl ?_
            refine l_iaload (n := 5130) rfl rfl (by omega) (by omega) (by unfold rg; omega) ?_
            have w17 : 0 ≤ (Xi S 877 ((v3).toNat)) ∧ (Xi S 877 ((v3).toNat)) ≤ 108 := hH.c _ _
            refine l_bipush rfl rfl ?_
            refine l_icmp_ne rfl rfl (by unfold rg; omega) (by unfold rg; omega) (fun w18 => ?_) (fun w19 => ?_)
            · exact Rl_weak (C36 (v3) (by omega) (hv2.trans (ren_e (by omega))) (by first | assumption | omega) (by omega) (by omega) (by omega) (by omega)) (And.intro rfl (True.intro))
            · refine l_iinc rfl rfl rfl rfl ?_
              refine l_goto rfl rfl ?_
              exact Rl_weak (ih2 _ (by omega) ((v3 + 1)) (by omega) (by first | exact ru_0 | exact hv2.trans (ren_s (by omega) (by omega))) (by first | exact run_step hq (by omega) (by omega) | (intro r a b; omega)) (by omega) (by omega) (by omega) rfl) (And.intro rfl (And.intro rfl (And.intro rfl (True.intro))))
  refine l_iload_n rfl rfl ?_
  refine l_istore_n rfl rfl rfl ?_
  exact Rl_weak (C2 _ (from_) (by omega) (by first | exact ru_0 | exact hv2.trans (ren_s (by omega) (by omega))) (by first | exact run_step hq (by omega) (by omega) | (intro r a b; omega)) (by omega) (by omega) (by omega) rfl) (And.intro rfl (And.intro rfl (And.intro rfl (True.intro))))
abbrev Q_to_runEnd (S : sS) (from_ : Int) : pst := fun r S1 => S = S1 ∧ (∃ z : Int, r = some (iv z) ∧ (-2147483648 ≤ z ∧ z ≤ 2147483647) ∧ (from_ ≤ z) ∧ (from_ < z → 0 ≤ from_ ∧ z ≤ Xi S 876 7) ∧ (from_ < z → Xi S 877 from_.toNat = 100) ∧ (0 ≤ from_ → from_ < Xi S 876 7 → Xi S 877 from_.toNat = 100 → from_ < z) ∧ (∀ r : Nat, from_ ≤ r → (r : Int) < z → Xi S 877 r = 100) ∧ (z < Xi S 876 7 → 0 ≤ z → Xi S 877 z.toNat ≠ 100) ∧ (z = ruF S from_ (Xi S 876 7)))
set_option maxRecDepth 100000 in
theorem t_to_runEnd {S : sS} (hH : HI S) (from_ : Int) (hfrom_ : -2147483648 ≤ from_ ∧ from_ ≤ 2147483647) (d : Nat) : Mt lay0 (d + 2) m_to_runEnd [.ref 876, iv from_] S (Q_to_runEnd S from_) := by
  refine Mt_R rfl rfl ?_
  have w1 : 0 ≤ Xi S 876 7 ∧ Xi S 876 7 ≤ 5125 := hH.c _ _
  refine l_aload_n rfl rfl ?_
  refine l_iload_n rfl rfl ?_
  refine l_aload_n rfl rfl ?_
  refine l_gfi rfl rfl rfl rfl rfl ?_
  refine l_callV rfl rfl rfl (t_to_runEndUpTo hH from_ (Xi S 876 7) ⟨by omega, by omega⟩ ⟨by omega, by omega⟩ _) ?_
  rintro _ _ ⟨rfl, z10, rfl, w10, w3, w4, w5, w6, w7, w8, w9⟩
  show Rl _ _ _ _ _ [iv z10] _ _
  refine l_ireturn rfl rfl ?_
  exact ⟨rfl, _, rfl, ⟨by omega, by omega⟩, (by first | assumption | omega), (by first | assumption | omega), (by first | assumption | omega), (by first | assumption | omega), (by first | assumption | omega), (by first | assumption | omega), (by first | assumption | omega)⟩
abbrev Q_to_behindArt (S : sS) (row : Int) : pst := fun r S1 => S = S1 ∧ (∃ z : Int, r = some (iv z) ∧ (-2147483648 ≤ z ∧ z ≤ 2147483647) ∧ ((z = row ∨ (z = row + 1 ∧ 0 ≤ row ∧ row < Xi S 876 7 ∧ Xi S 877 row.toNat ≤ 3))))
set_option maxRecDepth 100000 in
theorem t_to_behindArt {S : sS} (hH : HI S) (row : Int) (hrow : -2147483648 ≤ row ∧ row ≤ 2147483646) (d : Nat) : Mt lay0 (d + 2) m_to_behindArt [.ref 876, iv row] S (Q_to_behindArt S row) := by
  refine Mt_R rfl rfl ?_
  have w1 : 0 ≤ Xi S 876 7 ∧ Xi S 876 7 ≤ 5125 := hH.c _ _
  refine l_aload_n rfl rfl ?_
  refine l_iload_n rfl rfl ?_
  refine l_callV rfl rfl rfl (t_to_typeAt hH row ⟨by omega, by omega⟩ _) ?_
  rintro _ _ ⟨rfl, z6, rfl, w6, w3, w4, w5⟩
  show Rl _ _ _ _ _ [iv z6] _ _
  refine l_callS rfl rfl (by decide) rfl (t_rs_isArt hH z6 ⟨by omega, by omega⟩ _) ?_
  rintro _ _ ⟨rfl, z8, rfl, w8, w7⟩
  show Rl _ _ _ _ _ [iv z8] _ _
  refine l_if_eq rfl rfl (by unfold rg; omega) (fun w9 => ?_) (fun w10 => ?_)
  · refine l_iload_n rfl rfl ?_
    refine l_ireturn rfl rfl ?_
    exact ⟨rfl, _, rfl, ⟨by omega, by omega⟩, (by first | assumption | omega)⟩
  · refine l_iload_n rfl rfl ?_
    refine l_iconst rfl ?_
    refine l_iadd rfl ?_
    refine l_goto rfl rfl ?_
    refine l_ireturn rfl rfl ?_
    exact ⟨rfl, _, rfl, ⟨by omega, by omega⟩, (by first | assumption | omega)⟩
abbrev Q_to_beginsProperty (S : sS) (row : Int) : pst := fun r S1 => S = S1 ∧ (∃ z : Int, r = some (iv z) ∧ (0 ≤ z ∧ z ≤ 1) ∧ (z = 1 → PROP S row))
set_option maxRecDepth 100000 in
theorem t_to_beginsProperty {S : sS} (hH : HI S) (row : Int) (hrow : -2147483647 ≤ row ∧ row ≤ 2147483645) (d : Nat) : Mt lay0 (d + 2) m_to_beginsProperty [.ref 876, iv row] S (Q_to_beginsProperty S row) := by
  refine Mt_R rfl rfl ?_
  refine l_aload_n rfl rfl ?_
  refine l_iload_n rfl rfl ?_
  have w1 : 0 ≤ Xi S 876 7 ∧ Xi S 876 7 ≤ 5125 := hH.c _ _
  refine l_callV rfl rfl rfl (t_to_typeAt hH row ⟨by omega, by omega⟩ _) ?_
  rintro _ _ ⟨rfl, z5, rfl, w5, w2, w3, w4⟩
  show Rl _ _ _ _ _ [iv z5] _ _
  refine l_iconst rfl ?_
  refine l_icmp_ne rfl rfl (by unfold rg; omega) (by unfold rg; omega) (fun w6 => ?_) (fun w7 => ?_)
  · refine l_iconst rfl ?_
    refine l_ireturn rfl rfl ?_
    exact ⟨rfl, _, rfl, ⟨by omega, by omega⟩, (by first | (intro hz; omega) | (intro _; exact PROP_of (by assumption) (by omega) (by omega) (by omega) (by omega) (by omega)))⟩
  · refine l_aload_n rfl rfl ?_
    refine l_iload_n rfl rfl ?_
    refine l_iconst rfl ?_
    refine l_iadd rfl ?_
    refine l_callV rfl rfl rfl (t_to_typeAt hH (row + 1) ⟨by omega, by omega⟩ _) ?_
    rintro _ _ ⟨rfl, z12, rfl, w12, w9, w10, w11⟩
    show Rl _ _ _ _ _ [iv z12] _ _
    refine l_bipush rfl rfl ?_
    refine l_icmp_ne rfl rfl (by unfold rg; omega) (by unfold rg; omega) (fun w13 => ?_) (fun w14 => ?_)
    · refine l_iconst rfl ?_
      refine l_ireturn rfl rfl ?_
      exact ⟨rfl, _, rfl, ⟨by omega, by omega⟩, (by first | (intro hz; omega) | (intro _; exact PROP_of (by assumption) (by omega) (by omega) (by omega) (by omega) (by omega)))⟩
    · refine l_aload_n rfl rfl ?_
      refine l_aload_n rfl rfl ?_
      refine l_iload_n rfl rfl ?_
      refine l_iconst rfl ?_
      refine l_iadd rfl ?_
      refine l_aload_n rfl rfl ?_
      refine l_gfi rfl rfl rfl rfl rfl ?_
      have w15 : 0 ≤ (Xi S 876 7) ∧ (Xi S 876 7) ≤ 5125 := hH.c _ _
      refine l_callV rfl rfl rfl (t_to_runEndUpTo hH (row + 1) (Xi S 876 7) ⟨by omega, by omega⟩ ⟨by omega, by omega⟩ _) ?_
      rintro _ _ ⟨rfl, z24, rfl, w24, w17, w18, w19, w20, w21, w22, w23⟩
      show Rl _ _ _ _ _ [iv z24, .ref 876] _ _
      refine l_callV rfl rfl rfl (t_to_typeAt hH z24 ⟨by omega, by omega⟩ _) ?_
      rintro _ _ ⟨rfl, z29, rfl, w29, w26, w27, w28⟩
      show Rl _ _ _ _ _ [iv z29] _ _
      refine l_bipush rfl rfl ?_
      refine l_icmp_ne rfl rfl (by unfold rg; omega) (by unfold rg; omega) (fun w30 => ?_) (fun w31 => ?_)
      · refine l_iconst rfl ?_
        refine l_ireturn rfl rfl ?_
        exact ⟨rfl, _, rfl, ⟨by omega, by omega⟩, (by first | (intro hz; omega) | (intro _; exact PROP_of (by assumption) (by omega) (by omega) (by omega) (by omega) (by omega)))⟩
      · refine l_iconst rfl ?_
        refine l_goto rfl rfl ?_
        refine l_ireturn rfl rfl ?_
        exact ⟨rfl, _, rfl, ⟨by omega, by omega⟩, (by first | (intro hz; omega) | (intro _; exact PROP_of (by assumption) (by omega) (by omega) (by omega) (by omega) (by omega)))⟩
abbrev Q_to_firstOf (S : sS) (type : Int) (from_ : Int) (to : Int) : pst := fun r S1 => S = S1 ∧ (∃ z : Int, r = some (iv z) ∧ (-2147483648 ≤ z ∧ z ≤ 2147483647) ∧ (z = -1 ∨ (from_ ≤ z ∧ z < to)))
set_option maxRecDepth 100000 in
theorem t_to_firstOf {S : sS} (hH : HI S) (type : Int) (from_ : Int) (to : Int) (htype : -2147483648 ≤ type ∧ type ≤ 2147483647) (hfrom_ : -2147483648 ≤ from_ ∧ from_ ≤ 2147483647) (hto : -2147483648 ≤ to ∧ to ≤ 5131) (d : Nat) : Mt lay0 (d + 2) m_to_firstOf [.ref 876, iv type, iv from_, iv to] S (Q_to_firstOf S type from_ to) := by
  refine Mt_R rfl rfl ?_
  have C3 : ∀ (n3 : Nat) (v4 : Int), (-2147483648 ≤ v4 ∧ v4 ≤ 2147483647) → (from_ ≤ v4) → n3 = (to - v4).toNat → Rl lay0 (d + 1) m_to_firstOf 3 [(0, .ref 876), (1, iv type), (3, iv to), (4, iv v4)] [] S (Q_to_firstOf S type from_ to) := by
    intro n3
    induction n3 using Nat.strongRecOn with
    | ind n3 ih3 =>
      intro v4 w1 w2 hm3
      refine l_iload rfl rfl ?_
      refine l_iload_n rfl rfl ?_
      refine l_icmp_ge rfl rfl (by unfold rg; omega) (by unfold rg; omega) (fun w3 => ?_) (fun w4 => ?_)
      · refine l_iconst rfl ?_
        refine l_ireturn rfl rfl ?_
        exact ⟨rfl, _, rfl, ⟨by omega, by omega⟩, (by first | assumption | omega)⟩
      · refine l_aload_n rfl rfl ?_
        refine l_iload rfl rfl ?_
        have w5 : 0 ≤ Xi S 876 7 ∧ Xi S 876 7 ≤ 5125 := hH.c _ _
        refine l_callV rfl rfl rfl (t_to_typeAt hH v4 ⟨by omega, by omega⟩ _) ?_
        rintro _ _ ⟨rfl, z9, rfl, w9, w6, w7, w8⟩
        show Rl _ _ _ _ _ [iv z9] _ _
        refine l_iload_n rfl rfl ?_
        refine l_icmp_ne rfl rfl (by unfold rg; omega) (by unfold rg; omega) (fun w10 => ?_) (fun w11 => ?_)
        · refine l_iinc rfl rfl rfl rfl ?_
          refine l_goto rfl rfl ?_
          exact Rl_weak (ih3 _ (by omega) ((v4 + 1)) (by omega) (by omega) rfl) (And.intro rfl (And.intro rfl (And.intro rfl (And.intro rfl (True.intro)))))
        · refine l_iload rfl rfl ?_
          refine l_ireturn rfl rfl ?_
          exact ⟨rfl, _, rfl, ⟨by omega, by omega⟩, (by first | assumption | omega)⟩
  refine l_iload_n rfl rfl ?_
  refine l_istore rfl rfl rfl ?_
  exact Rl_weak (C3 _ (from_) (by omega) (by omega) rfl) (And.intro rfl (And.intro rfl (And.intro rfl (And.intro rfl (True.intro)))))
abbrev Q_to_tellingKey (S : sS) : pst := fun r S1 => S = S1 ∧ (∃ z : Int, r = some (iv z) ∧ (-1 ≤ z ∧ z ≤ 5129) ∧ (z = -1 ∨ (0 ≤ z ∧ z < Xi S 876 7)))
set_option maxRecDepth 100000 in
theorem t_to_tellingKey {S : sS} (hH : HI S) (d : Nat) : Mt lay0 (d + 1) m_to_tellingKey [.ref 876] S (Q_to_tellingKey S) := by
  refine Mt_R rfl rfl ?_
  have w1 : 0 ≤ Xi S 876 7 ∧ Xi S 876 7 ≤ 5125 := hH.c _ _
  have C2 : ∀ (n2 : Nat) (v1 : Int), (0 ≤ v1 ∧ v1 ≤ 5130) → n2 = (5131 - v1).toNat → Rl lay0 (d + 0) m_to_tellingKey 2 [(0, .ref 876), (1, iv v1)] [] S (Q_to_tellingKey S) := by
    intro n2
    induction n2 using Nat.strongRecOn with
    | ind n2 ih2 =>
      intro v1 w2 hm2
      refine l_iload_n rfl rfl ?_
      refine l_aload_n rfl rfl ?_
      refine l_gfi rfl rfl rfl rfl rfl ?_
      refine l_icmp_ge rfl rfl (by unfold rg; omega) (by unfold rg; omega) (fun w3 => ?_) (fun w4 => ?_)
      · refine l_iconst rfl ?_
        refine l_ireturn rfl rfl ?_
        exact ⟨rfl, _, rfl, ⟨by omega, by omega⟩, (by first | assumption | omega)⟩
      · refine l_aload_n rfl rfl ?_
        refine l_gfr rfl rfl rfl rfl rfl (hH.r 876 0 877 rfl) ?_
        refine l_iload_n rfl rfl ?_
        refine l_iaload (n := 5130) rfl rfl (by omega) (by omega) (by unfold rg; omega) ?_
        have w5 : 0 ≤ (Xi S 877 ((v1).toNat)) ∧ (Xi S 877 ((v1).toNat)) ≤ 108 := hH.c _ _
        refine l_istore_n rfl rfl rfl ?_
        refine l_iload_n rfl rfl ?_
        refine l_iconst rfl ?_
        refine l_icmp_eq rfl rfl (by unfold rg; omega) (by unfold rg; omega) (fun w6 => ?_) (fun w7 => ?_)
        · refine l_iload_n rfl rfl ?_
          refine l_ireturn rfl rfl ?_
          exact ⟨rfl, _, rfl, ⟨by omega, by omega⟩, (by first | assumption | omega)⟩
        · refine l_iload_n rfl rfl ?_
          refine l_iconst rfl ?_
          refine l_icmp_eq rfl rfl (by unfold rg; omega) (by unfold rg; omega) (fun w8 => ?_) (fun w9 => ?_)
          · refine l_iload_n rfl rfl ?_
            refine l_ireturn rfl rfl ?_
            exact ⟨rfl, _, rfl, ⟨by omega, by omega⟩, (by first | assumption | omega)⟩
          · refine l_iload_n rfl rfl ?_
            refine l_bipush rfl rfl ?_
            refine l_icmp_eq rfl rfl (by unfold rg; omega) (by unfold rg; omega) (fun w10 => ?_) (fun w11 => ?_)
            · refine l_iload_n rfl rfl ?_
              refine l_ireturn rfl rfl ?_
              exact ⟨rfl, _, rfl, ⟨by omega, by omega⟩, (by first | assumption | omega)⟩
            · refine l_iload_n rfl rfl ?_
              refine l_bipush rfl rfl ?_
              refine l_icmp_eq rfl rfl (by unfold rg; omega) (by unfold rg; omega) (fun w12 => ?_) (fun w13 => ?_)
              · refine l_iload_n rfl rfl ?_
                refine l_ireturn rfl rfl ?_
                exact ⟨rfl, _, rfl, ⟨by omega, by omega⟩, (by first | assumption | omega)⟩
              · refine l_iload_n rfl rfl ?_
                refine l_bipush rfl rfl ?_
                refine l_icmp_ne rfl rfl (by unfold rg; omega) (by unfold rg; omega) (fun w14 => ?_) (fun w15 => ?_)
                · refine l_iinc rfl rfl rfl rfl ?_
                  refine l_goto rfl rfl ?_
                  exact Rl_weak (ih2 _ (by omega) ((v1 + 1)) (by omega) rfl) (And.intro rfl (And.intro rfl (True.intro)))
                · refine l_iload_n rfl rfl ?_
                  refine l_ireturn rfl rfl ?_
                  exact ⟨rfl, _, rfl, ⟨by omega, by omega⟩, (by first | assumption | omega)⟩
  refine l_iconst rfl ?_
  refine l_istore_n rfl rfl rfl ?_
  exact Rl_weak (C2 _ (0) (by omega) rfl) (And.intro rfl (And.intro rfl (True.intro)))
abbrev Q_to_testEnd (S : sS) (from_ : Int) (now : Int) : pst := fun r S1 => S = S1 ∧ (∃ z : Int, r = some (iv z) ∧ (0 ≤ z ∧ z ≤ 5140) ∧ (from_ ≤ z ∨ z = Xi S 876 7) ∧ (from_ ≤ Xi S 876 7 → from_ ≤ z ∧ z ≤ Xi S 876 7))
set_option maxRecDepth 100000 in
theorem t_to_testEnd {S : sS} (hH : HI S) (from_ : Int) (now : Int) (hfrom_ : 0 ≤ from_ ∧ from_ ≤ 5140) (hnow : 0 ≤ now ∧ now ≤ 1) (d : Nat) : Mt lay0 (d + 1) m_to_testEnd [.ref 876, iv from_, iv now] S (Q_to_testEnd S from_ now) := by
  refine Mt_R rfl rfl ?_
  have w1 : 0 ≤ Xi S 876 7 ∧ Xi S 876 7 ≤ 5125 := hH.c _ _
  have C2 : ∀ (n2 : Nat) (v3 : Int), (0 ≤ v3 ∧ v3 ≤ 5140) → (from_ ≤ v3) → n2 = (5141 - v3).toNat → Rl lay0 (d + 0) m_to_testEnd 2 [(0, .ref 876), (2, iv now), (3, iv v3)] [] S (Q_to_testEnd S from_ now) := by
    intro n2
    induction n2 using Nat.strongRecOn with
    | ind n2 ih2 =>
      intro v3 w2 w3 hm2
      have C59 : ∀  (v3 : Int), (0 ≤ v3 ∧ v3 ≤ 5124) → (from_ ≤ v3) → (v3 < Xi S 876 7) → ((5141 - v3).toNat ≤ n2) → Rl lay0 (d + 0) m_to_testEnd 59 [(0, .ref 876), (2, iv now), (3, iv v3)] [] S (Q_to_testEnd S from_ now) := by
        intro v3 w4 w5 w6 w7
        refine l_iinc rfl rfl rfl rfl ?_
        refine l_goto rfl rfl ?_
        exact Rl_weak (ih2 _ (by omega) ((v3 + 1)) (by omega) (by omega) rfl) (And.intro rfl (And.intro rfl (And.intro rfl (True.intro))))
      refine l_iload_n rfl rfl ?_
      refine l_aload_n rfl rfl ?_
      refine l_gfi rfl rfl rfl rfl rfl ?_
      refine l_icmp_ge rfl rfl (by unfold rg; omega) (by unfold rg; omega) (fun w8 => ?_) (fun w9 => ?_)
      · refine l_aload_n rfl rfl ?_
        refine l_gfi rfl rfl rfl rfl rfl ?_
        refine l_ireturn rfl rfl ?_
        exact ⟨rfl, _, rfl, ⟨by omega, by omega⟩, (by first | assumption | omega), (by first | assumption | omega)⟩
      · refine l_aload_n rfl rfl ?_
        refine l_gfr rfl rfl rfl rfl rfl (hH.r 876 0 877 rfl) ?_
        refine l_iload_n rfl rfl ?_
        refine l_iaload (n := 5130) rfl rfl (by omega) (by omega) (by unfold rg; omega) ?_
        have w10 : 0 ≤ (Xi S 877 ((v3).toNat)) ∧ (Xi S 877 ((v3).toNat)) ≤ 108 := hH.c _ _
        refine l_istore rfl rfl rfl ?_
        refine l_iload rfl rfl ?_
        refine l_bipush rfl rfl ?_
        refine l_icmp_eq rfl rfl (by unfold rg; omega) (by unfold rg; omega) (fun w11 => ?_) (fun w12 => ?_)
        · refine l_iload_n rfl rfl ?_
          refine l_ireturn rfl rfl ?_
          exact ⟨rfl, _, rfl, ⟨by omega, by omega⟩, (by first | assumption | omega), (by first | assumption | omega)⟩
        · refine l_iload rfl rfl ?_
          refine l_bipush rfl rfl ?_
          refine l_icmp_eq rfl rfl (by unfold rg; omega) (by unfold rg; omega) (fun w13 => ?_) (fun w14 => ?_)
          · refine l_iload_n rfl rfl ?_
            refine l_ireturn rfl rfl ?_
            exact ⟨rfl, _, rfl, ⟨by omega, by omega⟩, (by first | assumption | omega), (by first | assumption | omega)⟩
          · refine l_iload rfl rfl ?_
            refine l_bipush rfl rfl ?_
            refine l_icmp_eq rfl rfl (by unfold rg; omega) (by unfold rg; omega) (fun w15 => ?_) (fun w16 => ?_)
            · refine l_iload_n rfl rfl ?_
              refine l_ireturn rfl rfl ?_
              exact ⟨rfl, _, rfl, ⟨by omega, by omega⟩, (by first | assumption | omega), (by first | assumption | omega)⟩
            · refine l_iload_n rfl rfl ?_
              refine l_if_ne rfl rfl (by unfold rg; omega) (fun w17 => ?_) (fun w18 => ?_)
              · exact Rl_weak (C59 (v3) (by omega) (by omega) (by omega) (by omega)) (And.intro rfl (And.intro rfl (And.intro rfl (True.intro))))
              · refine l_iload rfl rfl ?_
                refine l_bipush rfl rfl ?_
                refine l_icmp_eq rfl rfl (by unfold rg; omega) (by unfold rg; omega) (fun w19 => ?_) (fun w20 => ?_)
                · refine l_iload_n rfl rfl ?_
                  refine l_ireturn rfl rfl ?_
                  exact ⟨rfl, _, rfl, ⟨by omega, by omega⟩, (by first | assumption | omega), (by first | assumption | omega)⟩
                · refine l_iload rfl rfl ?_
                  refine l_bipush rfl rfl ?_
                  refine l_icmp_ne rfl rfl (by unfold rg; omega) (by unfold rg; omega) (fun w21 => ?_) (fun w22 => ?_)
                  · exact Rl_weak (C59 (v3) (by omega) (by omega) (by omega) (by omega)) (And.intro rfl (And.intro rfl (And.intro rfl (True.intro))))
                  · refine l_iload_n rfl rfl ?_
                    refine l_ireturn rfl rfl ?_
                    exact ⟨rfl, _, rfl, ⟨by omega, by omega⟩, (by first | assumption | omega), (by first | assumption | omega)⟩
  refine l_iload_n rfl rfl ?_
  refine l_istore_n rfl rfl rfl ?_
  exact Rl_weak (C2 _ (from_) (by omega) (by omega) rfl) (And.intro rfl (And.intro rfl (And.intro rfl (True.intro))))
abbrev Q_to_placeAt (S : sS) (row : Int) : pst := fun r S1 => S = S1 ∧ (∃ z : Int, r = some (iv z) ∧ (0 ≤ z ∧ z ≤ 5000) ∧ (0 ≤ row → row < Xi S 876 7 → z = Xi S 878 row.toNat))
set_option maxRecDepth 100000 in
theorem t_to_placeAt {S : sS} (hH : HI S) (row : Int) (hrow : -2147483648 ≤ row ∧ row ≤ 2147483647) (d : Nat) : Mt lay0 (d + 1) m_to_placeAt [.ref 876, iv row] S (Q_to_placeAt S row) := by
  refine Mt_R rfl rfl ?_
  have w1 : 0 ≤ Xi S 876 7 ∧ Xi S 876 7 ≤ 5125 := hH.c _ _
  refine l_iload_n rfl rfl ?_
  refine l_if_lt rfl rfl (by unfold rg; omega) (fun w2 => ?_) (fun w3 => ?_)
  · refine l_aload_n rfl rfl ?_
    refine l_gfi rfl rfl rfl rfl rfl ?_
    have w4 : 0 ≤ (Xi S 876 5) ∧ (Xi S 876 5) ≤ 5000 := hH.c _ _
    refine l_ireturn rfl rfl ?_
    exact ⟨rfl, _, rfl, ⟨by omega, by omega⟩, (by first | assumption | omega)⟩
  · refine l_iload_n rfl rfl ?_
    refine l_aload_n rfl rfl ?_
    refine l_gfi rfl rfl rfl rfl rfl ?_
    refine l_icmp_ge rfl rfl (by unfold rg; omega) (by unfold rg; omega) (fun w5 => ?_) (fun w6 => ?_)
    · refine l_aload_n rfl rfl ?_
      refine l_gfi rfl rfl rfl rfl rfl ?_
      have w7 : 0 ≤ (Xi S 876 5) ∧ (Xi S 876 5) ≤ 5000 := hH.c _ _
      refine l_ireturn rfl rfl ?_
      exact ⟨rfl, _, rfl, ⟨by omega, by omega⟩, (by first | assumption | omega)⟩
    · refine l_aload_n rfl rfl ?_
      refine l_gfr rfl rfl rfl rfl rfl (hH.r 876 1 878 rfl) ?_
      refine l_iload_n rfl rfl ?_
      refine l_iaload (n := 5130) rfl rfl (by omega) (by omega) (by unfold rg; omega) ?_
      have w8 : 0 ≤ (Xi S 878 ((row).toNat)) ∧ (Xi S 878 ((row).toNat)) ≤ 5000 := hH.c _ _
      refine l_goto rfl rfl ?_
      refine l_ireturn rfl rfl ?_
      exact ⟨rfl, _, rfl, ⟨by omega, by omega⟩, (by first | assumption | omega)⟩
abbrev Q_to_valueAt (S : sS) (row : Int) : pst := fun r S1 => S = S1 ∧ (∃ z : Int, r = some (iv z) ∧ (-2147483648 ≤ z ∧ z ≤ 2147483647) ∧ (0 ≤ row → row < Xi S 876 7 → 0 ≤ Xj S 879 row.toNat → Xj S 879 row.toNat ≤ 2147483647 → z = Xj S 879 row.toNat))
set_option maxRecDepth 100000 in
theorem t_to_valueAt {S : sS} (hH : HI S) (row : Int) (hrow : -2147483648 ≤ row ∧ row ≤ 2147483647) (d : Nat) : Mt lay0 (d + 1) m_to_valueAt [.ref 876, iv row] S (Q_to_valueAt S row) := by
  refine Mt_R rfl rfl ?_
  have w1 : 0 ≤ Xi S 876 7 ∧ Xi S 876 7 ≤ 5125 := hH.c _ _
  refine l_iload_n rfl rfl ?_
  refine l_if_lt rfl rfl (by unfold rg; omega) (fun w2 => ?_) (fun w3 => ?_)
  · refine l_iconst rfl ?_
    refine l_ireturn rfl rfl ?_
    exact ⟨rfl, _, rfl, ⟨by omega, by omega⟩, (by first | assumption | omega)⟩
  · refine l_iload_n rfl rfl ?_
    refine l_aload_n rfl rfl ?_
    refine l_gfi rfl rfl rfl rfl rfl ?_
    refine l_icmp_ge rfl rfl (by unfold rg; omega) (by unfold rg; omega) (fun w4 => ?_) (fun w5 => ?_)
    · refine l_iconst rfl ?_
      refine l_ireturn rfl rfl ?_
      exact ⟨rfl, _, rfl, ⟨by omega, by omega⟩, (by first | assumption | omega)⟩
    · refine l_aload_n rfl rfl ?_
      refine l_gfr rfl rfl rfl rfl rfl (hH.r 876 2 879 rfl) ?_
      refine l_iload_n rfl rfl ?_
      refine l_laload (n := 5130) rfl rfl (by omega) (by omega) (by unfold rg; omega) ?_
      have w6 : -9223372036854775808 ≤ (Xj S 879 ((row).toNat)) ∧ (Xj S 879 ((row).toNat)) < 9223372036854775808 := Xj_rg
      refine l_l2i rfl (fun c7 w7r w7 => ?_)
      unfold rg rgL at *
      refine l_goto rfl rfl ?_
      refine l_ireturn rfl rfl ?_
      exact ⟨rfl, _, rfl, ⟨by omega, by omega⟩, (by first | assumption | omega)⟩
abbrev Q_to_beginsRun (S : sS) (row : Int) (from_ : Int) : pst := fun r S1 => S = S1 ∧ (∃ z : Int, r = some (iv z) ∧ (0 ≤ z ∧ z ≤ 1) ∧ (z = 1 → from_ ≤ row ∧ row < Xi S 876 7 ∧ (0 ≤ row → Xi S 877 row.toNat = 100)) ∧ (z = bgr S row from_))
set_option maxRecDepth 100000 in
theorem t_to_beginsRun {S : sS} (hH : HI S) (row : Int) (from_ : Int) (hrow : -2147483648 ≤ row ∧ row ≤ 2147483647) (hfrom_ : 0 ≤ from_ ∧ from_ ≤ 5131) (d : Nat) : Mt lay0 (d + 1) m_to_beginsRun [.ref 876, iv row, iv from_] S (Q_to_beginsRun S row from_) := by
  refine Mt_R rfl rfl ?_
  have w1 : 0 ≤ Xi S 876 7 ∧ Xi S 876 7 ≤ 5125 := hH.c _ _
  refine l_iload_n rfl rfl ?_
  refine l_iload_n rfl rfl ?_
  refine l_icmp_lt rfl rfl (by unfold rg; omega) (by unfold rg; omega) (fun w2 => ?_) (fun w3 => ?_)
  · refine l_iconst rfl ?_
    refine l_ireturn rfl rfl ?_
    exact ⟨rfl, _, rfl, ⟨by omega, by omega⟩, (by omega), (by unfold bgr; first | exact (if_pos (by omega)).symm | exact (if_neg (by omega)).symm)⟩
  · refine l_iload_n rfl rfl ?_
    refine l_aload_n rfl rfl ?_
    refine l_gfi rfl rfl rfl rfl rfl ?_
    refine l_icmp_ge rfl rfl (by unfold rg; omega) (by unfold rg; omega) (fun w4 => ?_) (fun w5 => ?_)
    · refine l_iconst rfl ?_
      refine l_ireturn rfl rfl ?_
      exact ⟨rfl, _, rfl, ⟨by omega, by omega⟩, (by omega), (by unfold bgr; first | exact (if_pos (by omega)).symm | exact (if_neg (by omega)).symm)⟩
    · refine l_aload_n rfl rfl ?_
      refine l_gfr rfl rfl rfl rfl rfl (hH.r 876 0 877 rfl) ?_
      refine l_iload_n rfl rfl ?_
      refine l_iaload (n := 5130) rfl rfl (by omega) (by omega) (by unfold rg; omega) ?_
      have w6 : 0 ≤ (Xi S 877 ((row).toNat)) ∧ (Xi S 877 ((row).toNat)) ≤ 108 := hH.c _ _
      refine l_bipush rfl rfl ?_
      refine l_icmp_ne rfl rfl (by unfold rg; omega) (by unfold rg; omega) (fun w7 => ?_) (fun w8 => ?_)
      · refine l_iconst rfl ?_
        refine l_ireturn rfl rfl ?_
        exact ⟨rfl, _, rfl, ⟨by omega, by omega⟩, (by omega), (by unfold bgr; first | exact (if_pos (by omega)).symm | exact (if_neg (by omega)).symm)⟩
      · refine l_iload_n rfl rfl ?_
        refine l_iload_n rfl rfl ?_
        refine l_icmp_eq rfl rfl (by unfold rg; omega) (by unfold rg; omega) (fun w9 => ?_) (fun w10 => ?_)
        · refine l_iconst rfl ?_
          refine l_goto rfl rfl ?_
          refine l_ireturn rfl rfl ?_
          exact ⟨rfl, _, rfl, ⟨by omega, by omega⟩, (by omega), (by unfold bgr; first | exact (if_pos (by omega)).symm | exact (if_neg (by omega)).symm)⟩
        · refine l_aload_n rfl rfl ?_
          refine l_gfr rfl rfl rfl rfl rfl (hH.r 876 0 877 rfl) ?_
          refine l_iload_n rfl rfl ?_
          refine l_iconst rfl ?_
          refine l_isub rfl ?_
          refine l_iaload (n := 5130) rfl rfl (by omega) (by omega) (by unfold rg; omega) ?_
          have w11 : 0 ≤ (Xi S 877 (((row - 1)).toNat)) ∧ (Xi S 877 (((row - 1)).toNat)) ≤ 108 := hH.c _ _
          refine l_bipush rfl rfl ?_
          refine l_icmp_eq rfl rfl (by unfold rg; omega) (by unfold rg; omega) (fun w12 => ?_) (fun w13 => ?_)
          · refine l_iconst rfl ?_
            refine l_ireturn rfl rfl ?_
            exact ⟨rfl, _, rfl, ⟨by omega, by omega⟩, (by omega), (by unfold bgr; first | exact (if_pos (by omega)).symm | exact (if_neg (by omega)).symm)⟩
          · refine l_iconst rfl ?_
            refine l_goto rfl rfl ?_
            refine l_ireturn rfl rfl ?_
            exact ⟨rfl, _, rfl, ⟨by omega, by omega⟩, (by omega), (by unfold bgr; first | exact (if_pos (by omega)).symm | exact (if_neg (by omega)).symm)⟩
def md_gr_take : List rec := [(890, 891, 1, 2)]
abbrev Q_gr_take (S : sS) (ty : Int) : pst := fun r S1 => HI S1 ∧ FR md_gr_take S S1 ∧ (∃ z : Int, r = some (iv z) ∧ (0 ≤ z ∧ z ≤ 1) ∧ (Xi S 890 1 ≤ Xi S1 890 1 ∧ Xi S1 890 1 ≤ Xi S 876 7) ∧ (SAY S1 (Xi S1 890 1)) ∧ (z = 1 → Xi S1 890 1 = Xi S 890 1 + 1 ∧ Xi S 890 1 < Xi S 876 7 ∧ Xi S 877 (Xi S 890 1).toNat = ty) ∧ (z = 0 → Xi S1 890 1 = Xi S 890 1))
set_option maxRecDepth 100000 in
theorem t_gr_take {S : sS} (hH : HI S) (ty : Int) (hty : 0 ≤ ty ∧ ty ≤ 106) (ha : Xi S 890 1 ≤ Xi S 876 7) (hs : SAY S (Xi S 890 1)) (hn : ty ≠ 43) (d : Nat) : Mt lay0 (d + 2) m_gr_take [.ref 890, iv ty] S (Q_gr_take S ty) := by
  refine Mt_R rfl rfl ?_
  have hF : FR md_gr_take S S := FR.rf
  have w1 : 0 ≤ Xi S 876 7 ∧ Xi S 876 7 ≤ 5125 := hH.c _ _
  have w2 : 0 ≤ Xi S 890 1 ∧ Xi S 890 1 ≤ 5126 := hH.c _ _
  refine l_aload_n rfl rfl ?_
  refine l_gfr rfl rfl rfl rfl rfl (hH.r 890 0 876 rfl) ?_
  refine l_aload_n rfl rfl ?_
  refine l_gfi rfl rfl rfl rfl rfl ?_
  refine l_callV rfl rfl rfl (t_to_typeAt hH (Xi S 890 1) ⟨by omega, by omega⟩ _) ?_
  rintro _ _ ⟨rfl, z7, rfl, w7, w4, w5, w6⟩
  show Rl _ _ _ _ _ [iv z7] _ _
  refine l_iload_n rfl rfl ?_
  refine l_icmp_eq rfl rfl (by unfold rg; omega) (by unfold rg; omega) (fun w8 => ?_) (fun w9 => ?_)
  · refine l_aload_n rfl rfl ?_
    refine l_dup rfl rfl ?_
    refine l_gfi rfl rfl rfl rfl rfl ?_
    refine l_iconst rfl ?_
    refine l_iadd rfl ?_
    refine l_pfi rfl rfl rfl rfl ?_
    obtain ⟨U1, eU1⟩ : ∃ T : sS, T = uI S 890 1 (Int32.ofInt ((Xi S 890 1) + 1)) := ⟨_, rfl⟩
    rw [← eU1]
    have hHU1 : HI U1 := by rw [eU1]; exact HI_w hH (show 0 ≤ ((Xi S 890 1) + 1) by omega) (show ((Xi S 890 1) + 1) ≤ 5126 by omega)
    have hFU1 : FR md_gr_take S U1 := by rw [eU1]; exact FR.wI hF (mdf_i (r := (890, 891, 1, 2)) (List.mem_of_getElem? (i := 0) rfl) (inR_i (by omega) (by omega) (by omega) (by omega)))
    have w10 : Xi U1 890 1 = ((Xi S 890 1) + 1) := by rw [eU1]; exact Xi_same (by unfold rg; omega)
    refine l_iconst rfl ?_
    refine l_ireturn rfl rfl ?_
    have w11 : 0 ≤ Xi U1 890 1 ∧ Xi U1 890 1 ≤ 5126 := hHU1.c _ _
    exact ⟨hHU1, hFU1, _, rfl, ⟨by omega, by omega⟩, (by omega), (by first | assumption | (rw [show Xi U1 890 1 = Xi S 890 1 + 1 by omega]; exact SAY_w eU1 (SAY_1 hs (by omega) (by omega)))), (by omega), (by omega)⟩
  · refine l_iconst rfl ?_
    refine l_ireturn rfl rfl ?_
    exact ⟨hH, hF, _, rfl, ⟨by omega, by omega⟩, (by omega), (by first | assumption | (rw [show Xi S 890 1 = Xi S 890 1 + 1 by omega]; exact SAY_w rfl (SAY_1 hs (by omega) (by omega)))), (by omega), (by omega)⟩
def md_gr_take__2 : List rec := [(890, 891, 1, 2)]
abbrev Q_gr_take__2 (S : sS) (ty : Int) : pst := fun r S1 => HI S1 ∧ FR md_gr_take__2 S S1 ∧ (∃ z : Int, r = some (iv z) ∧ (0 ≤ z ∧ z ≤ 1) ∧ (Xi S 890 1 ≤ Xi S1 890 1 ∧ Xi S1 890 1 ≤ Xi S 876 7) ∧ (z = 1 → Xi S1 890 1 = Xi S 890 1 + 1 ∧ Xi S 890 1 < Xi S 876 7 ∧ Xi S 877 (Xi S 890 1).toNat = ty) ∧ (z = 0 → Xi S1 890 1 = Xi S 890 1))
set_option maxRecDepth 100000 in
theorem t_gr_take__2 {S : sS} (hH : HI S) (ty : Int) (hty : 0 ≤ ty ∧ ty ≤ 106) (ha : Xi S 890 1 ≤ Xi S 876 7) (d : Nat) : Mt lay0 (d + 2) m_gr_take [.ref 890, iv ty] S (Q_gr_take__2 S ty) := by
  refine Mt_R rfl rfl ?_
  have hF : FR md_gr_take__2 S S := FR.rf
  have w1 : 0 ≤ Xi S 876 7 ∧ Xi S 876 7 ≤ 5125 := hH.c _ _
  have w2 : 0 ≤ Xi S 890 1 ∧ Xi S 890 1 ≤ 5126 := hH.c _ _
  refine l_aload_n rfl rfl ?_
  refine l_gfr rfl rfl rfl rfl rfl (hH.r 890 0 876 rfl) ?_
  refine l_aload_n rfl rfl ?_
  refine l_gfi rfl rfl rfl rfl rfl ?_
  refine l_callV rfl rfl rfl (t_to_typeAt hH (Xi S 890 1) ⟨by omega, by omega⟩ _) ?_
  rintro _ _ ⟨rfl, z7, rfl, w7, w4, w5, w6⟩
  show Rl _ _ _ _ _ [iv z7] _ _
  refine l_iload_n rfl rfl ?_
  refine l_icmp_eq rfl rfl (by unfold rg; omega) (by unfold rg; omega) (fun w8 => ?_) (fun w9 => ?_)
  · refine l_aload_n rfl rfl ?_
    refine l_dup rfl rfl ?_
    refine l_gfi rfl rfl rfl rfl rfl ?_
    refine l_iconst rfl ?_
    refine l_iadd rfl ?_
    refine l_pfi rfl rfl rfl rfl ?_
    obtain ⟨U1, eU1⟩ : ∃ T : sS, T = uI S 890 1 (Int32.ofInt ((Xi S 890 1) + 1)) := ⟨_, rfl⟩
    rw [← eU1]
    have hHU1 : HI U1 := by rw [eU1]; exact HI_w hH (show 0 ≤ ((Xi S 890 1) + 1) by omega) (show ((Xi S 890 1) + 1) ≤ 5126 by omega)
    have hFU1 : FR md_gr_take__2 S U1 := by rw [eU1]; exact FR.wI hF (mdf_i (r := (890, 891, 1, 2)) (List.mem_of_getElem? (i := 0) rfl) (inR_i (by omega) (by omega) (by omega) (by omega)))
    have w10 : Xi U1 890 1 = ((Xi S 890 1) + 1) := by rw [eU1]; exact Xi_same (by unfold rg; omega)
    refine l_iconst rfl ?_
    refine l_ireturn rfl rfl ?_
    have w11 : 0 ≤ Xi U1 890 1 ∧ Xi U1 890 1 ≤ 5126 := hHU1.c _ _
    exact ⟨hHU1, hFU1, _, rfl, ⟨by omega, by omega⟩, (by first | assumption | omega), (by first | assumption | omega), (by first | assumption | omega)⟩
  · refine l_iconst rfl ?_
    refine l_ireturn rfl rfl ?_
    exact ⟨hH, hF, _, rfl, ⟨by omega, by omega⟩, (by first | assumption | omega), (by first | assumption | omega), (by first | assumption | omega)⟩
def md_gr_takeRun : List rec := [(890, 891, 1, 2)]
abbrev Q_gr_takeRun (S : sS) : pst := fun r S1 => HI S1 ∧ FR md_gr_takeRun S S1 ∧ (∃ z : Int, r = some (iv z) ∧ (0 ≤ z ∧ z ≤ 1) ∧ (Xi S 890 1 ≤ Xi S1 890 1 ∧ Xi S1 890 1 ≤ Xi S 876 7) ∧ (SAY S1 (Xi S1 890 1)) ∧ (z = 1 → Xi S 890 1 < Xi S1 890 1))
set_option maxRecDepth 100000 in
theorem t_gr_takeRun {S : sS} (hH : HI S) (ha : Xi S 890 1 ≤ Xi S 876 7) (hs : SAY S (Xi S 890 1)) (d : Nat) : Mt lay0 (d + 2) m_gr_takeRun [.ref 890] S (Q_gr_takeRun S) := by
  refine Mt_R rfl rfl ?_
  have hF : FR md_gr_takeRun S S := FR.rf
  have w1 : 0 ≤ Xi S 876 7 ∧ Xi S 876 7 ≤ 5125 := hH.c _ _
  have w2 : 0 ≤ Xi S 890 1 ∧ Xi S 890 1 ≤ 5126 := hH.c _ _
  refine l_aload_n rfl rfl ?_
  refine l_gfi rfl rfl rfl rfl rfl ?_
  refine l_istore_n rfl rfl rfl ?_
  refine l_aload_n rfl rfl ?_
  refine l_aload_n rfl rfl ?_
  refine l_gfr rfl rfl rfl rfl rfl (hH.r 890 0 876 rfl) ?_
  refine l_iload_n rfl rfl ?_
  refine l_sipush rfl rfl ?_
  refine l_callV rfl rfl rfl (t_to_runEndUpTo hH (Xi S 890 1) 5000 ⟨by omega, by omega⟩ ⟨by omega, by omega⟩ _) ?_
  rintro _ _ ⟨rfl, z11, rfl, w11, w4, w5, w6, w7, w8, w9, w10⟩
  show Rl _ _ _ _ _ [iv z11, .ref 890] _ _
  refine l_pfi rfl rfl rfl rfl ?_
  obtain ⟨U1, eU1⟩ : ∃ T : sS, T = uI S 890 1 (Int32.ofInt z11) := ⟨_, rfl⟩
  rw [← eU1]
  have hHU1 : HI U1 := by rw [eU1]; exact HI_w hH (show 0 ≤ z11 by omega) (show z11 ≤ 5126 by omega)
  have hFU1 : FR md_gr_takeRun S U1 := by rw [eU1]; exact FR.wI hF (mdf_i (r := (890, 891, 1, 2)) (List.mem_of_getElem? (i := 0) rfl) (inR_i (by omega) (by omega) (by omega) (by omega)))
  have w12 : Xi U1 890 1 = z11 := by rw [eU1]; exact Xi_same (by unfold rg; omega)
  refine l_aload_n rfl rfl ?_
  refine l_gfi rfl rfl rfl rfl rfl ?_
  refine l_iload_n rfl rfl ?_
  refine l_icmp_le rfl rfl (by unfold rg; omega) (by unfold rg; omega) (fun w13 => ?_) (fun w14 => ?_)
  · refine l_iconst rfl ?_
    refine l_ireturn rfl rfl ?_
    have w15 : 0 ≤ Xi U1 890 1 ∧ Xi U1 890 1 ≤ 5126 := hHU1.c _ _
    exact ⟨hHU1, hFU1, _, rfl, ⟨by omega, by omega⟩, (by omega), (SAY_runw eU1 (by assumption) hs (by omega) (by assumption)), (by omega)⟩
  · refine l_iconst rfl ?_
    refine l_goto rfl rfl ?_
    refine l_ireturn rfl rfl ?_
    have w16 : 0 ≤ Xi U1 890 1 ∧ Xi U1 890 1 ≤ 5126 := hHU1.c _ _
    exact ⟨hHU1, hFU1, _, rfl, ⟨by omega, by omega⟩, (by omega), (SAY_runw eU1 (by assumption) hs (by omega) (by assumption)), (by omega)⟩
def md_gr_takeArt : List rec := [(890, 891, 1, 2)]
abbrev Q_gr_takeArt (S : sS) : pst := fun r S1 => HI S1 ∧ FR md_gr_takeArt S S1 ∧ (∃ z : Int, r = some (iv z) ∧ (0 ≤ z ∧ z ≤ 1) ∧ (Xi S 890 1 ≤ Xi S1 890 1 ∧ Xi S1 890 1 ≤ Xi S 876 7) ∧ (SAY S1 (Xi S1 890 1)) ∧ (z = 1 → Xi S1 890 1 = Xi S 890 1 + 1))
set_option maxRecDepth 100000 in
theorem t_gr_takeArt {S : sS} (hH : HI S) (ha : Xi S 890 1 ≤ Xi S 876 7) (hs : SAY S (Xi S 890 1)) (d : Nat) : Mt lay0 (d + 2) m_gr_takeArt [.ref 890] S (Q_gr_takeArt S) := by
  refine Mt_R rfl rfl ?_
  have hF : FR md_gr_takeArt S S := FR.rf
  have w1 : 0 ≤ Xi S 876 7 ∧ Xi S 876 7 ≤ 5125 := hH.c _ _
  have w2 : 0 ≤ Xi S 890 1 ∧ Xi S 890 1 ≤ 5126 := hH.c _ _
  refine l_aload_n rfl rfl ?_
  refine l_gfr rfl rfl rfl rfl rfl (hH.r 890 0 876 rfl) ?_
  refine l_aload_n rfl rfl ?_
  refine l_gfi rfl rfl rfl rfl rfl ?_
  refine l_callV rfl rfl rfl (t_to_typeAt hH (Xi S 890 1) ⟨by omega, by omega⟩ _) ?_
  rintro _ _ ⟨rfl, z7, rfl, w7, w4, w5, w6⟩
  show Rl _ _ _ _ _ [iv z7] _ _
  refine l_callS rfl rfl (by decide) rfl (t_rs_isArt hH z7 ⟨by omega, by omega⟩ _) ?_
  rintro _ _ ⟨rfl, z9, rfl, w9, w8⟩
  show Rl _ _ _ _ _ [iv z9] _ _
  refine l_if_ne rfl rfl (by unfold rg; omega) (fun w10 => ?_) (fun w11 => ?_)
  · refine l_aload_n rfl rfl ?_
    refine l_dup rfl rfl ?_
    refine l_gfi rfl rfl rfl rfl rfl ?_
    refine l_iconst rfl ?_
    refine l_iadd rfl ?_
    refine l_pfi rfl rfl rfl rfl ?_
    obtain ⟨U1, eU1⟩ : ∃ T : sS, T = uI S 890 1 (Int32.ofInt ((Xi S 890 1) + 1)) := ⟨_, rfl⟩
    rw [← eU1]
    have hHU1 : HI U1 := by rw [eU1]; exact HI_w hH (show 0 ≤ ((Xi S 890 1) + 1) by omega) (show ((Xi S 890 1) + 1) ≤ 5126 by omega)
    have hFU1 : FR md_gr_takeArt S U1 := by rw [eU1]; exact FR.wI hF (mdf_i (r := (890, 891, 1, 2)) (List.mem_of_getElem? (i := 0) rfl) (inR_i (by omega) (by omega) (by omega) (by omega)))
    have w12 : Xi U1 890 1 = ((Xi S 890 1) + 1) := by rw [eU1]; exact Xi_same (by unfold rg; omega)
    refine l_iconst rfl ?_
    refine l_ireturn rfl rfl ?_
    have w13 : 0 ≤ Xi U1 890 1 ∧ Xi U1 890 1 ≤ 5126 := hHU1.c _ _
    exact ⟨hHU1, hFU1, _, rfl, ⟨by omega, by omega⟩, (by omega), (by first | assumption | (rw [show Xi U1 890 1 = Xi S 890 1 + 1 by omega]; exact SAY_w eU1 (SAY_1 hs (by omega) (by omega)))), (by omega)⟩
  · refine l_iconst rfl ?_
    refine l_ireturn rfl rfl ?_
    exact ⟨hH, hF, _, rfl, ⟨by omega, by omega⟩, (by omega), (by first | assumption | (rw [show Xi S 890 1 = Xi S 890 1 + 1 by omega]; exact SAY_w rfl (SAY_1 hs (by omega) (by omega)))), (by omega)⟩
def md_gr_takeBe : List rec := [(890, 891, 1, 2)]
abbrev Q_gr_takeBe (S : sS) : pst := fun r S1 => HI S1 ∧ FR md_gr_takeBe S S1 ∧ (∃ z : Int, r = some (iv z) ∧ (0 ≤ z ∧ z ≤ 1) ∧ (Xi S 890 1 ≤ Xi S1 890 1 ∧ Xi S1 890 1 ≤ Xi S 876 7) ∧ (SAY S1 (Xi S1 890 1)))
set_option maxRecDepth 100000 in
theorem t_gr_takeBe {S : sS} (hH : HI S) (ha : Xi S 890 1 ≤ Xi S 876 7) (hs : SAY S (Xi S 890 1)) (d : Nat) : Mt lay0 (d + 3) m_gr_takeBe [.ref 890] S (Q_gr_takeBe S) := by
  refine Mt_R rfl rfl ?_
  have hF : FR md_gr_takeBe S S := FR.rf
  have w1 : 0 ≤ Xi S 876 7 ∧ Xi S 876 7 ≤ 5125 := hH.c _ _
  have w2 : 0 ≤ Xi S 890 1 ∧ Xi S 890 1 ≤ 5126 := hH.c _ _
  refine l_aload_n rfl rfl ?_
  refine l_iconst rfl ?_
  refine l_callV rfl rfl rfl (t_gr_take hH 4 ⟨by omega, by omega⟩ (by first | assumption | omega) (by first | assumption | omega) (by first | assumption | omega) _) ?_
  rintro _ T1 ⟨hHT1, w10, z9, rfl, w9, w5, w6, w7, w8⟩
  have hFT1 : FR md_gr_takeBe S T1 := FR.tr hF w10 rfl
  show Rl _ _ _ _ _ [iv z9] _ _
  refine l_if_ne rfl rfl (by unfold rg; omega) (fun w11 => ?_) (fun w12 => ?_)
  · refine l_iconst rfl ?_
    refine l_goto rfl rfl ?_
    refine l_ireturn rfl rfl ?_
    have w13 : 0 ≤ Xi T1 890 1 ∧ Xi T1 890 1 ≤ 5126 := hHT1.c _ _
    exact ⟨hHT1, hFT1, _, rfl, ⟨by omega, by omega⟩, (by first | assumption | omega), (by first | assumption | omega)⟩
  · refine l_aload_n rfl rfl ?_
    refine l_iconst rfl ?_
    have w14 : Xi T1 876 7 = Xi S 876 7 := (show Xi T1 876 7 = Xi S 876 7 from w10.x _ _ rfl)
    have w16 : 0 ≤ Xi T1 890 1 ∧ Xi T1 890 1 ≤ 5126 := hHT1.c _ _
    refine l_callV rfl rfl rfl (t_gr_take hHT1 5 ⟨by omega, by omega⟩ (by first | assumption | omega) (by first | assumption | omega) (by first | assumption | omega) _) ?_
    rintro _ T2 ⟨hHT2, w22, z21, rfl, w21, w17, w18, w19, w20⟩
    have hFT2 : FR md_gr_takeBe S T2 := FR.tr hFT1 w22 rfl
    show Rl _ _ _ _ _ [iv z21] _ _
    refine l_if_eq rfl rfl (by unfold rg; omega) (fun w23 => ?_) (fun w24 => ?_)
    · refine l_iconst rfl ?_
      refine l_ireturn rfl rfl ?_
      have w25 : 0 ≤ Xi T2 890 1 ∧ Xi T2 890 1 ≤ 5126 := hHT2.c _ _
      exact ⟨hHT2, hFT2, _, rfl, ⟨by omega, by omega⟩, (by first | assumption | omega), (by first | assumption | omega)⟩
    · refine l_iconst rfl ?_
      refine l_goto rfl rfl ?_
      refine l_ireturn rfl rfl ?_
      have w26 : 0 ≤ Xi T2 890 1 ∧ Xi T2 890 1 ≤ 5126 := hHT2.c _ _
      exact ⟨hHT2, hFT2, _, rfl, ⟨by omega, by omega⟩, (by first | assumption | omega), (by first | assumption | omega)⟩
def md_gr_takeHowMany : List rec := [(890, 891, 1, 2)]
abbrev Q_gr_takeHowMany (S : sS) : pst := fun r S1 => HI S1 ∧ FR md_gr_takeHowMany S S1 ∧ (∃ z : Int, r = some (iv z) ∧ (0 ≤ z ∧ z ≤ 1) ∧ (Xi S 890 1 ≤ Xi S1 890 1 ∧ Xi S1 890 1 ≤ Xi S 876 7) ∧ (SAY S1 (Xi S1 890 1)))
set_option maxRecDepth 100000 in
theorem t_gr_takeHowMany {S : sS} (hH : HI S) (ha : Xi S 890 1 ≤ Xi S 876 7) (hs : SAY S (Xi S 890 1)) (d : Nat) : Mt lay0 (d + 3) m_gr_takeHowMany [.ref 890] S (Q_gr_takeHowMany S) := by
  refine Mt_R rfl rfl ?_
  have hF : FR md_gr_takeHowMany S S := FR.rf
  have w1 : 0 ≤ Xi S 876 7 ∧ Xi S 876 7 ≤ 5125 := hH.c _ _
  have w2 : 0 ≤ Xi S 890 1 ∧ Xi S 890 1 ≤ 5126 := hH.c _ _
  refine l_aload_n rfl rfl ?_
  refine l_bipush rfl rfl ?_
  refine l_callV rfl rfl rfl (t_gr_take hH 22 ⟨by omega, by omega⟩ (by first | assumption | omega) (by first | assumption | omega) (by first | assumption | omega) _) ?_
  rintro _ T1 ⟨hHT1, w10, z9, rfl, w9, w5, w6, w7, w8⟩
  have hFT1 : FR md_gr_takeHowMany S T1 := FR.tr hF w10 rfl
  show Rl _ _ _ _ _ [iv z9] _ _
  refine l_if_ne rfl rfl (by unfold rg; omega) (fun w11 => ?_) (fun w12 => ?_)
  · refine l_iconst rfl ?_
    refine l_goto rfl rfl ?_
    refine l_ireturn rfl rfl ?_
    have w13 : 0 ≤ Xi T1 890 1 ∧ Xi T1 890 1 ≤ 5126 := hHT1.c _ _
    exact ⟨hHT1, hFT1, _, rfl, ⟨by omega, by omega⟩, (by first | assumption | omega), (by first | assumption | omega)⟩
  · refine l_aload_n rfl rfl ?_
    refine l_bipush rfl rfl ?_
    have w14 : Xi T1 876 7 = Xi S 876 7 := (show Xi T1 876 7 = Xi S 876 7 from w10.x _ _ rfl)
    have w16 : 0 ≤ Xi T1 890 1 ∧ Xi T1 890 1 ≤ 5126 := hHT1.c _ _
    refine l_callV rfl rfl rfl (t_gr_take hHT1 23 ⟨by omega, by omega⟩ (by first | assumption | omega) (by first | assumption | omega) (by first | assumption | omega) _) ?_
    rintro _ T2 ⟨hHT2, w22, z21, rfl, w21, w17, w18, w19, w20⟩
    have hFT2 : FR md_gr_takeHowMany S T2 := FR.tr hFT1 w22 rfl
    show Rl _ _ _ _ _ [iv z21] _ _
    refine l_if_eq rfl rfl (by unfold rg; omega) (fun w23 => ?_) (fun w24 => ?_)
    · refine l_iconst rfl ?_
      refine l_ireturn rfl rfl ?_
      have w25 : 0 ≤ Xi T2 890 1 ∧ Xi T2 890 1 ≤ 5126 := hHT2.c _ _
      exact ⟨hHT2, hFT2, _, rfl, ⟨by omega, by omega⟩, (by first | assumption | omega), (by first | assumption | omega)⟩
    · refine l_iconst rfl ?_
      refine l_goto rfl rfl ?_
      refine l_ireturn rfl rfl ?_
      have w26 : 0 ≤ Xi T2 890 1 ∧ Xi T2 890 1 ≤ 5126 := hHT2.c _ _
      exact ⟨hHT2, hFT2, _, rfl, ⟨by omega, by omega⟩, (by first | assumption | omega), (by first | assumption | omega)⟩
def md_gr_takeName : List rec := [(890, 891, 1, 2)]
abbrev Q_gr_takeName (S : sS) : pst := fun r S1 => HI S1 ∧ FR md_gr_takeName S S1 ∧ (∃ z : Int, r = some (iv z) ∧ (0 ≤ z ∧ z ≤ 1) ∧ (Xi S 890 1 ≤ Xi S1 890 1 ∧ Xi S1 890 1 ≤ Xi S 876 7) ∧ (SAY S1 (Xi S1 890 1)))
set_option maxRecDepth 100000 in
theorem t_gr_takeName {S : sS} (hH : HI S) (ha : Xi S 890 1 ≤ Xi S 876 7) (hs : SAY S (Xi S 890 1)) (d : Nat) : Mt lay0 (d + 3) m_gr_takeName [.ref 890] S (Q_gr_takeName S) := by
  refine Mt_R rfl rfl ?_
  have hF : FR md_gr_takeName S S := FR.rf
  have w1 : 0 ≤ Xi S 876 7 ∧ Xi S 876 7 ≤ 5125 := hH.c _ _
  have w2 : 0 ≤ Xi S 890 1 ∧ Xi S 890 1 ≤ 5126 := hH.c _ _
  refine l_aload_n rfl rfl ?_
  refine l_aload_n rfl rfl ?_
  refine l_gfr rfl rfl rfl rfl rfl (hH.r 890 0 876 rfl) ?_
  refine l_aload_n rfl rfl ?_
  refine l_gfi rfl rfl rfl rfl rfl ?_
  refine l_callV rfl rfl rfl (t_to_behindArt hH (Xi S 890 1) ⟨by omega, by omega⟩ _) ?_
  rintro _ _ ⟨rfl, z5, rfl, w5, w4⟩
  show Rl _ _ _ _ _ [iv z5, .ref 890] _ _
  refine l_pfi rfl rfl rfl rfl ?_
  obtain ⟨U1, eU1⟩ : ∃ T : sS, T = uI S 890 1 (Int32.ofInt z5) := ⟨_, rfl⟩
  rw [← eU1]
  have hHU1 : HI U1 := by rw [eU1]; exact HI_w hH (show 0 ≤ z5 by omega) (show z5 ≤ 5126 by omega)
  have hFU1 : FR md_gr_takeName S U1 := by rw [eU1]; exact FR.wI hF (mdf_i (r := (890, 891, 1, 2)) (List.mem_of_getElem? (i := 0) rfl) (inR_i (by omega) (by omega) (by omega) (by omega)))
  have w6 : Xi U1 890 1 = z5 := by rw [eU1]; exact Xi_same (by unfold rg; omega)
  have hs2 : SAY U1 (Xi U1 890 1) := SAY_artw eU1 (by assumption) hs (by omega) (by omega)
  refine l_aload_n rfl rfl ?_
  have w7 : Xi U1 876 7 = Xi S 876 7 := (show Xi U1 876 7 = Xi S 876 7 from by rw [eU1]; exact Xi_ne (by omega))
  have w9 : 0 ≤ Xi U1 890 1 ∧ Xi U1 890 1 ≤ 5126 := hHU1.c _ _
  refine l_callV rfl rfl rfl (t_gr_takeRun hHU1 (by first | assumption | omega) (by first | assumption | omega) _) ?_
  rintro _ T2 ⟨hHT2, w14, z13, rfl, w13, w10, w11, w12⟩
  have hFT2 : FR md_gr_takeName S T2 := FR.tr hFU1 w14 rfl
  show Rl _ _ _ _ _ [iv z13] _ _
  refine l_ireturn rfl (retI_z (by omega)) ?_
  have w15 : 0 ≤ Xi T2 890 1 ∧ Xi T2 890 1 ≤ 5126 := hHT2.c _ _
  exact ⟨hHT2, hFT2, _, rfl, ⟨by omega, by omega⟩, (by first | assumption | omega), (by first | assumption | omega)⟩
def md_gr_takeBetween : List rec := [(890, 891, 1, 2)]
abbrev Q_gr_takeBetween (S : sS) : pst := fun r S1 => HI S1 ∧ FR md_gr_takeBetween S S1 ∧ (∃ z : Int, r = some (iv z) ∧ (0 ≤ z ∧ z ≤ 1) ∧ (Xi S 890 1 ≤ Xi S1 890 1 ∧ Xi S1 890 1 ≤ Xi S 876 7) ∧ (SAY S1 (Xi S1 890 1)))
set_option maxRecDepth 100000 in
theorem t_gr_takeBetween {S : sS} (hH : HI S) (ha : Xi S 890 1 ≤ Xi S 876 7) (hs : SAY S (Xi S 890 1)) (d : Nat) : Mt lay0 (d + 3) m_gr_takeBetween [.ref 890] S (Q_gr_takeBetween S) := by
  refine Mt_R rfl rfl ?_
  have hF : FR md_gr_takeBetween S S := FR.rf
  have w1 : 0 ≤ Xi S 876 7 ∧ Xi S 876 7 ≤ 5125 := hH.c _ _
  have w2 : 0 ≤ Xi S 890 1 ∧ Xi S 890 1 ≤ 5126 := hH.c _ _
  refine l_aload_n rfl rfl ?_
  refine l_bipush rfl rfl ?_
  refine l_callV rfl rfl rfl (t_gr_take hH 104 ⟨by omega, by omega⟩ (by first | assumption | omega) (by first | assumption | omega) (by first | assumption | omega) _) ?_
  rintro _ T1 ⟨hHT1, w10, z9, rfl, w9, w5, w6, w7, w8⟩
  have hFT1 : FR md_gr_takeBetween S T1 := FR.tr hF w10 rfl
  show Rl _ _ _ _ _ [iv z9] _ _
  refine l_if_eq rfl rfl (by unfold rg; omega) (fun w11 => ?_) (fun w12 => ?_)
  · refine l_aload_n rfl rfl ?_
    refine l_bipush rfl rfl ?_
    have w13 : Xi T1 876 7 = Xi S 876 7 := (show Xi T1 876 7 = Xi S 876 7 from w10.x _ _ rfl)
    have w15 : 0 ≤ Xi T1 890 1 ∧ Xi T1 890 1 ≤ 5126 := hHT1.c _ _
    refine l_callV rfl rfl rfl (t_gr_take hHT1 16 ⟨by omega, by omega⟩ (by first | assumption | omega) (by first | assumption | omega) (by first | assumption | omega) _) ?_
    rintro _ T2 ⟨hHT2, w21, z20, rfl, w20, w16, w17, w18, w19⟩
    have hFT2 : FR md_gr_takeBetween S T2 := FR.tr hFT1 w21 rfl
    show Rl _ _ _ _ _ [iv z20] _ _
    refine l_ireturn rfl (retI_z (by omega)) ?_
    have w22 : 0 ≤ Xi T2 890 1 ∧ Xi T2 890 1 ≤ 5126 := hHT2.c _ _
    exact ⟨hHT2, hFT2, _, rfl, ⟨by omega, by omega⟩, (by first | assumption | omega), (by first | assumption | omega)⟩
  · refine l_aload_n rfl rfl ?_
    refine l_bipush rfl rfl ?_
    have w23 : Xi T1 876 7 = Xi S 876 7 := (show Xi T1 876 7 = Xi S 876 7 from w10.x _ _ rfl)
    have w25 : 0 ≤ Xi T1 890 1 ∧ Xi T1 890 1 ≤ 5126 := hHT1.c _ _
    refine l_callV rfl rfl rfl (t_gr_take hHT1 16 ⟨by omega, by omega⟩ (by first | assumption | omega) (by first | assumption | omega) (by first | assumption | omega) _) ?_
    rintro _ T3 ⟨hHT3, w31, z30, rfl, w30, w26, w27, w28, w29⟩
    have hFT3 : FR md_gr_takeBetween S T3 := FR.tr hFT1 w31 rfl
    show Rl _ _ _ _ _ [iv z30] _ _
    refine l_pop rfl rfl ?_
    refine l_iconst rfl ?_
    refine l_ireturn rfl rfl ?_
    have w32 : 0 ≤ Xi T3 890 1 ∧ Xi T3 890 1 ≤ 5126 := hHT3.c _ _
    exact ⟨hHT3, hFT3, _, rfl, ⟨by omega, by omega⟩, (by first | assumption | omega), (by first | assumption | omega)⟩
abbrev Q_gr_atPlace (S : sS) : pst := fun r S1 => S = S1 ∧ (∃ z : Int, r = some (iv z) ∧ (0 ≤ z ∧ z ≤ 1) ∧ (z = 1 → 0 ≤ Xi S 890 1 ∧ Xi S 890 1 < Xi S 876 7 ∧ Xi S 877 (Xi S 890 1).toNat ≠ 43))
set_option maxRecDepth 100000 in
theorem t_gr_atPlace {S : sS} (hH : HI S) (d : Nat) : Mt lay0 (d + 2) m_gr_atPlace [.ref 890] S (Q_gr_atPlace S) := by
  refine Mt_R rfl rfl ?_
  have w1 : 0 ≤ Xi S 876 7 ∧ Xi S 876 7 ≤ 5125 := hH.c _ _
  have w2 : 0 ≤ Xi S 890 1 ∧ Xi S 890 1 ≤ 5126 := hH.c _ _
  refine l_aload_n rfl rfl ?_
  refine l_gfr rfl rfl rfl rfl rfl (hH.r 890 0 876 rfl) ?_
  refine l_aload_n rfl rfl ?_
  refine l_gfi rfl rfl rfl rfl rfl ?_
  refine l_callV rfl rfl rfl (t_to_typeAt hH (Xi S 890 1) ⟨by omega, by omega⟩ _) ?_
  rintro _ _ ⟨rfl, z7, rfl, w7, w4, w5, w6⟩
  show Rl _ _ _ _ _ [iv z7] _ _
  refine l_istore_n rfl rfl rfl ?_
  refine l_iload_n rfl rfl ?_
  refine l_bipush rfl rfl ?_
  refine l_icmp_eq rfl rfl (by unfold rg; omega) (by unfold rg; omega) (fun w8 => ?_) (fun w9 => ?_)
  · refine l_iconst rfl ?_
    refine l_goto rfl rfl ?_
    refine l_ireturn rfl rfl ?_
    exact ⟨rfl, _, rfl, ⟨by omega, by omega⟩, (by first | assumption | omega)⟩
  · refine l_iload_n rfl rfl ?_
    refine l_bipush rfl rfl ?_
    refine l_icmp_eq rfl rfl (by unfold rg; omega) (by unfold rg; omega) (fun w10 => ?_) (fun w11 => ?_)
    · refine l_iconst rfl ?_
      refine l_goto rfl rfl ?_
      refine l_ireturn rfl rfl ?_
      exact ⟨rfl, _, rfl, ⟨by omega, by omega⟩, (by first | assumption | omega)⟩
    · refine l_iload_n rfl rfl ?_
      refine l_bipush rfl rfl ?_
      refine l_icmp_eq rfl rfl (by unfold rg; omega) (by unfold rg; omega) (fun w12 => ?_) (fun w13 => ?_)
      · refine l_iconst rfl ?_
        refine l_goto rfl rfl ?_
        refine l_ireturn rfl rfl ?_
        exact ⟨rfl, _, rfl, ⟨by omega, by omega⟩, (by first | assumption | omega)⟩
      · refine l_iload_n rfl rfl ?_
        refine l_bipush rfl rfl ?_
        refine l_icmp_eq rfl rfl (by unfold rg; omega) (by unfold rg; omega) (fun w14 => ?_) (fun w15 => ?_)
        · refine l_iconst rfl ?_
          refine l_goto rfl rfl ?_
          refine l_ireturn rfl rfl ?_
          exact ⟨rfl, _, rfl, ⟨by omega, by omega⟩, (by first | assumption | omega)⟩
        · refine l_iload_n rfl rfl ?_
          refine l_bipush rfl rfl ?_
          refine l_icmp_ne rfl rfl (by unfold rg; omega) (by unfold rg; omega) (fun w16 => ?_) (fun w17 => ?_)
          · refine l_iconst rfl ?_
            refine l_ireturn rfl rfl ?_
            exact ⟨rfl, _, rfl, ⟨by omega, by omega⟩, (by first | assumption | omega)⟩
          · refine l_iconst rfl ?_
            refine l_goto rfl rfl ?_
            refine l_ireturn rfl rfl ?_
            exact ⟨rfl, _, rfl, ⟨by omega, by omega⟩, (by first | assumption | omega)⟩
def md_gr_takeThing : List rec := [(890, 891, 1, 2)]
abbrev Q_gr_takeThing (S : sS) : pst := fun r S1 => HI S1 ∧ FR md_gr_takeThing S S1 ∧ (∃ z : Int, r = some (iv z) ∧ (0 ≤ z ∧ z ≤ 1) ∧ (Xi S 890 1 ≤ Xi S1 890 1 ∧ Xi S1 890 1 ≤ Xi S 876 7) ∧ (SAY S1 (Xi S1 890 1)))
set_option maxRecDepth 100000 in
theorem t_gr_takeThing {S : sS} (hH : HI S) (ha : Xi S 890 1 ≤ Xi S 876 7) (hs : SAY S (Xi S 890 1)) (d : Nat) : Mt lay0 (d + 3) m_gr_takeThing [.ref 890] S (Q_gr_takeThing S) := by
  refine Mt_R rfl rfl ?_
  have hF : FR md_gr_takeThing S S := FR.rf
  have w1 : 0 ≤ Xi S 876 7 ∧ Xi S 876 7 ≤ 5125 := hH.c _ _
  have w2 : 0 ≤ Xi S 890 1 ∧ Xi S 890 1 ≤ 5126 := hH.c _ _
  refine l_aload_n rfl rfl ?_
  refine l_bipush rfl rfl ?_
  refine l_callV rfl rfl rfl (t_gr_take hH 54 ⟨by omega, by omega⟩ (by first | assumption | omega) (by first | assumption | omega) (by first | assumption | omega) _) ?_
  rintro _ T1 ⟨hHT1, w10, z9, rfl, w9, w5, w6, w7, w8⟩
  have hFT1 : FR md_gr_takeThing S T1 := FR.tr hF w10 rfl
  show Rl _ _ _ _ _ [iv z9] _ _
  refine l_if_ne rfl rfl (by unfold rg; omega) (fun w11 => ?_) (fun w12 => ?_)
  · refine l_iconst rfl ?_
    refine l_ireturn rfl rfl ?_
    have w13 : 0 ≤ Xi T1 890 1 ∧ Xi T1 890 1 ≤ 5126 := hHT1.c _ _
    exact ⟨hHT1, hFT1, _, rfl, ⟨by omega, by omega⟩, (by first | assumption | omega), (by first | assumption | omega)⟩
  · refine l_aload_n rfl rfl ?_
    refine l_bipush rfl rfl ?_
    have w14 : Xi T1 876 7 = Xi S 876 7 := (show Xi T1 876 7 = Xi S 876 7 from w10.x _ _ rfl)
    have w16 : 0 ≤ Xi T1 890 1 ∧ Xi T1 890 1 ≤ 5126 := hHT1.c _ _
    refine l_callV rfl rfl rfl (t_gr_take hHT1 53 ⟨by omega, by omega⟩ (by first | assumption | omega) (by first | assumption | omega) (by first | assumption | omega) _) ?_
    rintro _ T2 ⟨hHT2, w22, z21, rfl, w21, w17, w18, w19, w20⟩
    have hFT2 : FR md_gr_takeThing S T2 := FR.tr hFT1 w22 rfl
    show Rl _ _ _ _ _ [iv z21] _ _
    refine l_if_eq rfl rfl (by unfold rg; omega) (fun w23 => ?_) (fun w24 => ?_)
    · refine l_aload_n rfl rfl ?_
      refine l_gfr rfl rfl rfl rfl rfl (hHT2.r 890 0 876 rfl) ?_
      refine l_aload_n rfl rfl ?_
      refine l_gfi rfl rfl rfl rfl rfl ?_
      have w25 : 0 ≤ (Xi T2 890 1) ∧ (Xi T2 890 1) ≤ 5126 := hHT2.c _ _
      have w26 : Xi T2 876 7 = Xi S 876 7 := (show Xi T2 876 7 = Xi T1 876 7 from w22.x _ _ rfl).trans ((show Xi T1 876 7 = Xi S 876 7 from w10.x _ _ rfl))
      refine l_callV rfl rfl rfl (t_to_typeAt hHT2 (Xi T2 890 1) ⟨by omega, by omega⟩ _) ?_
      rintro _ _ ⟨rfl, z31, rfl, w31, w28, w29, w30⟩
      show Rl _ _ _ _ _ [iv z31] _ _
      refine l_iconst rfl ?_
      refine l_icmp_ne rfl rfl (by unfold rg; omega) (by unfold rg; omega) (fun w32 => ?_) (fun w33 => ?_)
      · refine l_iconst rfl ?_
        refine l_istore_n rfl rfl rfl ?_
        refine l_aload_n rfl rfl ?_
        refine l_aload_n rfl rfl ?_
        refine l_gfr rfl rfl rfl rfl rfl (hHT2.r 890 0 876 rfl) ?_
        refine l_aload_n rfl rfl ?_
        refine l_gfi rfl rfl rfl rfl rfl ?_
        refine l_callV rfl rfl rfl (t_to_behindArt hHT2 (Xi T2 890 1) ⟨by omega, by omega⟩ _) ?_
        rintro _ _ ⟨rfl, z37, rfl, w37, w36⟩
        show Rl _ _ _ _ _ [iv z37, .ref 890] _ _
        refine l_pfi rfl rfl rfl rfl ?_
        obtain ⟨U3, eU3⟩ : ∃ T : sS, T = uI T2 890 1 (Int32.ofInt z37) := ⟨_, rfl⟩
        rw [← eU3]
        have hHU3 : HI U3 := by rw [eU3]; exact HI_w hHT2 (show 0 ≤ z37 by omega) (show z37 ≤ 5126 by omega)
        have hFU3 : FR md_gr_takeThing S U3 := by rw [eU3]; exact FR.wI hFT2 (mdf_i (r := (890, 891, 1, 2)) (List.mem_of_getElem? (i := 0) rfl) (inR_i (by omega) (by omega) (by omega) (by omega)))
        have w38 : Xi U3 890 1 = z37 := by rw [eU3]; exact Xi_same (by unfold rg; omega)
        have hs2 : SAY U3 (Xi U3 890 1) := SAY_artw eU3 (by assumption) (by assumption) (by omega) (by omega)
        refine l_iload_n rfl rfl ?_
        refine l_if_eq rfl rfl (by unfold rg; omega) (fun w39 => ?_) (fun w40 => absurd w40 (by omega))
        · refine l_aload_n rfl rfl ?_
          have w41 : Xi U3 876 7 = Xi S 876 7 := (show Xi U3 876 7 = Xi T2 876 7 from by rw [eU3]; exact Xi_ne (by omega)).trans ( (show Xi T2 876 7 = Xi T1 876 7 from w22.x _ _ rfl).trans ((show Xi T1 876 7 = Xi S 876 7 from w10.x _ _ rfl)))
          have w43 : 0 ≤ Xi U3 890 1 ∧ Xi U3 890 1 ≤ 5126 := hHU3.c _ _
          refine l_callV rfl rfl rfl (t_gr_takeRun hHU3 (by first | assumption | omega) (by first | assumption | omega) _) ?_
          rintro _ T4 ⟨hHT4, w48, z47, rfl, w47, w44, w45, w46⟩
          have hFT4 : FR md_gr_takeThing S T4 := FR.tr hFU3 w48 rfl
          show Rl _ _ _ _ _ [iv z47] _ _
          refine l_if_eq rfl rfl (by unfold rg; omega) (fun w49 => ?_) (fun w50 => ?_)
          · refine l_iconst rfl ?_
            refine l_ireturn rfl rfl ?_
            have w51 : 0 ≤ Xi T4 890 1 ∧ Xi T4 890 1 ≤ 5126 := hHT4.c _ _
            exact ⟨hHT4, hFT4, _, rfl, ⟨by omega, by omega⟩, (by first | assumption | omega), (by first | assumption | omega)⟩
          · refine l_iconst rfl ?_
            refine l_goto rfl rfl ?_
            refine l_ireturn rfl rfl ?_
            have w52 : 0 ≤ Xi T4 890 1 ∧ Xi T4 890 1 ≤ 5126 := hHT4.c _ _
            exact ⟨hHT4, hFT4, _, rfl, ⟨by omega, by omega⟩, (by first | assumption | omega), (by first | assumption | omega)⟩
      · refine l_iconst rfl ?_
        refine l_goto rfl rfl ?_
        refine l_istore_n rfl rfl rfl ?_
        refine l_aload_n rfl rfl ?_
        refine l_aload_n rfl rfl ?_
        refine l_gfr rfl rfl rfl rfl rfl (hHT2.r 890 0 876 rfl) ?_
        refine l_aload_n rfl rfl ?_
        refine l_gfi rfl rfl rfl rfl rfl ?_
        refine l_callV rfl rfl rfl (t_to_behindArt hHT2 (Xi T2 890 1) ⟨by omega, by omega⟩ _) ?_
        rintro _ _ ⟨rfl, z56, rfl, w56, w55⟩
        show Rl _ _ _ _ _ [iv z56, .ref 890] _ _
        refine l_pfi rfl rfl rfl rfl ?_
        obtain ⟨U5, eU5⟩ : ∃ T : sS, T = uI T2 890 1 (Int32.ofInt z56) := ⟨_, rfl⟩
        rw [← eU5]
        have hHU5 : HI U5 := by rw [eU5]; exact HI_w hHT2 (show 0 ≤ z56 by omega) (show z56 ≤ 5126 by omega)
        have hFU5 : FR md_gr_takeThing S U5 := by rw [eU5]; exact FR.wI hFT2 (mdf_i (r := (890, 891, 1, 2)) (List.mem_of_getElem? (i := 0) rfl) (inR_i (by omega) (by omega) (by omega) (by omega)))
        have w57 : Xi U5 890 1 = z56 := by rw [eU5]; exact Xi_same (by unfold rg; omega)
        have hs2 : SAY U5 (Xi U5 890 1) := SAY_artw eU5 (by assumption) (by assumption) (by omega) (by omega)
        refine l_iload_n rfl rfl ?_
        refine l_if_eq rfl rfl (by unfold rg; omega) (fun w58 => absurd w58 (by omega)) (fun w59 => ?_)
        · refine l_aload_n rfl rfl ?_
          refine l_bipush rfl rfl ?_
          have w60 : Xi U5 876 7 = Xi S 876 7 := (show Xi U5 876 7 = Xi T2 876 7 from by rw [eU5]; exact Xi_ne (by omega)).trans ( (show Xi T2 876 7 = Xi T1 876 7 from w22.x _ _ rfl).trans ((show Xi T1 876 7 = Xi S 876 7 from w10.x _ _ rfl)))
          have w62 : 0 ≤ Xi U5 890 1 ∧ Xi U5 890 1 ≤ 5126 := hHU5.c _ _
          refine l_callV rfl rfl rfl (t_gr_take hHU5 53 ⟨by omega, by omega⟩ (by first | assumption | omega) (by first | assumption | omega) (by first | assumption | omega) _) ?_
          rintro _ T6 ⟨hHT6, w68, z67, rfl, w67, w63, w64, w65, w66⟩
          have hFT6 : FR md_gr_takeThing S T6 := FR.tr hFU5 w68 rfl
          show Rl _ _ _ _ _ [iv z67] _ _
          refine l_if_ne rfl rfl (by unfold rg; omega) (fun w69 => ?_) (fun w70 => ?_)
          · refine l_iconst rfl ?_
            refine l_goto rfl rfl ?_
            refine l_ireturn rfl rfl ?_
            have w71 : 0 ≤ Xi T6 890 1 ∧ Xi T6 890 1 ≤ 5126 := hHT6.c _ _
            exact ⟨hHT6, hFT6, _, rfl, ⟨by omega, by omega⟩, (by first | assumption | omega), (by first | assumption | omega)⟩
          · refine l_aload_n rfl rfl ?_
            have w72 : Xi T6 876 7 = Xi S 876 7 := (show Xi T6 876 7 = Xi U5 876 7 from w68.x _ _ rfl).trans ( (show Xi U5 876 7 = Xi T2 876 7 from by rw [eU5]; exact Xi_ne (by omega)).trans ( (show Xi T2 876 7 = Xi T1 876 7 from w22.x _ _ rfl).trans ((show Xi T1 876 7 = Xi S 876 7 from w10.x _ _ rfl))))
            have w74 : 0 ≤ Xi T6 890 1 ∧ Xi T6 890 1 ≤ 5126 := hHT6.c _ _
            refine l_callV rfl rfl rfl (t_gr_takeRun hHT6 (by first | assumption | omega) (by first | assumption | omega) _) ?_
            rintro _ T7 ⟨hHT7, w79, z78, rfl, w78, w75, w76, w77⟩
            have hFT7 : FR md_gr_takeThing S T7 := FR.tr hFT6 w79 rfl
            show Rl _ _ _ _ _ [iv z78] _ _
            refine l_if_eq rfl rfl (by unfold rg; omega) (fun w80 => ?_) (fun w81 => ?_)
            · refine l_iconst rfl ?_
              refine l_ireturn rfl rfl ?_
              have w82 : 0 ≤ Xi T7 890 1 ∧ Xi T7 890 1 ≤ 5126 := hHT7.c _ _
              exact ⟨hHT7, hFT7, _, rfl, ⟨by omega, by omega⟩, (by first | assumption | omega), (by first | assumption | omega)⟩
            · refine l_iconst rfl ?_
              refine l_goto rfl rfl ?_
              refine l_ireturn rfl rfl ?_
              have w83 : 0 ≤ Xi T7 890 1 ∧ Xi T7 890 1 ≤ 5126 := hHT7.c _ _
              exact ⟨hHT7, hFT7, _, rfl, ⟨by omega, by omega⟩, (by first | assumption | omega), (by first | assumption | omega)⟩
    · refine l_iconst rfl ?_
      refine l_ireturn rfl rfl ?_
      have w84 : 0 ≤ Xi T2 890 1 ∧ Xi T2 890 1 ≤ 5126 := hHT2.c _ _
      exact ⟨hHT2, hFT2, _, rfl, ⟨by omega, by omega⟩, (by first | assumption | omega), (by first | assumption | omega)⟩


