abbrev Q_mo_beginsOf (S : sS) (n : Nat) (t : Int) : pst := fun r S1 => S = S1 ∧ (∃ z : Int, r = some (iv z) ∧ (0 ≤ z ∧ z ≤ 1))
set_option maxRecDepth 100000 in
theorem t_mo_beginsOf {S : sS} (hH : HI S) (n : Nat) (t : Int) (ht : 0 ≤ t ∧ t ≤ 5001) (hT : TK S n) (ht : t ≤ n) (d : Nat) : Mt lay0 (d + 1) m_mo_beginsOf [.ref 904, iv t] S (Q_mo_beginsOf S n t) := by
  refine Mt_R rfl rfl ?_
  have hn5 := hT.1
  have C17 : ∀ (n17 : Nat) (v2 : Int), (1 ≤ v2 ∧ v2 ≤ 5001) → (t < v2) → (v2 ≤ n) → n17 = (5002 - v2).toNat → Rl lay0 (d + 0) m_mo_beginsOf 17 [(0, .ref 904), (1, iv t), (2, iv v2)] [] S (Q_mo_beginsOf S n t) := by
    intro n17
    induction n17 using Nat.strongRecOn with
    | ind n17 ih17 =>
      intro v2 w1 w2 w3 hm17
      refine l_aload_n rfl rfl ?_
      refine l_gfr rfl rfl rfl rfl rfl (hH.r 904 4 907 rfl) ?_
      refine l_iload_n rfl rfl ?_
      refine l_iaload (n := 5002) rfl rfl (by omega) (by omega) (by unfold rg; omega) ?_
      have w4 : 0 ≤ (Xi S 907 ((v2).toNat)) ∧ (Xi S 907 ((v2).toNat)) ≤ 154 := hH.c _ _
      have u22 : (Xi S 907 ((v2).toNat)) = 3 → v2 < n := fun q => tk_lt hT (by omega) (by omega) (by omega)
      refine l_iconst rfl ?_
      refine l_icmp_ne rfl rfl (by unfold rg; omega) (by unfold rg; omega) (fun w5 => ?_) (fun w6 => ?_)
      · refine l_iload_n rfl rfl ?_
        refine l_iload_n rfl rfl ?_
        refine l_iconst rfl ?_
        refine l_iadd rfl ?_
        refine l_icmp_le rfl rfl (by unfold rg; omega) (by unfold rg; omega) (fun w7 => ?_) (fun w8 => ?_)
        · refine l_iconst rfl ?_
          refine l_ireturn rfl rfl ?_
          exact ⟨rfl, _, rfl, ⟨by omega, by omega⟩⟩
        · refine l_aload_n rfl rfl ?_
          refine l_gfr rfl rfl rfl rfl rfl (hH.r 904 4 907 rfl) ?_
          refine l_iload_n rfl rfl ?_
          refine l_iaload (n := 5002) rfl rfl (by omega) (by omega) (by unfold rg; omega) ?_
          refine l_bipush rfl rfl ?_
          refine l_icmp_ne rfl rfl (by unfold rg; omega) (by unfold rg; omega) (fun w9 => ?_) (fun w10 => ?_)
          · refine l_iconst rfl ?_
            refine l_ireturn rfl rfl ?_
            exact ⟨rfl, _, rfl, ⟨by omega, by omega⟩⟩
          · refine l_iconst rfl ?_
            refine l_goto rfl rfl ?_
            refine l_ireturn rfl rfl ?_
            exact ⟨rfl, _, rfl, ⟨by omega, by omega⟩⟩
      · refine l_iinc rfl rfl rfl rfl ?_
        refine l_goto rfl rfl ?_
        exact Rl_weak (ih17 _ (by omega) ((v2 + 1)) (by omega) (by omega) (by omega) rfl) (And.intro rfl (And.intro rfl (And.intro rfl (True.intro))))
  refine l_iload_n rfl rfl ?_
  refine l_iconst rfl ?_
  refine l_iadd rfl ?_
  refine l_istore_n rfl rfl rfl ?_
  refine l_aload_n rfl rfl ?_
  refine l_gfr rfl rfl rfl rfl rfl (hH.r 904 4 907 rfl) ?_
  refine l_iload_n rfl rfl ?_
  refine l_iaload (n := 5002) rfl rfl (by omega) (by omega) (by unfold rg; omega) ?_
  have w11 : 0 ≤ (Xi S 907 ((t).toNat)) ∧ (Xi S 907 ((t).toNat)) ≤ 154 := hH.c _ _
  have u9 : (Xi S 907 ((t).toNat)) = 102 → t < n := fun q => tk_lt hT (by omega) ht (by omega)
  refine l_bipush rfl rfl ?_
  refine l_icmp_eq rfl rfl (by unfold rg; omega) (by unfold rg; omega) (fun w12 => ?_) (fun w13 => ?_)
  · exact Rl_weak (C17 _ ((t + 1)) (by omega) (by omega) (by omega) rfl) (And.intro rfl (And.intro rfl (And.intro rfl (True.intro))))
  · refine l_iconst rfl ?_
    refine l_ireturn rfl rfl ?_
    exact ⟨rfl, _, rfl, ⟨by omega, by omega⟩⟩

