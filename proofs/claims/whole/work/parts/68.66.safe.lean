abbrev Q_mo_beginsOf (S : sS) (n : Nat) (t : Int) : pst := fun r S1 => S = S1 ∧ (∃ z : Int, r = some (iv z) ∧ (0 ≤ z ∧ z ≤ 1))
set_option maxRecDepth 100000 in
theorem t_mo_beginsOf {S : sS} (hH : HI S) (n : Nat) (t : Int) (ht : 0 ≤ t ∧ t ≤ 5001) (hT : TK S n) (ht : t ≤ n) (d : Nat) : Mt lay0 (d + 1) m_mo_beginsOf [.ref 904, iv t] S (Q_mo_beginsOf S n t) := by
  refine Mt_R rfl rfl ?_
  have hn5 := hT.1
  have C17 : ∀ (n17 : Nat) (v2 : Int), (1 ≤ v2 ∧ v2 ≤ 5001) → (t < v2) → (v2 ≤ n) → n17 = (5002 - v2).toNat → Rl lay0 (d + 0) m_mo_beginsOf 17 [(0, .ref 904), (1, iv t), (2, iv v2)] [] S (Q_mo_beginsOf S n t) := by
    intro n17
    induction n17 using Nat.strongRecOn with
    | ind n17 ih17 =>
      intro v2 w1 w2 w3 hm17
      refine l_aload_n rfl rfl ?_
      refine l_gfr rfl rfl rfl rfl rfl (hH.r 904 4 907 rfl) ?_
      refine l_iload_n rfl rfl ?_
      refine l_iaload (n := 5002) rfl rfl (by omega) (by omega) (by unfold rg; omega) ?_
      have w4 : 0 ≤ (Xi S 907 ((v2).toNat)) ∧ (Xi S 907 ((v2).toNat)) ≤ 154 := hH.c _ _
      have u22 : (Xi S 907 ((v2).toNat)) = 3 → v2 < n := fun q => tk_lt hT (by omega) (by omega) (by omega)
      refine l_iconst rfl ?_
      refine l_icmp_ne rfl rfl (by unfold rg; omega) (by unfold rg; omega) (fun w5 => ?_) (fun w6 => ?_)
      · refine l_iload_n rfl rfl ?_
        refine l_iload_n rfl rfl ?_
        refine l_iconst rfl ?_
        refine l_iadd rfl ?_
        refine l_icmp_le rfl rfl (by unfold rg; omega) (by unfold rg; omega) (fun w7 => ?_) (fun w8 => ?_)
        · refine l_iconst rfl ?_
          refine l_ireturn rfl rfl ?_
          exact ⟨rfl, _, rfl, ⟨by omega, by omega⟩⟩
        · refine l_aload_n rfl rfl ?_
          refine l_gfr rfl rfl rfl rfl rfl (hH.r 904 4 907 rfl) ?_
          refine l_iload_n rfl rfl ?_
          refine l_iaload (n := 5002) rfl rfl (by omega) (by omega) (by unfold rg; omega) ?_
          refine l_bipush rfl rfl ?_
          refine l_icmp_ne rfl rfl (by unfold rg; omega) (by unfold rg; omega) (fun w9 => ?_) (fun w10 => ?_)
          · refine l_iconst rfl ?_
            refine l_ireturn rfl rfl ?_
            exact ⟨rfl, _, rfl, ⟨by omega, by omega⟩⟩
          · refine l_iconst rfl ?_
            refine l_goto rfl rfl ?_
            refine l_ireturn rfl rfl ?_
            exact ⟨rfl, _, rfl, ⟨by omega, by omega⟩⟩
      · refine l_iinc rfl rfl rfl rfl ?_
        refine l_goto rfl rfl ?_
        exact Rl_weak (ih17 _ (by omega) ((v2 + 1)) (by omega) (by omega) (by omega) rfl) (And.intro rfl (And.intro rfl (And.intro rfl (True.intro))))
  refine l_iload_n rfl rfl ?_
  refine l_iconst rfl ?_
  refine l_iadd rfl ?_
  refine l_istore_n rfl rfl rfl ?_
  refine l_aload_n rfl rfl ?_
  refine l_gfr rfl rfl rfl rfl rfl (hH.r 904 4 907 rfl) ?_
  refine l_iload_n rfl rfl ?_
  refine l_iaload (n := 5002) rfl rfl (by omega) (by omega) (by unfold rg; omega) ?_
  have w11 : 0 ≤ (Xi S 907 ((t).toNat)) ∧ (Xi S 907 ((t).toNat)) ≤ 154 := hH.c _ _
  have u9 : (Xi S 907 ((t).toNat)) = 102 → t < n := fun q => tk_lt hT (by omega) ht (by omega)
  refine l_bipush rfl rfl ?_
  refine l_icmp_eq rfl rfl (by unfold rg; omega) (by unfold rg; omega) (fun w12 => ?_) (fun w13 => ?_)
  · exact Rl_weak (C17 _ ((t + 1)) (by omega) (by omega) (by omega) rfl) (And.intro rfl (And.intro rfl (And.intro rfl (True.intro))))
  · refine l_iconst rfl ?_
    refine l_ireturn rfl rfl ?_
    exact ⟨rfl, _, rfl, ⟨by omega, by omega⟩⟩
/-! SAFETY of methods: printed by wip/safe (vc.py, decl.py) -/
abbrev Q_mo_mean (S : sS) (t : Int) (m : Int) : pst := fun r S1 => S = S1 ∧ (∃ z : Int, r = some (iv z) ∧ (-1 ≤ z ∧ z ≤ 299) ∧ (z ≠ -1 → z < Xi S 904 15))
set_option maxRecDepth 100000 in
theorem t_mo_mean {S : sS} (hH : HI S) (t : Int) (m : Int) (ht : 0 ≤ t ∧ t ≤ 5001) (hm : -2147483648 ≤ m ∧ m ≤ 2147483647) (hn : m ≤ 3 → t + m ≤ 5002) (d : Nat) : Mt lay0 (d + 2) m_mo_mean [.ref 904, iv t, iv m] S (Q_mo_mean S t m) := by
  refine Mt_R rfl rfl ?_
  have w1 : 0 ≤ Xi S 904 15 ∧ Xi S 904 15 ≤ 300 := hH.c _ _
  refine l_iload_n rfl rfl ?_
  refine l_iconst rfl ?_
  refine l_icmp_lt rfl rfl (by unfold rg; omega) (by unfold rg; omega) (fun w2 => ?_) (fun w3 => ?_)
  · refine l_iconst rfl ?_
    refine l_goto rfl rfl ?_
    refine l_ireturn rfl rfl ?_
    exact ⟨rfl, _, rfl, ⟨by omega, by omega⟩, (by first | assumption | omega)⟩
  · refine l_iload_n rfl rfl ?_
    refine l_iconst rfl ?_
    refine l_icmp_le rfl rfl (by unfold rg; omega) (by unfold rg; omega) (fun w4 => ?_) (fun w5 => ?_)
    · refine l_aload_n rfl rfl ?_
      refine l_aload_n rfl rfl ?_
      refine l_gfr rfl rfl rfl rfl rfl (hH.r 904 7 910 rfl) ?_
      refine l_iload_n rfl rfl ?_
      refine l_laload (n := 5002) rfl rfl (by omega) (by omega) (by unfold rg; omega) ?_
      have w6 : -9223372036854775808 ≤ (Xj S 910 ((t).toNat)) ∧ (Xj S 910 ((t).toNat)) < 9223372036854775808 := Xj_rg
      refine l_iload_n rfl rfl ?_
      refine l_iconst rfl ?_
      refine l_icmp_le rfl rfl (by unfold rg; omega) (by unfold rg; omega) (fun w7 => ?_) (fun w8 => ?_)
      · refine l_lconst (z := 0) rfl rfl ?_
        refine l_iload_n rfl rfl ?_
        refine l_iconst rfl ?_
        refine l_icmp_le rfl rfl (by unfold rg; omega) (by unfold rg; omega) (fun w9 => ?_) (fun w10 => ?_)
        · refine l_lconst (z := 0) rfl rfl ?_
          refine l_iload_n rfl rfl ?_
          refine l_callV rfl rfl rfl (t_mo_find hH (Xj S 910 ((t).toNat)) 0 0 m ⟨by omega, by omega⟩ _) ?_
          rintro _ _ ⟨rfl, z13, rfl, w13, w12⟩
          show Rl _ _ _ _ _ [iv z13] _ _
          refine l_ireturn rfl rfl ?_
          exact ⟨rfl, _, rfl, ⟨by omega, by omega⟩, (by first | assumption | omega)⟩
        · refine l_aload_n rfl rfl ?_
          refine l_gfr rfl rfl rfl rfl rfl (hH.r 904 7 910 rfl) ?_
          refine l_iload_n rfl rfl ?_
          refine l_iconst rfl ?_
          refine l_iadd rfl ?_
          refine l_laload (n := 5002) rfl rfl (by omega) (by omega) (by unfold rg; omega) ?_
          have w14 : -9223372036854775808 ≤ (Xj S 910 (((t + 2)).toNat)) ∧ (Xj S 910 (((t + 2)).toNat)) < 9223372036854775808 := Xj_rg
          refine l_goto rfl rfl ?_
          refine l_iload_n rfl rfl ?_
          refine l_callV rfl rfl rfl (t_mo_find hH (Xj S 910 ((t).toNat)) 0 (Xj S 910 (((t + 2)).toNat)) m ⟨by omega, by omega⟩ _) ?_
          rintro _ _ ⟨rfl, z17, rfl, w17, w16⟩
          show Rl _ _ _ _ _ [iv z17] _ _
          refine l_ireturn rfl rfl ?_
          exact ⟨rfl, _, rfl, ⟨by omega, by omega⟩, (by first | assumption | omega)⟩
      · refine l_aload_n rfl rfl ?_
        refine l_gfr rfl rfl rfl rfl rfl (hH.r 904 7 910 rfl) ?_
        refine l_iload_n rfl rfl ?_
        refine l_iconst rfl ?_
        refine l_iadd rfl ?_
        refine l_laload (n := 5002) rfl rfl (by omega) (by omega) (by unfold rg; omega) ?_
        have w18 : -9223372036854775808 ≤ (Xj S 910 (((t + 1)).toNat)) ∧ (Xj S 910 (((t + 1)).toNat)) < 9223372036854775808 := Xj_rg
        refine l_goto rfl rfl ?_
        refine l_iload_n rfl rfl ?_
        refine l_iconst rfl ?_
        refine l_icmp_le rfl rfl (by unfold rg; omega) (by unfold rg; omega) (fun w19 => ?_) (fun w20 => ?_)
        · refine l_lconst (z := 0) rfl rfl ?_
          refine l_iload_n rfl rfl ?_
          refine l_callV rfl rfl rfl (t_mo_find hH (Xj S 910 ((t).toNat)) (Xj S 910 (((t + 1)).toNat)) 0 m ⟨by omega, by omega⟩ _) ?_
          rintro _ _ ⟨rfl, z23, rfl, w23, w22⟩
          show Rl _ _ _ _ _ [iv z23] _ _
          refine l_ireturn rfl rfl ?_
          exact ⟨rfl, _, rfl, ⟨by omega, by omega⟩, (by first | assumption | omega)⟩
        · refine l_aload_n rfl rfl ?_
          refine l_gfr rfl rfl rfl rfl rfl (hH.r 904 7 910 rfl) ?_
          refine l_iload_n rfl rfl ?_
          refine l_iconst rfl ?_
          refine l_iadd rfl ?_
          refine l_laload (n := 5002) rfl rfl (by omega) (by omega) (by unfold rg; omega) ?_
          have w24 : -9223372036854775808 ≤ (Xj S 910 (((t + 2)).toNat)) ∧ (Xj S 910 (((t + 2)).toNat)) < 9223372036854775808 := Xj_rg
          refine l_goto rfl rfl ?_
          refine l_iload_n rfl rfl ?_
          refine l_callV rfl rfl rfl (t_mo_find hH (Xj S 910 ((t).toNat)) (Xj S 910 (((t + 1)).toNat)) (Xj S 910 (((t + 2)).toNat)) m ⟨by omega, by omega⟩ _) ?_
          rintro _ _ ⟨rfl, z27, rfl, w27, w26⟩
          show Rl _ _ _ _ _ [iv z27] _ _
          refine l_ireturn rfl rfl ?_
          exact ⟨rfl, _, rfl, ⟨by omega, by omega⟩, (by first | assumption | omega)⟩
    · refine l_iconst rfl ?_
      refine l_goto rfl rfl ?_
      refine l_ireturn rfl rfl ?_
      exact ⟨rfl, _, rfl, ⟨by omega, by omega⟩, (by first | assumption | omega)⟩
abbrev Q_mo_means (S : sS) (t : Int) (m : Int) (so : Int) : pst := fun r S1 => S = S1 ∧ (∃ z : Int, r = some (iv z) ∧ (-1 ≤ z ∧ z ≤ 63) ∧ (z ≠ -1 → z < cM S so))
set_option maxRecDepth 100000 in
theorem t_mo_means {S : sS} (hH : HI S) (t : Int) (m : Int) (so : Int) (ht : 0 ≤ t ∧ t ≤ 5001) (hm : -2147483648 ≤ m ∧ m ≤ 2147483647) (hso : 0 ≤ so ∧ so ≤ 12) (hn : m ≤ 3 → t + m ≤ 5002) (hM : LXM S) (d : Nat) : Mt lay0 (d + 3) m_mo_means [.ref 904, iv t, iv m, iv so] S (Q_mo_means S t m so) := by
  refine Mt_R rfl rfl ?_
  refine l_aload_n rfl rfl ?_
  refine l_iload_n rfl rfl ?_
  refine l_iload_n rfl rfl ?_
  have w1 : 0 ≤ Xi S 904 15 ∧ Xi S 904 15 ≤ 300 := hH.c _ _
  refine l_callV rfl rfl rfl (t_mo_mean hH t m ⟨by omega, by omega⟩ ⟨by omega, by omega⟩ (by first | assumption | omega) _) ?_
  rintro _ _ ⟨rfl, z3, rfl, w3, w2⟩
  show Rl _ _ _ _ _ [iv z3] _ _
  refine l_istore rfl rfl rfl ?_
  refine l_iload rfl rfl ?_
  refine l_iconst rfl ?_
  refine l_icmp_eq rfl rfl (by unfold rg; omega) (by unfold rg; omega) (fun w4 => ?_) (fun w5 => ?_)
  · refine l_iconst rfl ?_
    refine l_ireturn rfl rfl ?_
    exact ⟨rfl, _, rfl, ⟨by omega, by omega⟩, (by first | omega | (intro _; exact x31))⟩
  · refine l_aload_n rfl rfl ?_
    refine l_gfr rfl rfl rfl rfl rfl (hH.r 904 12 914 rfl) ?_
    refine l_iload rfl rfl ?_
    refine l_iaload (n := 300) rfl rfl (by omega) (by omega) (by unfold rg; omega) ?_
    have w6 : 0 ≤ (Xi S 914 ((z3).toNat)) ∧ (Xi S 914 ((z3).toNat)) ≤ 12 := hH.c _ _
    refine l_iload_n rfl rfl ?_
    refine l_icmp_ne rfl rfl (by unfold rg; omega) (by unfold rg; omega) (fun w7 => ?_) (fun w8 => ?_)
    · refine l_iconst rfl ?_
      refine l_ireturn rfl rfl ?_
      exact ⟨rfl, _, rfl, ⟨by omega, by omega⟩, (by first | omega | (intro _; exact x31))⟩
    · refine l_aload_n rfl rfl ?_
      refine l_gfr rfl rfl rfl rfl rfl (hH.r 904 13 915 rfl) ?_
      refine l_iload rfl rfl ?_
      refine l_iaload (n := 300) rfl rfl (by omega) (by omega) (by unfold rg; omega) ?_
      have w9 : 0 ≤ (Xi S 915 ((z3).toNat)) ∧ (Xi S 915 ((z3).toNat)) ≤ 63 := hH.c _ _
      have x31 : (Xi S 915 ((z3).toNat)) < cM S so := lxm (s := so) hM (k := z3) (by omega) (by omega) (by omega)
      refine l_goto rfl rfl ?_
      refine l_ireturn rfl rfl ?_
      exact ⟨rfl, _, rfl, ⟨by omega, by omega⟩, (by first | omega | (intro _; exact x31))⟩
abbrev Q_mo_meansRun (S : sS) (n : Nat) (rn : Int) (so : Int) : pst := fun r S1 => S = S1 ∧ (∃ z : Int, r = some (iv z) ∧ (-1 ≤ z ∧ z ≤ 63) ∧ (z ≠ -1 → z < cM S so))
set_option maxRecDepth 100000 in
theorem t_mo_meansRun {S : sS} (hH : HI S) (n : Nat) (rn : Int) (so : Int) (hrn : 0 ≤ rn ∧ rn ≤ 2599) (hso : 0 ≤ so ∧ so ≤ 12) (hT : TK S n) (hv : RNV S n) (hrr : rn < Xi S 904 69) (hM : LXM S) (d : Nat) : Mt lay0 (d + 4) m_mo_meansRun [.ref 904, iv rn, iv so] S (Q_mo_meansRun S n rn so) := by
  refine Mt_R rfl rfl ?_
  have w1 : 0 ≤ Xi S 904 69 ∧ Xi S 904 69 ≤ 2600 := hH.c _ _
  have hn5 := hT.1
  have hq := hv rn.toNat (by omega)
  have hq0 : 0 ≤ Xi S 950 rn.toNat ∧ Xi S 950 rn.toNat ≤ 5010 := hH.c 950 rn.toNat
  have hc69 : 0 ≤ Xi S 904 69 ∧ Xi S 904 69 ≤ 2600 := hH.c _ _
  refine l_aload_n rfl rfl ?_
  refine l_aload_n rfl rfl ?_
  refine l_gfr rfl rfl rfl rfl rfl (hH.r 904 67 950 rfl) ?_
  refine l_iload_n rfl rfl ?_
  refine l_iaload (n := 2600) rfl rfl (by omega) (by omega) (by unfold rg; omega) ?_
  have w2 : 0 ≤ (Xi S 950 ((rn).toNat)) ∧ (Xi S 950 ((rn).toNat)) ≤ 5010 := hH.c _ _
  refine l_aload_n rfl rfl ?_
  refine l_gfr rfl rfl rfl rfl rfl (hH.r 904 68 951 rfl) ?_
  refine l_iload_n rfl rfl ?_
  refine l_iaload (n := 2600) rfl rfl (by omega) (by omega) (by unfold rg; omega) ?_
  have w3 : 0 ≤ (Xi S 951 ((rn).toNat)) ∧ (Xi S 951 ((rn).toNat)) ≤ 5010 := hH.c _ _
  refine l_iload_n rfl rfl ?_
  refine l_callV rfl rfl rfl (t_mo_means hH (Xi S 950 ((rn).toNat)) (Xi S 951 ((rn).toNat)) so ⟨by omega, by omega⟩ ⟨by omega, by omega⟩ ⟨by omega, by omega⟩ (by first | assumption | omega) (by first | assumption | exact (by assumption : LXM S)) _) ?_
  rintro _ _ ⟨rfl, z5, rfl, w5, w4⟩
  show Rl _ _ _ _ _ [iv z5] _ _
  refine l_ireturn rfl rfl ?_
  exact ⟨rfl, _, rfl, ⟨by omega, by omega⟩, (by assumption)⟩
def md_mo_note : List rec := [(904, 905, 104, 105), (904, 905, 105, 106), (904, 905, 106, 107)]
abbrev Q_mo_note (S : sS) (f : Int) (t : Int) : pst := fun r S1 => HI S1 ∧ FR md_mo_note S S1 ∧ (r = none ∧ (f ≠ 0 → Xi S1 904 106 ≠ 0))
set_option maxRecDepth 100000 in
theorem t_mo_note {S : sS} (hH : HI S) (f : Int) (t : Int) (hf : 0 ≤ f ∧ f ≤ 9) (ht : 0 ≤ t ∧ t ≤ 5001) (d : Nat) : Mt lay0 (d + 2) m_mo_note [.ref 904, iv f, iv t] S (Q_mo_note S f t) := by
  refine Mt_R rfl rfl ?_
  have hF : FR md_mo_note S S := FR.rf
  refine l_aload_n rfl rfl ?_
  refine l_gfr rfl rfl rfl rfl rfl (hH.r 904 5 908 rfl) ?_
  refine l_iload_n rfl rfl ?_
  refine l_iaload (n := 5002) rfl rfl (by omega) (by omega) (by unfold rg; omega) ?_
  have w1 : 0 ≤ (Xi S 908 ((t).toNat)) ∧ (Xi S 908 ((t).toNat)) ≤ 5000 := hH.c _ _
  refine l_istore_n rfl rfl rfl ?_
  refine l_aload_n rfl rfl ?_
  refine l_gfi rfl rfl rfl rfl rfl ?_
  have w2 : 0 ≤ (Xi S 904 106) ∧ (Xi S 904 106) ≤ 9 := hH.c _ _
  refine l_if_eq rfl rfl (by unfold rg; omega) (fun w3 => ?_) (fun w4 => ?_)
  · refine l_aload_n rfl rfl ?_
    refine l_iload_n rfl rfl ?_
    refine l_pfi rfl rfl rfl rfl ?_
    obtain ⟨U1, eU1⟩ : ∃ T : sS, T = uI S 904 106 (Int32.ofInt f) := ⟨_, rfl⟩
    rw [← eU1]
    have hHU1 : HI U1 := by rw [eU1]; exact HI_w hH (show 0 ≤ f by omega) (show f ≤ 9 by omega)
    have hFU1 : FR md_mo_note S U1 := by rw [eU1]; exact FR.wI hF (mdf_i (r := (904, 905, 106, 107)) (List.mem_of_getElem? (i := 2) rfl) (inR_i (by omega) (by omega) (by omega) (by omega)))
    have w5 : Xi U1 904 106 = f := by rw [eU1]; exact Xi_same (by unfold rg; omega)
    refine l_aload_n rfl rfl ?_
    refine l_iload_n rfl rfl ?_
    refine l_pfi rfl rfl rfl rfl ?_
    obtain ⟨U2, eU2⟩ : ∃ T : sS, T = uI U1 904 105 (Int32.ofInt (Xi S 908 ((t).toNat))) := ⟨_, rfl⟩
    rw [← eU2]
    have hHU2 : HI U2 := by rw [eU2]; exact HI_w hHU1 (show 0 ≤ (Xi S 908 ((t).toNat)) by omega) (show (Xi S 908 ((t).toNat)) ≤ 5000 by omega)
    have hFU2 : FR md_mo_note S U2 := by rw [eU2]; exact FR.wI hFU1 (mdf_i (r := (904, 905, 105, 106)) (List.mem_of_getElem? (i := 1) rfl) (inR_i (by omega) (by omega) (by omega) (by omega)))
    have w6 : Xi U2 904 105 = (Xi S 908 ((t).toNat)) := by rw [eU2]; exact Xi_same (by unfold rg; omega)
    refine l_aload_n rfl rfl ?_
    refine l_iload_n rfl rfl ?_
    refine l_callS rfl rfl (by decide) rfl (t_mo_rank hHU2 f ⟨by omega, by omega⟩ _) ?_
    rintro _ _ ⟨rfl, z9, rfl, w9⟩
    show Rl _ _ _ _ _ [iv z9, .ref 904] _ _
    refine l_pfi rfl rfl rfl rfl ?_
    obtain ⟨U3, eU3⟩ : ∃ T : sS, T = uI U2 904 104 (Int32.ofInt z9) := ⟨_, rfl⟩
    rw [← eU3]
    have hHU3 : HI U3 := by rw [eU3]; exact HI_w hHU2 (show 0 ≤ z9 by omega) (show z9 ≤ 4 by omega)
    have hFU3 : FR md_mo_note S U3 := by rw [eU3]; exact FR.wI hFU2 (mdf_i (r := (904, 905, 104, 105)) (List.mem_of_getElem? (i := 0) rfl) (inR_i (by omega) (by omega) (by omega) (by omega)))
    have w10 : Xi U3 904 104 = z9 := by rw [eU3]; exact Xi_same (by unfold rg; omega)
    refine l_return rfl rfl ?_
    have w11 : Xi U3 904 106 = Xi U1 904 106 := (show Xi U3 904 106 = Xi U2 904 106 from by rw [eU3]; exact Xi_ne (by omega)).trans ((show Xi U2 904 106 = Xi U1 904 106 from by rw [eU2]; exact Xi_ne (by omega)))
    have w12 : 0 ≤ Xi U1 904 106 ∧ Xi U1 904 106 ≤ 9 := hHU1.c _ _
    exact ⟨hHU3, hFU3, rfl, (by first | assumption | omega)⟩
  · refine l_iload_n rfl rfl ?_
    refine l_aload_n rfl rfl ?_
    refine l_gfi rfl rfl rfl rfl rfl ?_
    have w13 : 0 ≤ (Xi S 904 105) ∧ (Xi S 904 105) ≤ 5000 := hH.c _ _
    refine l_icmp_lt rfl rfl (by unfold rg; omega) (by unfold rg; omega) (fun w14 => ?_) (fun w15 => ?_)
    · refine l_aload_n rfl rfl ?_
      refine l_iload_n rfl rfl ?_
      refine l_pfi rfl rfl rfl rfl ?_
      obtain ⟨U4, eU4⟩ : ∃ T : sS, T = uI S 904 106 (Int32.ofInt f) := ⟨_, rfl⟩
      rw [← eU4]
      have hHU4 : HI U4 := by rw [eU4]; exact HI_w hH (show 0 ≤ f by omega) (show f ≤ 9 by omega)
      have hFU4 : FR md_mo_note S U4 := by rw [eU4]; exact FR.wI hF (mdf_i (r := (904, 905, 106, 107)) (List.mem_of_getElem? (i := 2) rfl) (inR_i (by omega) (by omega) (by omega) (by omega)))
      have w16 : Xi U4 904 106 = f := by rw [eU4]; exact Xi_same (by unfold rg; omega)
      refine l_aload_n rfl rfl ?_
      refine l_iload_n rfl rfl ?_
      refine l_pfi rfl rfl rfl rfl ?_
      obtain ⟨U5, eU5⟩ : ∃ T : sS, T = uI U4 904 105 (Int32.ofInt (Xi S 908 ((t).toNat))) := ⟨_, rfl⟩
      rw [← eU5]
      have hHU5 : HI U5 := by rw [eU5]; exact HI_w hHU4 (show 0 ≤ (Xi S 908 ((t).toNat)) by omega) (show (Xi S 908 ((t).toNat)) ≤ 5000 by omega)
      have hFU5 : FR md_mo_note S U5 := by rw [eU5]; exact FR.wI hFU4 (mdf_i (r := (904, 905, 105, 106)) (List.mem_of_getElem? (i := 1) rfl) (inR_i (by omega) (by omega) (by omega) (by omega)))
      have w17 : Xi U5 904 105 = (Xi S 908 ((t).toNat)) := by rw [eU5]; exact Xi_same (by unfold rg; omega)
      refine l_aload_n rfl rfl ?_
      refine l_iload_n rfl rfl ?_
      refine l_callS rfl rfl (by decide) rfl (t_mo_rank hHU5 f ⟨by omega, by omega⟩ _) ?_
      rintro _ _ ⟨rfl, z20, rfl, w20⟩
      show Rl _ _ _ _ _ [iv z20, .ref 904] _ _
      refine l_pfi rfl rfl rfl rfl ?_
      obtain ⟨U6, eU6⟩ : ∃ T : sS, T = uI U5 904 104 (Int32.ofInt z20) := ⟨_, rfl⟩
      rw [← eU6]
      have hHU6 : HI U6 := by rw [eU6]; exact HI_w hHU5 (show 0 ≤ z20 by omega) (show z20 ≤ 4 by omega)
      have hFU6 : FR md_mo_note S U6 := by rw [eU6]; exact FR.wI hFU5 (mdf_i (r := (904, 905, 104, 105)) (List.mem_of_getElem? (i := 0) rfl) (inR_i (by omega) (by omega) (by omega) (by omega)))
      have w21 : Xi U6 904 104 = z20 := by rw [eU6]; exact Xi_same (by unfold rg; omega)
      refine l_return rfl rfl ?_
      have w22 : Xi U6 904 106 = Xi U4 904 106 := (show Xi U6 904 106 = Xi U5 904 106 from by rw [eU6]; exact Xi_ne (by omega)).trans ((show Xi U5 904 106 = Xi U4 904 106 from by rw [eU5]; exact Xi_ne (by omega)))
      have w23 : 0 ≤ Xi U4 904 106 ∧ Xi U4 904 106 ≤ 9 := hHU4.c _ _
      exact ⟨hHU6, hFU6, rfl, (by first | assumption | omega)⟩
    · refine l_iload_n rfl rfl ?_
      refine l_aload_n rfl rfl ?_
      refine l_gfi rfl rfl rfl rfl rfl ?_
      refine l_icmp_ne rfl rfl (by unfold rg; omega) (by unfold rg; omega) (fun w24 => ?_) (fun w25 => ?_)
      · refine l_return rfl rfl ?_
        have w26 : 0 ≤ Xi S 904 106 ∧ Xi S 904 106 ≤ 9 := hH.c _ _
        exact ⟨hH, hF, rfl, (by first | assumption | omega)⟩
      · refine l_iload_n rfl rfl ?_
        refine l_callS rfl rfl (by decide) rfl (t_mo_rank hH f ⟨by omega, by omega⟩ _) ?_
        rintro _ _ ⟨rfl, z28, rfl, w28⟩
        show Rl _ _ _ _ _ [iv z28] _ _
        refine l_aload_n rfl rfl ?_
        refine l_gfi rfl rfl rfl rfl rfl ?_
        have w29 : 0 ≤ (Xi S 904 104) ∧ (Xi S 904 104) ≤ 4 := hH.c _ _
        refine l_icmp_ge rfl rfl (by unfold rg; omega) (by unfold rg; omega) (fun w30 => ?_) (fun w31 => ?_)
        · refine l_return rfl rfl ?_
          have w32 : 0 ≤ Xi S 904 106 ∧ Xi S 904 106 ≤ 9 := hH.c _ _
          exact ⟨hH, hF, rfl, (by first | assumption | omega)⟩
        · refine l_aload_n rfl rfl ?_
          refine l_iload_n rfl rfl ?_
          refine l_pfi rfl rfl rfl rfl ?_
          obtain ⟨U7, eU7⟩ : ∃ T : sS, T = uI S 904 106 (Int32.ofInt f) := ⟨_, rfl⟩
          rw [← eU7]
          have hHU7 : HI U7 := by rw [eU7]; exact HI_w hH (show 0 ≤ f by omega) (show f ≤ 9 by omega)
          have hFU7 : FR md_mo_note S U7 := by rw [eU7]; exact FR.wI hF (mdf_i (r := (904, 905, 106, 107)) (List.mem_of_getElem? (i := 2) rfl) (inR_i (by omega) (by omega) (by omega) (by omega)))
          have w33 : Xi U7 904 106 = f := by rw [eU7]; exact Xi_same (by unfold rg; omega)
          refine l_aload_n rfl rfl ?_
          refine l_iload_n rfl rfl ?_
          refine l_pfi rfl rfl rfl rfl ?_
          obtain ⟨U8, eU8⟩ : ∃ T : sS, T = uI U7 904 105 (Int32.ofInt (Xi S 908 ((t).toNat))) := ⟨_, rfl⟩
          rw [← eU8]
          have hHU8 : HI U8 := by rw [eU8]; exact HI_w hHU7 (show 0 ≤ (Xi S 908 ((t).toNat)) by omega) (show (Xi S 908 ((t).toNat)) ≤ 5000 by omega)
          have hFU8 : FR md_mo_note S U8 := by rw [eU8]; exact FR.wI hFU7 (mdf_i (r := (904, 905, 105, 106)) (List.mem_of_getElem? (i := 1) rfl) (inR_i (by omega) (by omega) (by omega) (by omega)))
          have w34 : Xi U8 904 105 = (Xi S 908 ((t).toNat)) := by rw [eU8]; exact Xi_same (by unfold rg; omega)
          refine l_aload_n rfl rfl ?_
          refine l_iload_n rfl rfl ?_
          refine l_callS rfl rfl (by decide) rfl (t_mo_rank hHU8 f ⟨by omega, by omega⟩ _) ?_
          rintro _ _ ⟨rfl, z37, rfl, w37⟩
          show Rl _ _ _ _ _ [iv z37, .ref 904] _ _
          refine l_pfi rfl rfl rfl rfl ?_
          obtain ⟨U9, eU9⟩ : ∃ T : sS, T = uI U8 904 104 (Int32.ofInt z37) := ⟨_, rfl⟩
          rw [← eU9]
          have hHU9 : HI U9 := by rw [eU9]; exact HI_w hHU8 (show 0 ≤ z37 by omega) (show z37 ≤ 4 by omega)
          have hFU9 : FR md_mo_note S U9 := by rw [eU9]; exact FR.wI hFU8 (mdf_i (r := (904, 905, 104, 105)) (List.mem_of_getElem? (i := 0) rfl) (inR_i (by omega) (by omega) (by omega) (by omega)))
          have w38 : Xi U9 904 104 = z37 := by rw [eU9]; exact Xi_same (by unfold rg; omega)
          refine l_return rfl rfl ?_
          have w39 : Xi U9 904 106 = Xi U7 904 106 := (show Xi U9 904 106 = Xi U8 904 106 from by rw [eU9]; exact Xi_ne (by omega)).trans ((show Xi U8 904 106 = Xi U7 904 106 from by rw [eU8]; exact Xi_ne (by omega)))
          have w40 : 0 ≤ Xi U7 904 106 ∧ Xi U7 904 106 ≤ 9 := hHU7.c _ _
          exact ⟨hHU9, hFU9, rfl, (by first | assumption | omega)⟩
def md_mo_need : List rec := [(904, 905, 104, 105), (904, 905, 105, 106), (904, 905, 106, 107)]
abbrev Q_mo_need (S : sS) (g : Int) (f : Int) (t : Int) : pst := fun r S1 => HI S1 ∧ FR md_mo_need S S1 ∧ (r = none ∧ (g = 0 → Xi S1 904 106 ≠ 0) ∧ (Xi S 904 106 ≠ 0 → Xi S1 904 106 ≠ 0))
set_option maxRecDepth 100000 in
theorem t_mo_need {S : sS} (hH : HI S) (g : Int) (f : Int) (t : Int) (hg : 0 ≤ g ∧ g ≤ 1) (hf : 1 ≤ f ∧ f ≤ 9) (ht : 0 ≤ t ∧ t ≤ 5001) (d : Nat) : Mt lay0 (d + 3) m_mo_need [.ref 904, iv g, iv f, iv t] S (Q_mo_need S g f t) := by
  refine Mt_R rfl rfl ?_
  have hF : FR md_mo_need S S := FR.rf
  have w1 : 0 ≤ Xi S 904 106 ∧ Xi S 904 106 ≤ 9 := hH.c _ _
  refine l_iload_n rfl rfl ?_
  refine l_if_ne rfl rfl (by unfold rg; omega) (fun w2 => ?_) (fun w3 => ?_)
  · refine l_return rfl rfl ?_
    exact ⟨hH, hF, rfl, (by omega), (by omega)⟩
  · refine l_aload_n rfl rfl ?_
    refine l_iload_n rfl rfl ?_
    refine l_iload_n rfl rfl ?_
    refine l_callV rfl rfl rfl (t_mo_note hH f t ⟨by omega, by omega⟩ ⟨by omega, by omega⟩ _) ?_
    rintro _ T1 ⟨hHT1, w7, rfl, w5⟩
    have hFT1 : FR md_mo_need S T1 := FR.tr hF w7 rfl
    show Rl _ _ _ _ _ [] _ _
    refine l_return rfl rfl ?_
    have w8 : 0 ≤ Xi T1 904 106 ∧ Xi T1 904 106 ≤ 9 := hHT1.c _ _
    exact ⟨hHT1, hFT1, rfl, (by omega), (by omega)⟩
def md_mo_oneReading : List rec := [(904, 905, 104, 105), (904, 905, 105, 106), (904, 905, 106, 107)]
abbrev Q_mo_oneReading (S : sS) (t : Int) : pst := fun r S1 => HI S1 ∧ FR md_mo_oneReading S S1 ∧ (r = none ∧ (Xi S 904 106 ≠ 0 → Xi S1 904 106 ≠ 0))
set_option maxRecDepth 100000 in
theorem t_mo_oneReading {S : sS} (hH : HI S) (t : Int) (ht : 0 ≤ t ∧ t ≤ 5001) (d : Nat) : Mt lay0 (d + 4) m_mo_oneReading [.ref 904, iv t] S (Q_mo_oneReading S t) := by
  refine Mt_R rfl rfl ?_
  have hF : FR md_mo_oneReading S S := FR.rf
  have w1 : 0 ≤ Xi S 904 106 ∧ Xi S 904 106 ≤ 9 := hH.c _ _
  refine l_aload_n rfl rfl ?_
  refine l_aload_n rfl rfl ?_
  refine l_gfi rfl rfl rfl rfl rfl ?_
  have w2 : -2147483648 ≤ (Xi S 904 109) ∧ (Xi S 904 109) ≤ 2147483647 := Xi_rgI
  refine l_if_le rfl rfl (by unfold rg; omega) (fun w3 => ?_) (fun w4 => ?_)
  · refine l_iconst rfl ?_
    refine l_iconst rfl ?_
    refine l_iload_n rfl rfl ?_
    refine l_callV rfl rfl rfl (t_mo_need hH 0 4 t ⟨by omega, by omega⟩ ⟨by omega, by omega⟩ ⟨by omega, by omega⟩ _) ?_
    rintro _ T1 ⟨hHT1, w9, rfl, w6, w7⟩
    have hFT1 : FR md_mo_oneReading S T1 := FR.tr hF w9 rfl
    show Rl _ _ _ _ _ [] _ _
    refine l_aload_n rfl rfl ?_
    refine l_aload_n rfl rfl ?_
    refine l_gfi rfl rfl rfl rfl rfl ?_
    have w10 : (Xi T1 904 109) = (Xi S 904 109) := (show Xi T1 904 109 = Xi S 904 109 from w9.x _ _ rfl)
    rw [w10]
    refine l_iconst rfl ?_
    refine l_icmp_ge rfl rfl (by unfold rg; omega) (by unfold rg; omega) (fun w11 => ?_) (fun w12 => ?_)
    · refine l_iconst rfl ?_
      refine l_bipush rfl rfl ?_
      refine l_iload_n rfl rfl ?_
      have w13 : 0 ≤ Xi T1 904 106 ∧ Xi T1 904 106 ≤ 9 := hHT1.c _ _
      refine l_callV rfl rfl rfl (t_mo_need hHT1 0 7 t ⟨by omega, by omega⟩ ⟨by omega, by omega⟩ ⟨by omega, by omega⟩ _) ?_
      rintro _ T2 ⟨hHT2, w17, rfl, w14, w15⟩
      have hFT2 : FR md_mo_oneReading S T2 := FR.tr hFT1 w17 rfl
      show Rl _ _ _ _ _ [] _ _
      refine l_return rfl rfl ?_
      have w18 : 0 ≤ Xi T2 904 106 ∧ Xi T2 904 106 ≤ 9 := hHT2.c _ _
      exact ⟨hHT2, hFT2, rfl, (by first | assumption | omega)⟩
    · refine l_iconst rfl ?_
      refine l_goto rfl rfl ?_
      refine l_bipush rfl rfl ?_
      refine l_iload_n rfl rfl ?_
      have w19 : 0 ≤ Xi T1 904 106 ∧ Xi T1 904 106 ≤ 9 := hHT1.c _ _
      refine l_callV rfl rfl rfl (t_mo_need hHT1 1 7 t ⟨by omega, by omega⟩ ⟨by omega, by omega⟩ ⟨by omega, by omega⟩ _) ?_
      rintro _ T3 ⟨hHT3, w23, rfl, w20, w21⟩
      have hFT3 : FR md_mo_oneReading S T3 := FR.tr hFT1 w23 rfl
      show Rl _ _ _ _ _ [] _ _
      refine l_return rfl rfl ?_
      have w24 : 0 ≤ Xi T3 904 106 ∧ Xi T3 904 106 ≤ 9 := hHT3.c _ _
      exact ⟨hHT3, hFT3, rfl, (by first | assumption | omega)⟩
  · refine l_iconst rfl ?_
    refine l_goto rfl rfl ?_
    refine l_iconst rfl ?_
    refine l_iload_n rfl rfl ?_
    refine l_callV rfl rfl rfl (t_mo_need hH 1 4 t ⟨by omega, by omega⟩ ⟨by omega, by omega⟩ ⟨by omega, by omega⟩ _) ?_
    rintro _ T4 ⟨hHT4, w29, rfl, w26, w27⟩
    have hFT4 : FR md_mo_oneReading S T4 := FR.tr hF w29 rfl
    show Rl _ _ _ _ _ [] _ _
    refine l_aload_n rfl rfl ?_
    refine l_aload_n rfl rfl ?_
    refine l_gfi rfl rfl rfl rfl rfl ?_
    have w30 : (Xi T4 904 109) = (Xi S 904 109) := (show Xi T4 904 109 = Xi S 904 109 from w29.x _ _ rfl)
    rw [w30]
    refine l_iconst rfl ?_
    refine l_icmp_ge rfl rfl (by unfold rg; omega) (by unfold rg; omega) (fun w31 => ?_) (fun w32 => ?_)
    · refine l_iconst rfl ?_
      refine l_bipush rfl rfl ?_
      refine l_iload_n rfl rfl ?_
      have w33 : 0 ≤ Xi T4 904 106 ∧ Xi T4 904 106 ≤ 9 := hHT4.c _ _
      refine l_callV rfl rfl rfl (t_mo_need hHT4 0 7 t ⟨by omega, by omega⟩ ⟨by omega, by omega⟩ ⟨by omega, by omega⟩ _) ?_
      rintro _ T5 ⟨hHT5, w37, rfl, w34, w35⟩
      have hFT5 : FR md_mo_oneReading S T5 := FR.tr hFT4 w37 rfl
      show Rl _ _ _ _ _ [] _ _
      refine l_return rfl rfl ?_
      have w38 : 0 ≤ Xi T5 904 106 ∧ Xi T5 904 106 ≤ 9 := hHT5.c _ _
      exact ⟨hHT5, hFT5, rfl, (by first | assumption | omega)⟩
    · refine l_iconst rfl ?_
      refine l_goto rfl rfl ?_
      refine l_bipush rfl rfl ?_
      refine l_iload_n rfl rfl ?_
      have w39 : 0 ≤ Xi T4 904 106 ∧ Xi T4 904 106 ≤ 9 := hHT4.c _ _
      refine l_callV rfl rfl rfl (t_mo_need hHT4 1 7 t ⟨by omega, by omega⟩ ⟨by omega, by omega⟩ ⟨by omega, by omega⟩ _) ?_
      rintro _ T6 ⟨hHT6, w43, rfl, w40, w41⟩
      have hFT6 : FR md_mo_oneReading S T6 := FR.tr hFT4 w43 rfl
      show Rl _ _ _ _ _ [] _ _
      refine l_return rfl rfl ?_
      have w44 : 0 ≤ Xi T6 904 106 ∧ Xi T6 904 106 ≤ 9 := hHT6.c _ _
      exact ⟨hHT6, hFT6, rfl, (by first | assumption | omega)⟩
abbrev Q_mo_objectOf (S : sS) (from_ : Int) (to : Int) : pst := fun r S1 => S = S1 ∧ (∃ z : Int, r = some (iv z) ∧ (-9 ≤ z ∧ z ≤ 23) ∧ (z ≠ -9 → 0 ≤ z ∧ z < Xi S 904 19))
set_option maxRecDepth 100000 in
theorem t_mo_objectOf {S : sS} (hH : HI S) (from_ : Int) (to : Int) (hfrom_ : 0 ≤ from_ ∧ from_ ≤ 5001) (hto : 0 ≤ to ∧ to ≤ 5001) (hM : LXM S) (d : Nat) : Mt lay0 (d + 4) m_mo_objectOf [.ref 904, iv from_, iv to] S (Q_mo_objectOf S from_ to) := by
  refine Mt_R rfl rfl ?_
  have w1 : 0 ≤ Xi S 904 19 ∧ Xi S 904 19 ≤ 24 := hH.c _ _
  have hc19 : 0 ≤ Xi S 904 19 ∧ Xi S 904 19 ≤ 24 := hH.c _ _
  have C28 : ∀ (n28 : Nat) (v3 : Int) (v4 : Int), (0 ≤ v3 ∧ v3 ≤ 5001) → (0 ≤ v4 ∧ v4 ≤ 5001) → (from_ ≤ v3 ∧ v3 ≤ from_ + 1) → (v3 ≤ 5001) → n28 = (5002 - v4).toNat → Rl lay0 (d + 3) m_mo_objectOf 28 [(0, .ref 904), (2, iv to), (3, iv v3), (4, iv v4)] [] S (Q_mo_objectOf S from_ to) := by
    intro n28
    induction n28 using Nat.strongRecOn with
    | ind n28 ih28 =>
      intro v3 v4 w2 w3 w4 w5 hm28
      refine l_iload rfl rfl ?_
      refine l_iload_n rfl rfl ?_
      refine l_icmp_ge rfl rfl (by unfold rg; omega) (by unfold rg; omega) (fun w6 => ?_) (fun w7 => ?_)
      · refine l_aload_n rfl rfl ?_
        refine l_iload_n rfl rfl ?_
        refine l_iload_n rfl rfl ?_
        refine l_iload_n rfl rfl ?_
        refine l_isub rfl ?_
        refine l_iconst rfl ?_
        refine l_callV rfl rfl rfl (t_mo_means hH v3 (to - v3) 4 ⟨by omega, by omega⟩ ⟨by omega, by omega⟩ ⟨by omega, by omega⟩ (by first | assumption | omega) (by first | assumption | exact (by assumption : LXM S)) _) ?_
        rintro _ _ ⟨rfl, z9, rfl, w9, w8⟩
        show Rl _ _ _ _ _ [iv z9] _ _
        have x60 : z9 ≠ -1 → z9 < Xi S 904 19 := fun q => by have t := (by assumption : z9 ≠ -1 → z9 < cM S 4) q; rw [cM4] at t; exact t
        refine l_istore rfl rfl rfl ?_
        refine l_iload rfl rfl ?_
        refine l_iconst rfl ?_
        refine l_icmp_ne rfl rfl (by unfold rg; omega) (by unfold rg; omega) (fun w10 => ?_) (fun w11 => ?_)
        · refine l_iload rfl rfl ?_
          refine l_ireturn rfl rfl ?_
          exact ⟨rfl, _, rfl, ⟨by omega, by omega⟩, (by omega)⟩
        · refine l_bipush rfl rfl ?_
          refine l_goto rfl rfl ?_
          refine l_ireturn rfl rfl ?_
          exact ⟨rfl, _, rfl, ⟨by omega, by omega⟩, (by omega)⟩
      · refine l_aload_n rfl rfl ?_
        refine l_gfr rfl rfl rfl rfl rfl (hH.r 904 4 907 rfl) ?_
        refine l_iload rfl rfl ?_
        refine l_iaload (n := 5002) rfl rfl (by omega) (by omega) (by unfold rg; omega) ?_
        have w12 : 0 ≤ (Xi S 907 ((v4).toNat)) ∧ (Xi S 907 ((v4).toNat)) ≤ 154 := hH.c _ _
        refine l_iconst rfl ?_
        refine l_icmp_eq rfl rfl (by unfold rg; omega) (by unfold rg; omega) (fun w13 => ?_) (fun w14 => ?_)
        · refine l_iinc rfl rfl rfl rfl ?_
          refine l_goto rfl rfl ?_
          exact Rl_weak (ih28 _ (by omega) (v3) ((v4 + 1)) (by omega) (by omega) (by omega) (by omega) rfl) (And.intro rfl (And.intro rfl (And.intro rfl (And.intro rfl (True.intro)))))
        · refine l_bipush rfl rfl ?_
          refine l_ireturn rfl rfl ?_
          exact ⟨rfl, _, rfl, ⟨by omega, by omega⟩, (by omega)⟩
  refine l_iload_n rfl rfl ?_
  refine l_iload_n rfl rfl ?_
  refine l_icmp_ge rfl rfl (by unfold rg; omega) (by unfold rg; omega) (fun w15 => ?_) (fun w16 => ?_)
  · refine l_iload_n rfl rfl ?_
    refine l_istore_n rfl rfl rfl ?_
    refine l_iload_n rfl rfl ?_
    refine l_istore rfl rfl rfl ?_
    exact Rl_weak (C28 _ (from_) (from_) (by omega) (by omega) (by omega) (by omega) rfl) (And.intro rfl (And.intro rfl (And.intro rfl (And.intro rfl (True.intro)))))
  · refine l_aload_n rfl rfl ?_
    refine l_gfr rfl rfl rfl rfl rfl (hH.r 904 4 907 rfl) ?_
    refine l_iload_n rfl rfl ?_
    refine l_iaload (n := 5002) rfl rfl (by omega) (by omega) (by unfold rg; omega) ?_
    have w17 : 0 ≤ (Xi S 907 ((from_).toNat)) ∧ (Xi S 907 ((from_).toNat)) ≤ 154 := hH.c _ _
    refine l_callS rfl rfl (by decide) rfl (t_mo_isArt hH (Xi S 907 ((from_).toNat)) ⟨by omega, by omega⟩ _) ?_
    rintro _ _ ⟨rfl, z19, rfl, w19, w18⟩
    show Rl _ _ _ _ _ [iv z19] _ _
    refine l_if_eq rfl rfl (by unfold rg; omega) (fun w20 => ?_) (fun w21 => ?_)
    · refine l_iload_n rfl rfl ?_
      refine l_istore_n rfl rfl rfl ?_
      refine l_iload_n rfl rfl ?_
      refine l_istore rfl rfl rfl ?_
      exact Rl_weak (C28 _ (from_) (from_) (by omega) (by omega) (by omega) (by omega) rfl) (And.intro rfl (And.intro rfl (And.intro rfl (And.intro rfl (True.intro)))))
    · refine l_iload_n rfl rfl ?_
      refine l_iconst rfl ?_
      refine l_iadd rfl ?_
      refine l_goto rfl rfl ?_
      refine l_istore_n rfl rfl rfl ?_
      refine l_iload_n rfl rfl ?_
      refine l_istore rfl rfl rfl ?_
      exact Rl_weak (C28 _ ((from_ + 1)) ((from_ + 1)) (by omega) (by omega) (by omega) (by omega) rfl) (And.intro rfl (And.intro rfl (And.intro rfl (And.intro rfl (True.intro)))))
/-! SAFETY of methods: printed by wip/safe (vc.py, decl.py) -/
def DCM (S : sS) : Prop := ∀ a : Nat, (a : Int) < Xi S 904 23 → Xi S 924 a = 0 → Xi S 922 a ≠ -1
theorem DCM_FR {l : List rec} {S T : sS} (h : FR l S T) (e : (kdis l [(922, 923), (924, 925)] && mD l [23]) = true) (hC : DCM S) : DCM T := by
  rw [Bool.and_eq_true] at e
  have k := h.smk e.1
  unfold DCM
  rw [mD_x h e.2 23 (by decide)]
  simp only [k.x 922 rfl, k.x 924 rfl]
  exact hC
def md_mo_adjective : List rec := [(904, 905, 64, 65), (904, 905, 113, 114)]
/-! SAFETY of methods: printed by wip/safe (vc.py, decl.py) -/
abbrev Q_mo_thingOf (S : sS) (from_ : Int) (to : Int) : pst := fun r S1 => S = S1 ∧ (∃ z : Int, r = some (iv z) ∧ (-9 ≤ z ∧ z ≤ 23) ∧ (z ≠ -9 → z ≠ -1 → z ≠ -2 → 0 ≤ z ∧ z < Xi S 904 19) ∧ (z = -1 → 0 ≤ Xi S 904 115) ∧ (z = -2 → 0 ≤ Xi S 904 116))
set_option maxRecDepth 100000 in
theorem t_mo_thingOf {S : sS} (hH : HI S) (from_ : Int) (to : Int) (hfrom_ : 0 ≤ from_ ∧ from_ ≤ 5001) (hto : 0 ≤ to ∧ to ≤ 5001) (hM : LXM S) (d : Nat) : Mt lay0 (d + 5) m_mo_thingOf [.ref 904, iv from_, iv to] S (Q_mo_thingOf S from_ to) := by
  refine Mt_R rfl rfl ?_
  have w1 : -1 ≤ Xi S 904 115 ∧ Xi S 904 115 ≤ 15 := hH.c _ _
  have w2 : -1 ≤ Xi S 904 116 ∧ Xi S 904 116 ≤ 15 := hH.c _ _
  have w3 : 0 ≤ Xi S 904 19 ∧ Xi S 904 19 ≤ 24 := hH.c _ _
  refine l_iload_n rfl rfl ?_
  refine l_iload_n rfl rfl ?_
  refine l_isub rfl ?_
  refine l_istore_n rfl rfl rfl ?_
  refine l_iload_n rfl rfl ?_
  refine l_iconst rfl ?_
  refine l_icmp_ne rfl rfl (by unfold rg; omega) (by unfold rg; omega) (fun w4 => ?_) (fun w5 => ?_)
  · refine l_iload_n rfl rfl ?_
    refine l_if_le rfl rfl (by unfold rg; omega) (fun w6 => ?_) (fun w7 => ?_)
    · refine l_aload_n rfl rfl ?_
      refine l_iload_n rfl rfl ?_
      refine l_iload_n rfl rfl ?_
      refine l_callV rfl rfl rfl (t_mo_objectOf hH from_ to ⟨by omega, by omega⟩ ⟨by omega, by omega⟩ (by first | assumption | exact (by assumption : LXM S)) _) ?_
      rintro _ _ ⟨rfl, z10, rfl, w10, w9⟩
      show Rl _ _ _ _ _ [iv z10] _ _
      refine l_ireturn rfl rfl ?_
      exact ⟨rfl, _, rfl, ⟨by omega, by omega⟩, (by omega), (by omega), (by omega)⟩
    · refine l_aload_n rfl rfl ?_
      refine l_gfr rfl rfl rfl rfl rfl (hH.r 904 4 907 rfl) ?_
      refine l_iload_n rfl rfl ?_
      refine l_iconst rfl ?_
      refine l_isub rfl ?_
      refine l_iaload (n := 5002) rfl rfl (by omega) (by omega) (by unfold rg; omega) ?_
      have w11 : 0 ≤ (Xi S 907 (((to - 1)).toNat)) ∧ (Xi S 907 (((to - 1)).toNat)) ≤ 154 := hH.c _ _
      refine l_sipush rfl rfl ?_
      refine l_icmp_ne rfl rfl (by unfold rg; omega) (by unfold rg; omega) (fun w12 => ?_) (fun w13 => ?_)
      · refine l_aload_n rfl rfl ?_
        refine l_iload_n rfl rfl ?_
        refine l_iload_n rfl rfl ?_
        refine l_callV rfl rfl rfl (t_mo_objectOf hH from_ to ⟨by omega, by omega⟩ ⟨by omega, by omega⟩ (by first | assumption | exact (by assumption : LXM S)) _) ?_
        rintro _ _ ⟨rfl, z16, rfl, w16, w15⟩
        show Rl _ _ _ _ _ [iv z16] _ _
        refine l_ireturn rfl rfl ?_
        exact ⟨rfl, _, rfl, ⟨by omega, by omega⟩, (by omega), (by omega), (by omega)⟩
      · refine l_aload_n rfl rfl ?_
        refine l_gfi rfl rfl rfl rfl rfl ?_
        refine l_iconst rfl ?_
        refine l_icmp_eq rfl rfl (by unfold rg; omega) (by unfold rg; omega) (fun w17 => ?_) (fun w18 => ?_)
        · refine l_bipush rfl rfl ?_
          refine l_ireturn rfl rfl ?_
          exact ⟨rfl, _, rfl, ⟨by omega, by omega⟩, (by omega), (by omega), (by omega)⟩
        · refine l_iload_n rfl rfl ?_
          refine l_iconst rfl ?_
          refine l_icmp_eq rfl rfl (by unfold rg; omega) (by unfold rg; omega) (fun w19 => ?_) (fun w20 => ?_)
          · refine l_bipush rfl rfl ?_
            refine l_goto rfl rfl ?_
            refine l_ireturn rfl rfl ?_
            exact ⟨rfl, _, rfl, ⟨by omega, by omega⟩, (by omega), (by omega), (by omega)⟩
          · refine l_iload_n rfl rfl ?_
            refine l_iconst rfl ?_
            refine l_icmp_ne rfl rfl (by unfold rg; omega) (by unfold rg; omega) (fun w21 => ?_) (fun w22 => ?_)
            · refine l_bipush rfl rfl ?_
              refine l_ireturn rfl rfl ?_
              exact ⟨rfl, _, rfl, ⟨by omega, by omega⟩, (by omega), (by omega), (by omega)⟩
            · refine l_aload_n rfl rfl ?_
              refine l_gfr rfl rfl rfl rfl rfl (hH.r 904 4 907 rfl) ?_
              refine l_iload_n rfl rfl ?_
              refine l_iaload (n := 5002) rfl rfl (by omega) (by omega) (by unfold rg; omega) ?_
              have w23 : 0 ≤ (Xi S 907 ((from_).toNat)) ∧ (Xi S 907 ((from_).toNat)) ≤ 154 := hH.c _ _
              refine l_bipush rfl rfl ?_
              refine l_icmp_ne rfl rfl (by unfold rg; omega) (by unfold rg; omega) (fun w24 => ?_) (fun w25 => ?_)
              · refine l_bipush rfl rfl ?_
                refine l_ireturn rfl rfl ?_
                exact ⟨rfl, _, rfl, ⟨by omega, by omega⟩, (by omega), (by omega), (by omega)⟩
              · refine l_bipush rfl rfl ?_
                refine l_goto rfl rfl ?_
                refine l_ireturn rfl rfl ?_
                exact ⟨rfl, _, rfl, ⟨by omega, by omega⟩, (by omega), (by omega), (by omega)⟩
  · refine l_aload_n rfl rfl ?_
    refine l_gfr rfl rfl rfl rfl rfl (hH.r 904 4 907 rfl) ?_
    refine l_iload_n rfl rfl ?_
    refine l_iaload (n := 5002) rfl rfl (by omega) (by omega) (by unfold rg; omega) ?_
    have w26 : 0 ≤ (Xi S 907 ((from_).toNat)) ∧ (Xi S 907 ((from_).toNat)) ≤ 154 := hH.c _ _
    refine l_sipush rfl rfl ?_
    refine l_icmp_ne rfl rfl (by unfold rg; omega) (by unfold rg; omega) (fun w27 => ?_) (fun w28 => ?_)
    · refine l_iload_n rfl rfl ?_
      refine l_if_le rfl rfl (by unfold rg; omega) (fun w29 => ?_) (fun w30 => ?_)
      · refine l_aload_n rfl rfl ?_
        refine l_iload_n rfl rfl ?_
        refine l_iload_n rfl rfl ?_
        refine l_callV rfl rfl rfl (t_mo_objectOf hH from_ to ⟨by omega, by omega⟩ ⟨by omega, by omega⟩ (by first | assumption | exact (by assumption : LXM S)) _) ?_
        rintro _ _ ⟨rfl, z33, rfl, w33, w32⟩
        show Rl _ _ _ _ _ [iv z33] _ _
        refine l_ireturn rfl rfl ?_
        exact ⟨rfl, _, rfl, ⟨by omega, by omega⟩, (by omega), (by omega), (by omega)⟩
      · refine l_aload_n rfl rfl ?_
        refine l_gfr rfl rfl rfl rfl rfl (hH.r 904 4 907 rfl) ?_
        refine l_iload_n rfl rfl ?_
        refine l_iconst rfl ?_
        refine l_isub rfl ?_
        refine l_iaload (n := 5002) rfl rfl (by omega) (by omega) (by unfold rg; omega) ?_
        have w34 : 0 ≤ (Xi S 907 (((to - 1)).toNat)) ∧ (Xi S 907 (((to - 1)).toNat)) ≤ 154 := hH.c _ _
        refine l_sipush rfl rfl ?_
        refine l_icmp_ne rfl rfl (by unfold rg; omega) (by unfold rg; omega) (fun w35 => ?_) (fun w36 => ?_)
        · refine l_aload_n rfl rfl ?_
          refine l_iload_n rfl rfl ?_
          refine l_iload_n rfl rfl ?_
          refine l_callV rfl rfl rfl (t_mo_objectOf hH from_ to ⟨by omega, by omega⟩ ⟨by omega, by omega⟩ (by first | assumption | exact (by assumption : LXM S)) _) ?_
          rintro _ _ ⟨rfl, z39, rfl, w39, w38⟩
          show Rl _ _ _ _ _ [iv z39] _ _
          refine l_ireturn rfl rfl ?_
          exact ⟨rfl, _, rfl, ⟨by omega, by omega⟩, (by omega), (by omega), (by omega)⟩
        · refine l_aload_n rfl rfl ?_
          refine l_gfi rfl rfl rfl rfl rfl ?_
          refine l_iconst rfl ?_
          refine l_icmp_eq rfl rfl (by unfold rg; omega) (by unfold rg; omega) (fun w40 => ?_) (fun w41 => ?_)
          · refine l_bipush rfl rfl ?_
            refine l_ireturn rfl rfl ?_
            exact ⟨rfl, _, rfl, ⟨by omega, by omega⟩, (by omega), (by omega), (by omega)⟩
          · refine l_iload_n rfl rfl ?_
            refine l_iconst rfl ?_
            refine l_icmp_eq rfl rfl (by unfold rg; omega) (by unfold rg; omega) (fun w42 => ?_) (fun w43 => ?_)
            · refine l_bipush rfl rfl ?_
              refine l_goto rfl rfl ?_
              refine l_ireturn rfl rfl ?_
              exact ⟨rfl, _, rfl, ⟨by omega, by omega⟩, (by omega), (by omega), (by omega)⟩
            · refine l_iload_n rfl rfl ?_
              refine l_iconst rfl ?_
              refine l_icmp_ne rfl rfl (by unfold rg; omega) (by unfold rg; omega) (fun w44 => ?_) (fun w45 => ?_)
              · refine l_bipush rfl rfl ?_
                refine l_ireturn rfl rfl ?_
                exact ⟨rfl, _, rfl, ⟨by omega, by omega⟩, (by omega), (by omega), (by omega)⟩
              · refine l_aload_n rfl rfl ?_
                refine l_gfr rfl rfl rfl rfl rfl (hH.r 904 4 907 rfl) ?_
                refine l_iload_n rfl rfl ?_
                refine l_iaload (n := 5002) rfl rfl (by omega) (by omega) (by unfold rg; omega) ?_
                refine l_bipush rfl rfl ?_
                refine l_icmp_ne rfl rfl (by unfold rg; omega) (by unfold rg; omega) (fun w46 => ?_) (fun w47 => ?_)
                · refine l_bipush rfl rfl ?_
                  refine l_ireturn rfl rfl ?_
                  exact ⟨rfl, _, rfl, ⟨by omega, by omega⟩, (by omega), (by omega), (by omega)⟩
                · refine l_bipush rfl rfl ?_
                  refine l_goto rfl rfl ?_
                  refine l_ireturn rfl rfl ?_
                  exact ⟨rfl, _, rfl, ⟨by omega, by omega⟩, (by omega), (by omega), (by omega)⟩
    · refine l_aload_n rfl rfl ?_
      refine l_gfi rfl rfl rfl rfl rfl ?_
      refine l_iconst rfl ?_
      refine l_icmp_ne rfl rfl (by unfold rg; omega) (by unfold rg; omega) (fun w48 => ?_) (fun w49 => ?_)
      · refine l_iconst rfl ?_
        refine l_ireturn rfl rfl ?_
        exact ⟨rfl, _, rfl, ⟨by omega, by omega⟩, (by omega), (by omega), (by omega)⟩
      · refine l_bipush rfl rfl ?_
        refine l_goto rfl rfl ?_
        refine l_ireturn rfl rfl ?_
        exact ⟨rfl, _, rfl, ⟨by omega, by omega⟩, (by omega), (by omega), (by omega)⟩
abbrev Q_mo_fits (S : sS) (th : Int) (kind : Int) : pst := fun r S1 => S = S1 ∧ (∃ z : Int, r = some (iv z) ∧ (0 ≤ z ∧ z ≤ 1) ∧ (z = 1 → th ≠ -9))
set_option maxRecDepth 100000 in
theorem t_mo_fits {S : sS} (hH : HI S) (th : Int) (kind : Int) (hth : -9 ≤ th ∧ th ≤ 23) (hkind : 0 ≤ kind ∧ kind ≤ 15) (hB : ABV S) (ht : th ≠ -9 → -2 ≤ th) (d : Nat) : Mt lay0 (d + 2) m_mo_fits [.ref 904, iv th, iv kind] S (Q_mo_fits S th kind) := by
  refine Mt_R rfl rfl ?_
  refine l_iload_n rfl rfl ?_
  refine l_bipush rfl rfl ?_
  refine l_icmp_eq rfl rfl (by unfold rg; omega) (by unfold rg; omega) (fun w1 => ?_) (fun w2 => ?_)
  · refine l_iconst rfl ?_
    refine l_ireturn rfl rfl ?_
    exact ⟨rfl, _, rfl, ⟨by omega, by omega⟩, (by first | assumption | omega)⟩
  · refine l_aload_n rfl rfl ?_
    refine l_aload_n rfl rfl ?_
    refine l_iload_n rfl rfl ?_
    refine l_callV rfl rfl rfl (t_mo_kindOfThing hH th ⟨by omega, by omega⟩ (by first | assumption | omega) _) ?_
    rintro _ _ ⟨rfl, z3, rfl, w3⟩
    show Rl _ _ _ _ _ [iv z3, .ref 904] _ _
    refine l_iload_n rfl rfl ?_
    refine l_callV rfl rfl rfl (t_mo_isBelow hH z3 kind ⟨by omega, by omega⟩ ⟨by omega, by omega⟩ (by first | assumption | exact (by assumption : ABV S)) _) ?_
    rintro _ _ ⟨rfl, z5, rfl, w5, w4⟩
    show Rl _ _ _ _ _ [iv z5] _ _
    refine l_if_eq rfl rfl (by unfold rg; omega) (fun w6 => ?_) (fun w7 => ?_)
    · refine l_iconst rfl ?_
      refine l_ireturn rfl rfl ?_
      exact ⟨rfl, _, rfl, ⟨by omega, by omega⟩, (by first | assumption | omega)⟩
    · refine l_iconst rfl ?_
      refine l_goto rfl rfl ?_
      refine l_ireturn rfl rfl ?_
      exact ⟨rfl, _, rfl, ⟨by omega, by omega⟩, (by first | assumption | omega)⟩
/-! SAFETY of methods: printed by wip/safe (vc.py, decl.py) -/
def md_mo_meant : List rec := [(904, 905, 104, 105), (904, 905, 105, 106), (904, 905, 106, 107)]
abbrev Q_mo_meant (S : sS) (n : Nat) (td : Int) (rn : Int) : pst := fun r S1 => HI S1 ∧ FR md_mo_meant S S1 ∧ (∃ z : Int, r = some (iv z) ∧ (-9 ≤ z ∧ z ≤ 23) ∧ (z ≠ -9 → z ≠ -1 → z ≠ -2 → 0 ≤ z ∧ z < Xi S 904 19) ∧ (z = -1 → 0 ≤ Xi S1 904 115) ∧ (z = -2 → 0 ≤ Xi S1 904 116) ∧ (z = -9 → Xi S1 904 106 ≠ 0) ∧ (Xi S 904 106 ≠ 0 → Xi S1 904 106 ≠ 0))
set_option maxRecDepth 100000 in
theorem t_mo_meant {S : sS} (hH : HI S) (n : Nat) (td : Int) (rn : Int) (htd : 0 ≤ td ∧ td ≤ 25010) (hrn : -1 ≤ rn ∧ rn ≤ 2600) (hT : TK S n) (hv : RNV S n) (hrr : 20000 ≤ td → 0 ≤ rn ∧ rn < Xi S 904 69) (ht : td % 10000 ≤ 5001) (hM : LXM S) (d : Nat) : Mt lay0 (d + 5) m_mo_meant [.ref 904, iv td, iv rn] S (Q_mo_meant S n td rn) := by
  refine Mt_R rfl rfl ?_
  have hF : FR md_mo_meant S S := FR.rf
  have w1 : 0 ≤ Xi S 904 106 ∧ Xi S 904 106 ≤ 9 := hH.c _ _
  have w2 : 0 ≤ Xi S 904 19 ∧ Xi S 904 19 ≤ 24 := hH.c _ _
  have w3 : 0 ≤ Xi S 904 69 ∧ Xi S 904 69 ≤ 2600 := hH.c _ _
  have hc69 : 0 ≤ Xi S 904 69 ∧ Xi S 904 69 ≤ 2600 := hH.c _ _
  have hc19 : 0 ≤ Xi S 904 19 ∧ Xi S 904 19 ≤ 24 := hH.c _ _
  refine l_iload_n rfl rfl ?_
  refine l_sipush rfl rfl ?_
  refine l_idivP rfl (by omega) (by omega) (by unfold rg; omega) (by unfold rg; omega) ?_
  refine l_istore_n rfl rfl rfl ?_
  refine l_iload_n rfl rfl ?_
  refine l_sipush rfl rfl ?_
  refine l_iremP rfl (by omega) (by omega) (by unfold rg; omega) (by unfold rg; omega) ?_
  refine l_istore rfl rfl rfl ?_
  refine l_iload_n rfl rfl ?_
  refine l_if_ne rfl rfl (by unfold rg; omega) (fun w6 => ?_) (fun w7 => ?_)
  · refine l_iload_n rfl rfl ?_
    refine l_iconst rfl ?_
    refine l_icmp_ne rfl rfl (by unfold rg; omega) (by unfold rg; omega) (fun w8 => ?_) (fun w9 => ?_)
    · refine l_aload_n rfl rfl ?_
      refine l_iload_n rfl rfl ?_
      refine l_iconst rfl ?_
      refine l_callV rfl rfl rfl (t_mo_meansRun hH n rn 4 ⟨by omega, by omega⟩ ⟨by omega, by omega⟩ (by first | assumption | exact (TK_FR hF rfl (by assumption : TK S _))) (by first | assumption | exact (RNV_FR hF rfl (by assumption : RNV S _))) (by first | assumption | omega) (by first | assumption | exact (LXM_FR hF rfl (by assumption : LXM S))) _) ?_
      rintro _ _ ⟨rfl, z15, rfl, w15, w14⟩
      show Rl _ _ _ _ _ [iv z15] _ _
      have x60 : z15 ≠ -1 → z15 < Xi S 904 19 := fun q => by have t := (by assumption : z15 ≠ -1 → z15 < cM S 4) q; rw [cM4] at t; exact t
      refine l_istore rfl rfl rfl ?_
      refine l_iload_n rfl rfl ?_
      refine l_iconst rfl ?_
      refine l_icmp_ne rfl rfl (by unfold rg; omega) (by unfold rg; omega) (fun w16 => ?_) (fun w17 => ?_)
      · refine l_iload rfl rfl ?_
        refine l_istore rfl rfl rfl ?_
        refine l_aload_n rfl rfl ?_
        refine l_iload rfl rfl ?_
        refine l_bipush rfl rfl ?_
        refine l_icmp_eq rfl rfl (by unfold rg; omega) (by unfold rg; omega) (fun w18 => ?_) (fun w19 => ?_)
        · refine l_iconst rfl ?_
          refine l_iconst rfl ?_
          refine l_iload rfl rfl ?_
          refine l_callV rfl rfl rfl (t_mo_need hH 0 4 (td % 10000) ⟨by omega, by omega⟩ ⟨by omega, by omega⟩ ⟨by omega, by omega⟩ _) ?_
          rintro _ T1 ⟨hHT1, w27, rfl, w24, w25⟩
          have hFT1 : FR md_mo_meant S T1 := FR.tr hF w27 rfl
          show Rl _ _ _ _ _ [] _ _
          refine l_iload rfl rfl ?_
          refine l_ireturn rfl rfl ?_
          have w28 : 0 ≤ Xi T1 904 106 ∧ Xi T1 904 106 ≤ 9 := hHT1.c _ _
          have w29 : Xi T1 904 115 = Xi S 904 115 := (show Xi T1 904 115 = Xi S 904 115 from w27.x _ _ rfl)
          have w30 : -1 ≤ Xi S 904 115 ∧ Xi S 904 115 ≤ 15 := hH.c _ _
          have w31 : Xi T1 904 116 = Xi S 904 116 := (show Xi T1 904 116 = Xi S 904 116 from w27.x _ _ rfl)
          have w32 : -1 ≤ Xi S 904 116 ∧ Xi S 904 116 ≤ 15 := hH.c _ _
          have w33 : Xi T1 904 19 = Xi S 904 19 := (show Xi T1 904 19 = Xi S 904 19 from w27.x _ _ rfl)
          exact ⟨hHT1, hFT1, _, rfl, ⟨by omega, by omega⟩, (by omega), (by omega), (by omega), (by omega), (by omega)⟩
        · refine l_iconst rfl ?_
          refine l_goto rfl rfl ?_
          refine l_iconst rfl ?_
          refine l_iload rfl rfl ?_
          refine l_callV rfl rfl rfl (t_mo_need hH 1 4 (td % 10000) ⟨by omega, by omega⟩ ⟨by omega, by omega⟩ ⟨by omega, by omega⟩ _) ?_
          rintro _ T2 ⟨hHT2, w42, rfl, w39, w40⟩
          have hFT2 : FR md_mo_meant S T2 := FR.tr hF w42 rfl
          show Rl _ _ _ _ _ [] _ _
          refine l_iload rfl rfl ?_
          refine l_ireturn rfl rfl ?_
          have w43 : 0 ≤ Xi T2 904 106 ∧ Xi T2 904 106 ≤ 9 := hHT2.c _ _
          have w44 : Xi T2 904 115 = Xi S 904 115 := (show Xi T2 904 115 = Xi S 904 115 from w42.x _ _ rfl)
          have w45 : -1 ≤ Xi S 904 115 ∧ Xi S 904 115 ≤ 15 := hH.c _ _
          have w46 : Xi T2 904 116 = Xi S 904 116 := (show Xi T2 904 116 = Xi S 904 116 from w42.x _ _ rfl)
          have w47 : -1 ≤ Xi S 904 116 ∧ Xi S 904 116 ≤ 15 := hH.c _ _
          have w48 : Xi T2 904 19 = Xi S 904 19 := (show Xi T2 904 19 = Xi S 904 19 from w42.x _ _ rfl)
          exact ⟨hHT2, hFT2, _, rfl, ⟨by omega, by omega⟩, (by omega), (by omega), (by omega), (by omega), (by omega)⟩
      · refine l_iload rfl rfl ?_
        refine l_iconst rfl ?_
        refine l_icmp_ne rfl rfl (by unfold rg; omega) (by unfold rg; omega) (fun w50 => ?_) (fun w51 => ?_)
        · refine l_iload rfl rfl ?_
          refine l_istore rfl rfl rfl ?_
          refine l_aload_n rfl rfl ?_
          refine l_iload rfl rfl ?_
          refine l_bipush rfl rfl ?_
          refine l_icmp_eq rfl rfl (by unfold rg; omega) (by unfold rg; omega) (fun w52 => ?_) (fun w53 => ?_)
          · refine l_iconst rfl ?_
            refine l_iconst rfl ?_
            refine l_iload rfl rfl ?_
            refine l_callV rfl rfl rfl (t_mo_need hH 0 4 (td % 10000) ⟨by omega, by omega⟩ ⟨by omega, by omega⟩ ⟨by omega, by omega⟩ _) ?_
            rintro _ T3 ⟨hHT3, w61, rfl, w58, w59⟩
            have hFT3 : FR md_mo_meant S T3 := FR.tr hF w61 rfl
            show Rl _ _ _ _ _ [] _ _
            refine l_iload rfl rfl ?_
            refine l_ireturn rfl rfl ?_
            have w62 : 0 ≤ Xi T3 904 106 ∧ Xi T3 904 106 ≤ 9 := hHT3.c _ _
            have w63 : Xi T3 904 115 = Xi S 904 115 := (show Xi T3 904 115 = Xi S 904 115 from w61.x _ _ rfl)
            have w64 : -1 ≤ Xi S 904 115 ∧ Xi S 904 115 ≤ 15 := hH.c _ _
            have w65 : Xi T3 904 116 = Xi S 904 116 := (show Xi T3 904 116 = Xi S 904 116 from w61.x _ _ rfl)
            have w66 : -1 ≤ Xi S 904 116 ∧ Xi S 904 116 ≤ 15 := hH.c _ _
            have w67 : Xi T3 904 19 = Xi S 904 19 := (show Xi T3 904 19 = Xi S 904 19 from w61.x _ _ rfl)
            exact ⟨hHT3, hFT3, _, rfl, ⟨by omega, by omega⟩, (by omega), (by omega), (by omega), (by omega), (by omega)⟩
          · refine l_iconst rfl ?_
            refine l_goto rfl rfl ?_
            refine l_iconst rfl ?_
            refine l_iload rfl rfl ?_
            refine l_callV rfl rfl rfl (t_mo_need hH 1 4 (td % 10000) ⟨by omega, by omega⟩ ⟨by omega, by omega⟩ ⟨by omega, by omega⟩ _) ?_
            rintro _ T4 ⟨hHT4, w76, rfl, w73, w74⟩
            have hFT4 : FR md_mo_meant S T4 := FR.tr hF w76 rfl
            show Rl _ _ _ _ _ [] _ _
            refine l_iload rfl rfl ?_
            refine l_ireturn rfl rfl ?_
            have w77 : 0 ≤ Xi T4 904 106 ∧ Xi T4 904 106 ≤ 9 := hHT4.c _ _
            have w78 : Xi T4 904 115 = Xi S 904 115 := (show Xi T4 904 115 = Xi S 904 115 from w76.x _ _ rfl)
            have w79 : -1 ≤ Xi S 904 115 ∧ Xi S 904 115 ≤ 15 := hH.c _ _
            have w80 : Xi T4 904 116 = Xi S 904 116 := (show Xi T4 904 116 = Xi S 904 116 from w76.x _ _ rfl)
            have w81 : -1 ≤ Xi S 904 116 ∧ Xi S 904 116 ≤ 15 := hH.c _ _
            have w82 : Xi T4 904 19 = Xi S 904 19 := (show Xi T4 904 19 = Xi S 904 19 from w76.x _ _ rfl)
            exact ⟨hHT4, hFT4, _, rfl, ⟨by omega, by omega⟩, (by omega), (by omega), (by omega), (by omega), (by omega)⟩
        · refine l_bipush rfl rfl ?_
          refine l_goto rfl rfl ?_
          refine l_istore rfl rfl rfl ?_
          refine l_aload_n rfl rfl ?_
          refine l_iload rfl rfl ?_
          refine l_bipush rfl rfl ?_
          refine l_icmp_eq rfl rfl (by unfold rg; omega) (by unfold rg; omega) (fun w84 => ?_) (fun w85 => absurd w85 (by omega))
          · refine l_iconst rfl ?_
            refine l_iconst rfl ?_
            refine l_iload rfl rfl ?_
            refine l_callV rfl rfl rfl (t_mo_need hH 0 4 (td % 10000) ⟨by omega, by omega⟩ ⟨by omega, by omega⟩ ⟨by omega, by omega⟩ _) ?_
            rintro _ T5 ⟨hHT5, w93, rfl, w90, w91⟩
            have hFT5 : FR md_mo_meant S T5 := FR.tr hF w93 rfl
            show Rl _ _ _ _ _ [] _ _
            refine l_iload rfl rfl ?_
            refine l_ireturn rfl rfl ?_
            have w94 : 0 ≤ Xi T5 904 106 ∧ Xi T5 904 106 ≤ 9 := hHT5.c _ _
            have w95 : Xi T5 904 115 = Xi S 904 115 := (show Xi T5 904 115 = Xi S 904 115 from w93.x _ _ rfl)
            have w96 : -1 ≤ Xi S 904 115 ∧ Xi S 904 115 ≤ 15 := hH.c _ _
            have w97 : Xi T5 904 116 = Xi S 904 116 := (show Xi T5 904 116 = Xi S 904 116 from w93.x _ _ rfl)
            have w98 : -1 ≤ Xi S 904 116 ∧ Xi S 904 116 ≤ 15 := hH.c _ _
            have w99 : Xi T5 904 19 = Xi S 904 19 := (show Xi T5 904 19 = Xi S 904 19 from w93.x _ _ rfl)
            exact ⟨hHT5, hFT5, _, rfl, ⟨by omega, by omega⟩, (by omega), (by omega), (by omega), (by omega), (by omega)⟩
    · refine l_aload_n rfl rfl ?_
      refine l_gfi rfl rfl rfl rfl rfl ?_
      have w101 : -1 ≤ (Xi S 904 116) ∧ (Xi S 904 116) ≤ 15 := hH.c _ _
      refine l_iconst rfl ?_
      refine l_icmp_ne rfl rfl (by unfold rg; omega) (by unfold rg; omega) (fun w102 => ?_) (fun w103 => ?_)
      · refine l_bipush rfl rfl ?_
        refine l_goto rfl rfl ?_
        refine l_istore rfl rfl rfl ?_
        refine l_iload_n rfl rfl ?_
        refine l_iconst rfl ?_
        refine l_icmp_ne rfl rfl (by unfold rg; omega) (by unfold rg; omega) (fun w104 => ?_) (fun w105 => ?_)
        · refine l_iload rfl rfl ?_
          refine l_istore rfl rfl rfl ?_
          refine l_aload_n rfl rfl ?_
          refine l_iload rfl rfl ?_
          refine l_bipush rfl rfl ?_
          refine l_icmp_eq rfl rfl (by unfold rg; omega) (by unfold rg; omega) (fun w106 => absurd w106 (by omega)) (fun w107 => ?_)
          · refine l_iconst rfl ?_
            refine l_goto rfl rfl ?_
            refine l_iconst rfl ?_
            refine l_iload rfl rfl ?_
            refine l_callV rfl rfl rfl (t_mo_need hH 1 4 (td % 10000) ⟨by omega, by omega⟩ ⟨by omega, by omega⟩ ⟨by omega, by omega⟩ _) ?_
            rintro _ T6 ⟨hHT6, w115, rfl, w112, w113⟩
            have hFT6 : FR md_mo_meant S T6 := FR.tr hF w115 rfl
            show Rl _ _ _ _ _ [] _ _
            refine l_iload rfl rfl ?_
            refine l_ireturn rfl rfl ?_
            have w116 : 0 ≤ Xi T6 904 106 ∧ Xi T6 904 106 ≤ 9 := hHT6.c _ _
            have w117 : Xi T6 904 115 = Xi S 904 115 := (show Xi T6 904 115 = Xi S 904 115 from w115.x _ _ rfl)
            have w118 : -1 ≤ Xi S 904 115 ∧ Xi S 904 115 ≤ 15 := hH.c _ _
            have w119 : Xi T6 904 116 = Xi S 904 116 := (show Xi T6 904 116 = Xi S 904 116 from w115.x _ _ rfl)
            have w120 : -1 ≤ Xi S 904 116 ∧ Xi S 904 116 ≤ 15 := hH.c _ _
            have w121 : Xi T6 904 19 = Xi S 904 19 := (show Xi T6 904 19 = Xi S 904 19 from w115.x _ _ rfl)
            exact ⟨hHT6, hFT6, _, rfl, ⟨by omega, by omega⟩, (by omega), (by omega), (by omega), (by omega), (by omega)⟩
        · refine l_iload rfl rfl ?_
          refine l_iconst rfl ?_
          refine l_icmp_ne rfl rfl (by unfold rg; omega) (by unfold rg; omega) (fun w123 => ?_) (fun w124 => absurd w124 (by omega))
          · refine l_iload rfl rfl ?_
            refine l_istore rfl rfl rfl ?_
            refine l_aload_n rfl rfl ?_
            refine l_iload rfl rfl ?_
            refine l_bipush rfl rfl ?_
            refine l_icmp_eq rfl rfl (by unfold rg; omega) (by unfold rg; omega) (fun w125 => absurd w125 (by omega)) (fun w126 => ?_)
            · refine l_iconst rfl ?_
              refine l_goto rfl rfl ?_
              refine l_iconst rfl ?_
              refine l_iload rfl rfl ?_
              refine l_callV rfl rfl rfl (t_mo_need hH 1 4 (td % 10000) ⟨by omega, by omega⟩ ⟨by omega, by omega⟩ ⟨by omega, by omega⟩ _) ?_
              rintro _ T7 ⟨hHT7, w134, rfl, w131, w132⟩
              have hFT7 : FR md_mo_meant S T7 := FR.tr hF w134 rfl
              show Rl _ _ _ _ _ [] _ _
              refine l_iload rfl rfl ?_
              refine l_ireturn rfl rfl ?_
              have w135 : 0 ≤ Xi T7 904 106 ∧ Xi T7 904 106 ≤ 9 := hHT7.c _ _
              have w136 : Xi T7 904 115 = Xi S 904 115 := (show Xi T7 904 115 = Xi S 904 115 from w134.x _ _ rfl)
              have w137 : -1 ≤ Xi S 904 115 ∧ Xi S 904 115 ≤ 15 := hH.c _ _
              have w138 : Xi T7 904 116 = Xi S 904 116 := (show Xi T7 904 116 = Xi S 904 116 from w134.x _ _ rfl)
              have w139 : -1 ≤ Xi S 904 116 ∧ Xi S 904 116 ≤ 15 := hH.c _ _
              have w140 : Xi T7 904 19 = Xi S 904 19 := (show Xi T7 904 19 = Xi S 904 19 from w134.x _ _ rfl)
              exact ⟨hHT7, hFT7, _, rfl, ⟨by omega, by omega⟩, (by omega), (by omega), (by omega), (by omega), (by omega)⟩
      · refine l_bipush rfl rfl ?_
        refine l_goto rfl rfl ?_
        refine l_istore rfl rfl rfl ?_
        refine l_iload_n rfl rfl ?_
        refine l_iconst rfl ?_
        refine l_icmp_ne rfl rfl (by unfold rg; omega) (by unfold rg; omega) (fun w142 => ?_) (fun w143 => ?_)
        · refine l_iload rfl rfl ?_
          refine l_istore rfl rfl rfl ?_
          refine l_aload_n rfl rfl ?_
          refine l_iload rfl rfl ?_
          refine l_bipush rfl rfl ?_
          refine l_icmp_eq rfl rfl (by unfold rg; omega) (by unfold rg; omega) (fun w144 => ?_) (fun w145 => absurd w145 (by omega))
          · refine l_iconst rfl ?_
            refine l_iconst rfl ?_
            refine l_iload rfl rfl ?_
            refine l_callV rfl rfl rfl (t_mo_need hH 0 4 (td % 10000) ⟨by omega, by omega⟩ ⟨by omega, by omega⟩ ⟨by omega, by omega⟩ _) ?_
            rintro _ T8 ⟨hHT8, w153, rfl, w150, w151⟩
            have hFT8 : FR md_mo_meant S T8 := FR.tr hF w153 rfl
            show Rl _ _ _ _ _ [] _ _
            refine l_iload rfl rfl ?_
            refine l_ireturn rfl rfl ?_
            have w154 : 0 ≤ Xi T8 904 106 ∧ Xi T8 904 106 ≤ 9 := hHT8.c _ _
            have w155 : Xi T8 904 115 = Xi S 904 115 := (show Xi T8 904 115 = Xi S 904 115 from w153.x _ _ rfl)
            have w156 : -1 ≤ Xi S 904 115 ∧ Xi S 904 115 ≤ 15 := hH.c _ _
            have w157 : Xi T8 904 116 = Xi S 904 116 := (show Xi T8 904 116 = Xi S 904 116 from w153.x _ _ rfl)
            have w158 : -1 ≤ Xi S 904 116 ∧ Xi S 904 116 ≤ 15 := hH.c _ _
            have w159 : Xi T8 904 19 = Xi S 904 19 := (show Xi T8 904 19 = Xi S 904 19 from w153.x _ _ rfl)
            exact ⟨hHT8, hFT8, _, rfl, ⟨by omega, by omega⟩, (by omega), (by omega), (by omega), (by omega), (by omega)⟩
        · refine l_iload rfl rfl ?_
          refine l_iconst rfl ?_
          refine l_icmp_ne rfl rfl (by unfold rg; omega) (by unfold rg; omega) (fun w161 => ?_) (fun w162 => absurd w162 (by omega))
          · refine l_iload rfl rfl ?_
            refine l_istore rfl rfl rfl ?_
            refine l_aload_n rfl rfl ?_
            refine l_iload rfl rfl ?_
            refine l_bipush rfl rfl ?_
            refine l_icmp_eq rfl rfl (by unfold rg; omega) (by unfold rg; omega) (fun w163 => ?_) (fun w164 => absurd w164 (by omega))
            · refine l_iconst rfl ?_
              refine l_iconst rfl ?_
              refine l_iload rfl rfl ?_
              refine l_callV rfl rfl rfl (t_mo_need hH 0 4 (td % 10000) ⟨by omega, by omega⟩ ⟨by omega, by omega⟩ ⟨by omega, by omega⟩ _) ?_
              rintro _ T9 ⟨hHT9, w172, rfl, w169, w170⟩
              have hFT9 : FR md_mo_meant S T9 := FR.tr hF w172 rfl
              show Rl _ _ _ _ _ [] _ _
              refine l_iload rfl rfl ?_
              refine l_ireturn rfl rfl ?_
              have w173 : 0 ≤ Xi T9 904 106 ∧ Xi T9 904 106 ≤ 9 := hHT9.c _ _
              have w174 : Xi T9 904 115 = Xi S 904 115 := (show Xi T9 904 115 = Xi S 904 115 from w172.x _ _ rfl)
              have w175 : -1 ≤ Xi S 904 115 ∧ Xi S 904 115 ≤ 15 := hH.c _ _
              have w176 : Xi T9 904 116 = Xi S 904 116 := (show Xi T9 904 116 = Xi S 904 116 from w172.x _ _ rfl)
              have w177 : -1 ≤ Xi S 904 116 ∧ Xi S 904 116 ≤ 15 := hH.c _ _
              have w178 : Xi T9 904 19 = Xi S 904 19 := (show Xi T9 904 19 = Xi S 904 19 from w172.x _ _ rfl)
              exact ⟨hHT9, hFT9, _, rfl, ⟨by omega, by omega⟩, (by omega), (by omega), (by omega), (by omega), (by omega)⟩
  · refine l_aload_n rfl rfl ?_
    refine l_gfi rfl rfl rfl rfl rfl ?_
    have w180 : -1 ≤ (Xi S 904 115) ∧ (Xi S 904 115) ≤ 15 := hH.c _ _
    refine l_iconst rfl ?_
    refine l_icmp_ne rfl rfl (by unfold rg; omega) (by unfold rg; omega) (fun w181 => ?_) (fun w182 => ?_)
    · refine l_iconst rfl ?_
      refine l_goto rfl rfl ?_
      refine l_istore rfl rfl rfl ?_
      refine l_iload_n rfl rfl ?_
      refine l_iconst rfl ?_
      refine l_icmp_ne rfl rfl (by unfold rg; omega) (by unfold rg; omega) (fun w183 => ?_) (fun w184 => ?_)
      · refine l_iload rfl rfl ?_
        refine l_istore rfl rfl rfl ?_
        refine l_aload_n rfl rfl ?_
        refine l_iload rfl rfl ?_
        refine l_bipush rfl rfl ?_
        refine l_icmp_eq rfl rfl (by unfold rg; omega) (by unfold rg; omega) (fun w185 => absurd w185 (by omega)) (fun w186 => ?_)
        · refine l_iconst rfl ?_
          refine l_goto rfl rfl ?_
          refine l_iconst rfl ?_
          refine l_iload rfl rfl ?_
          refine l_callV rfl rfl rfl (t_mo_need hH 1 4 (td % 10000) ⟨by omega, by omega⟩ ⟨by omega, by omega⟩ ⟨by omega, by omega⟩ _) ?_
          rintro _ T10 ⟨hHT10, w194, rfl, w191, w192⟩
          have hFT10 : FR md_mo_meant S T10 := FR.tr hF w194 rfl
          show Rl _ _ _ _ _ [] _ _
          refine l_iload rfl rfl ?_
          refine l_ireturn rfl rfl ?_
          have w195 : 0 ≤ Xi T10 904 106 ∧ Xi T10 904 106 ≤ 9 := hHT10.c _ _
          have w196 : Xi T10 904 115 = Xi S 904 115 := (show Xi T10 904 115 = Xi S 904 115 from w194.x _ _ rfl)
          have w197 : -1 ≤ Xi S 904 115 ∧ Xi S 904 115 ≤ 15 := hH.c _ _
          have w198 : Xi T10 904 116 = Xi S 904 116 := (show Xi T10 904 116 = Xi S 904 116 from w194.x _ _ rfl)
          have w199 : -1 ≤ Xi S 904 116 ∧ Xi S 904 116 ≤ 15 := hH.c _ _
          have w200 : Xi T10 904 19 = Xi S 904 19 := (show Xi T10 904 19 = Xi S 904 19 from w194.x _ _ rfl)
          exact ⟨hHT10, hFT10, _, rfl, ⟨by omega, by omega⟩, (by omega), (by omega), (by omega), (by omega), (by omega)⟩
      · refine l_iload rfl rfl ?_
        refine l_iconst rfl ?_
        refine l_icmp_ne rfl rfl (by unfold rg; omega) (by unfold rg; omega) (fun w202 => absurd w202 (by omega)) (fun w203 => ?_)
        · refine l_bipush rfl rfl ?_
          refine l_goto rfl rfl ?_
          refine l_istore rfl rfl rfl ?_
          refine l_aload_n rfl rfl ?_
          refine l_iload rfl rfl ?_
          refine l_bipush rfl rfl ?_
          refine l_icmp_eq rfl rfl (by unfold rg; omega) (by unfold rg; omega) (fun w204 => ?_) (fun w205 => absurd w205 (by omega))
          · refine l_iconst rfl ?_
            refine l_iconst rfl ?_
            refine l_iload rfl rfl ?_
            refine l_callV rfl rfl rfl (t_mo_need hH 0 4 (td % 10000) ⟨by omega, by omega⟩ ⟨by omega, by omega⟩ ⟨by omega, by omega⟩ _) ?_
            rintro _ T11 ⟨hHT11, w213, rfl, w210, w211⟩
            have hFT11 : FR md_mo_meant S T11 := FR.tr hF w213 rfl
            show Rl _ _ _ _ _ [] _ _
            refine l_iload rfl rfl ?_
            refine l_ireturn rfl rfl ?_
            have w214 : 0 ≤ Xi T11 904 106 ∧ Xi T11 904 106 ≤ 9 := hHT11.c _ _
            have w215 : Xi T11 904 115 = Xi S 904 115 := (show Xi T11 904 115 = Xi S 904 115 from w213.x _ _ rfl)
            have w216 : -1 ≤ Xi S 904 115 ∧ Xi S 904 115 ≤ 15 := hH.c _ _
            have w217 : Xi T11 904 116 = Xi S 904 116 := (show Xi T11 904 116 = Xi S 904 116 from w213.x _ _ rfl)
            have w218 : -1 ≤ Xi S 904 116 ∧ Xi S 904 116 ≤ 15 := hH.c _ _
            have w219 : Xi T11 904 19 = Xi S 904 19 := (show Xi T11 904 19 = Xi S 904 19 from w213.x _ _ rfl)
            exact ⟨hHT11, hFT11, _, rfl, ⟨by omega, by omega⟩, (by omega), (by omega), (by omega), (by omega), (by omega)⟩
    · refine l_bipush rfl rfl ?_
      refine l_goto rfl rfl ?_
      refine l_istore rfl rfl rfl ?_
      refine l_iload_n rfl rfl ?_
      refine l_iconst rfl ?_
      refine l_icmp_ne rfl rfl (by unfold rg; omega) (by unfold rg; omega) (fun w221 => ?_) (fun w222 => ?_)
      · refine l_iload rfl rfl ?_
        refine l_istore rfl rfl rfl ?_
        refine l_aload_n rfl rfl ?_
        refine l_iload rfl rfl ?_
        refine l_bipush rfl rfl ?_
        refine l_icmp_eq rfl rfl (by unfold rg; omega) (by unfold rg; omega) (fun w223 => ?_) (fun w224 => absurd w224 (by omega))
        · refine l_iconst rfl ?_
          refine l_iconst rfl ?_
          refine l_iload rfl rfl ?_
          refine l_callV rfl rfl rfl (t_mo_need hH 0 4 (td % 10000) ⟨by omega, by omega⟩ ⟨by omega, by omega⟩ ⟨by omega, by omega⟩ _) ?_
          rintro _ T12 ⟨hHT12, w232, rfl, w229, w230⟩
          have hFT12 : FR md_mo_meant S T12 := FR.tr hF w232 rfl
          show Rl _ _ _ _ _ [] _ _
          refine l_iload rfl rfl ?_
          refine l_ireturn rfl rfl ?_
          have w233 : 0 ≤ Xi T12 904 106 ∧ Xi T12 904 106 ≤ 9 := hHT12.c _ _
          have w234 : Xi T12 904 115 = Xi S 904 115 := (show Xi T12 904 115 = Xi S 904 115 from w232.x _ _ rfl)
          have w235 : -1 ≤ Xi S 904 115 ∧ Xi S 904 115 ≤ 15 := hH.c _ _
          have w236 : Xi T12 904 116 = Xi S 904 116 := (show Xi T12 904 116 = Xi S 904 116 from w232.x _ _ rfl)
          have w237 : -1 ≤ Xi S 904 116 ∧ Xi S 904 116 ≤ 15 := hH.c _ _
          have w238 : Xi T12 904 19 = Xi S 904 19 := (show Xi T12 904 19 = Xi S 904 19 from w232.x _ _ rfl)
          exact ⟨hHT12, hFT12, _, rfl, ⟨by omega, by omega⟩, (by omega), (by omega), (by omega), (by omega), (by omega)⟩
      · refine l_iload rfl rfl ?_
        refine l_iconst rfl ?_
        refine l_icmp_ne rfl rfl (by unfold rg; omega) (by unfold rg; omega) (fun w240 => ?_) (fun w241 => absurd w241 (by omega))
        · refine l_iload rfl rfl ?_
          refine l_istore rfl rfl rfl ?_
          refine l_aload_n rfl rfl ?_
          refine l_iload rfl rfl ?_
          refine l_bipush rfl rfl ?_
          refine l_icmp_eq rfl rfl (by unfold rg; omega) (by unfold rg; omega) (fun w242 => ?_) (fun w243 => absurd w243 (by omega))
          · refine l_iconst rfl ?_
            refine l_iconst rfl ?_
            refine l_iload rfl rfl ?_
            refine l_callV rfl rfl rfl (t_mo_need hH 0 4 (td % 10000) ⟨by omega, by omega⟩ ⟨by omega, by omega⟩ ⟨by omega, by omega⟩ _) ?_
            rintro _ T13 ⟨hHT13, w251, rfl, w248, w249⟩
            have hFT13 : FR md_mo_meant S T13 := FR.tr hF w251 rfl
            show Rl _ _ _ _ _ [] _ _
            refine l_iload rfl rfl ?_
            refine l_ireturn rfl rfl ?_
            have w252 : 0 ≤ Xi T13 904 106 ∧ Xi T13 904 106 ≤ 9 := hHT13.c _ _
            have w253 : Xi T13 904 115 = Xi S 904 115 := (show Xi T13 904 115 = Xi S 904 115 from w251.x _ _ rfl)
            have w254 : -1 ≤ Xi S 904 115 ∧ Xi S 904 115 ≤ 15 := hH.c _ _
            have w255 : Xi T13 904 116 = Xi S 904 116 := (show Xi T13 904 116 = Xi S 904 116 from w251.x _ _ rfl)
            have w256 : -1 ≤ Xi S 904 116 ∧ Xi S 904 116 ≤ 15 := hH.c _ _
            have w257 : Xi T13 904 19 = Xi S 904 19 := (show Xi T13 904 19 = Xi S 904 19 from w251.x _ _ rfl)
            exact ⟨hHT13, hFT13, _, rfl, ⟨by omega, by omega⟩, (by omega), (by omega), (by omega), (by omega), (by omega)⟩
/-! SAFETY of methods: printed by wip/safe (vc.py, decl.py) -/
def md_mo_wrong : List rec := [(904, 905, 105, 106), (904, 905, 106, 107)]
abbrev Q_mo_wrong (S : sS) (f : Int) (t : Int) : pst := fun r S1 => HI S1 ∧ FR md_mo_wrong S S1 ∧ (r = none ∧ (Xi S1 904 106 ≠ 0))
set_option maxRecDepth 100000 in
theorem t_mo_wrong {S : sS} (hH : HI S) (f : Int) (t : Int) (hf : 1 ≤ f ∧ f ≤ 9) (ht : 0 ≤ t ∧ t ≤ 5001) (d : Nat) : Mt lay0 (d + 1) m_mo_wrong [.ref 904, iv f, iv t] S (Q_mo_wrong S f t) := by
  refine Mt_R rfl rfl ?_
  have hF : FR md_mo_wrong S S := FR.rf
  refine l_aload_n rfl rfl ?_
  refine l_gfi rfl rfl rfl rfl rfl ?_
  have w1 : 0 ≤ (Xi S 904 106) ∧ (Xi S 904 106) ≤ 9 := hH.c _ _
  refine l_if_ne rfl rfl (by unfold rg; omega) (fun w2 => ?_) (fun w3 => ?_)
  · refine l_return rfl rfl ?_
    have w4 : 0 ≤ Xi S 904 106 ∧ Xi S 904 106 ≤ 9 := hH.c _ _
    exact ⟨hH, hF, rfl, (by first | assumption | omega)⟩
  · refine l_aload_n rfl rfl ?_
    refine l_iload_n rfl rfl ?_
    refine l_pfi rfl rfl rfl rfl ?_
    obtain ⟨U1, eU1⟩ : ∃ T : sS, T = uI S 904 106 (Int32.ofInt f) := ⟨_, rfl⟩
    rw [← eU1]
    have hHU1 : HI U1 := by rw [eU1]; exact HI_w hH (show 0 ≤ f by omega) (show f ≤ 9 by omega)
    have hFU1 : FR md_mo_wrong S U1 := by rw [eU1]; exact FR.wI hF (mdf_i (r := (904, 905, 106, 107)) (List.mem_of_getElem? (i := 1) rfl) (inR_i (by omega) (by omega) (by omega) (by omega)))
    have w5 : Xi U1 904 106 = f := by rw [eU1]; exact Xi_same (by unfold rg; omega)
    refine l_aload_n rfl rfl ?_
    refine l_aload_n rfl rfl ?_
    refine l_gfr rfl rfl rfl rfl rfl (hHU1.r 904 5 908 rfl) ?_
    refine l_iload_n rfl rfl ?_
    refine l_iaload (n := 5002) rfl rfl (by omega) (by omega) (by unfold rg; omega) ?_
    have w6 : 0 ≤ (Xi U1 908 ((t).toNat)) ∧ (Xi U1 908 ((t).toNat)) ≤ 5000 := hHU1.c _ _
    refine l_pfi rfl rfl rfl rfl ?_
    obtain ⟨U2, eU2⟩ : ∃ T : sS, T = uI U1 904 105 (Int32.ofInt (Xi U1 908 ((t).toNat))) := ⟨_, rfl⟩
    rw [← eU2]
    have hHU2 : HI U2 := by rw [eU2]; exact HI_w hHU1 (show 0 ≤ (Xi U1 908 ((t).toNat)) by omega) (show (Xi U1 908 ((t).toNat)) ≤ 5000 by omega)
    have hFU2 : FR md_mo_wrong S U2 := by rw [eU2]; exact FR.wI hFU1 (mdf_i (r := (904, 905, 105, 106)) (List.mem_of_getElem? (i := 0) rfl) (inR_i (by omega) (by omega) (by omega) (by omega)))
    have w7 : Xi U2 904 105 = (Xi U1 908 ((t).toNat)) := by rw [eU2]; exact Xi_same (by unfold rg; omega)
    refine l_return rfl rfl ?_
    have w8 : Xi U2 904 106 = Xi U1 904 106 := (show Xi U2 904 106 = Xi U1 904 106 from by rw [eU2]; exact Xi_ne (by omega))
    have w9 : 0 ≤ Xi U1 904 106 ∧ Xi U1 904 106 ≤ 9 := hHU1.c _ _
    exact ⟨hHU2, hFU2, rfl, (by first | assumption | omega)⟩
def md_mo_relate : List rec := [(940, 941, 0, 100000)]
abbrev Q_mo_relate (S : sS) (r1 : Int) (o1 : Int) (o2 : Int) : pst := fun r S1 => HI S1 ∧ FR md_mo_relate S S1 ∧ (∃ z : Int, r = some (iv z) ∧ (0 ≤ z ∧ z ≤ 1))
set_option maxRecDepth 100000 in
theorem t_mo_relate {S : sS} (hH : HI S) (r1 : Int) (o1 : Int) (o2 : Int) (hr1 : 0 ≤ r1 ∧ r1 ≤ 5) (ho1 : 0 ≤ o1 ∧ o1 ≤ 23) (ho2 : 0 ≤ o2 ∧ o2 ≤ 23) (d : Nat) : Mt lay0 (d + 1) m_mo_relate [.ref 904, iv r1, iv o1, iv o2] S (Q_mo_relate S r1 o1 o2) := by
  refine Mt_R rfl rfl ?_
  have hF : FR md_mo_relate S S := FR.rf
  have C3 : ∀ (n3 : Nat) (v4 : Int), (0 ≤ v4 ∧ v4 ≤ 24) → n3 = (25 - v4).toNat → Rl lay0 (d + 0) m_mo_relate 3 [(0, .ref 904), (1, iv r1), (2, iv o1), (3, iv o2), (4, iv v4)] [] S (Q_mo_relate S r1 o1 o2) := by
    intro n3
    induction n3 using Nat.strongRecOn with
    | ind n3 ih3 =>
      intro v4 w1 hm3
      have C48 : ∀  (v4 : Int), (0 ≤ v4 ∧ v4 ≤ 23) → ((25 - v4).toNat ≤ n3) → Rl lay0 (d + 0) m_mo_relate 48 [(0, .ref 904), (1, iv r1), (2, iv o1), (3, iv o2), (4, iv v4)] [] S (Q_mo_relate S r1 o1 o2) := by
        intro v4 w2 w3
        have C86 : ∀  (v4 : Int), (0 ≤ v4 ∧ v4 ≤ 23) → ((25 - v4).toNat ≤ n3) → Rl lay0 (d + 0) m_mo_relate 86 [(0, .ref 904), (1, iv r1), (2, iv o1), (3, iv o2), (4, iv v4)] [] S (Q_mo_relate S r1 o1 o2) := by
          intro v4 w4 w5
          refine l_iinc rfl rfl rfl rfl ?_
          refine l_goto rfl rfl ?_
          exact Rl_weak (ih3 _ (by omega) ((v4 + 1)) (by omega) rfl) (And.intro rfl (And.intro rfl (And.intro rfl (And.intro rfl (And.intro rfl (True.intro))))))
        refine l_aload_n rfl rfl ?_
        refine l_gfr rfl rfl rfl rfl rfl (hH.r 904 45 939 rfl) ?_
        refine l_iload_n rfl rfl ?_
        refine l_baload (n := 6) rfl rfl rfl (by decide) (by omega) (by omega) (by unfold rg; omega) ?_
        have w6 : 0 ≤ (Xi S 939 ((r1).toNat)) ∧ (Xi S 939 ((r1).toNat)) ≤ 1 := hH.c _ _
        refine l_if_eq rfl rfl (by unfold rg; omega) (fun w7 => ?_) (fun w8 => ?_)
        · exact Rl_weak (C86 (v4) (by omega) (by omega)) (And.intro rfl (And.intro rfl (And.intro rfl (And.intro rfl (And.intro rfl (True.intro))))))
        · refine l_iload rfl rfl ?_
          refine l_iload_n rfl rfl ?_
          refine l_icmp_eq rfl rfl (by unfold rg; omega) (by unfold rg; omega) (fun w9 => ?_) (fun w10 => ?_)
          · exact Rl_weak (C86 (v4) (by omega) (by omega)) (And.intro rfl (And.intro rfl (And.intro rfl (And.intro rfl (And.intro rfl (True.intro))))))
          · refine l_aload_n rfl rfl ?_
            refine l_gfr rfl rfl rfl rfl rfl (hH.r 904 46 940 rfl) ?_
            refine l_sipush rfl rfl ?_
            refine l_iload_n rfl rfl ?_
            refine l_imul rfl ?_
            refine l_bipush rfl rfl ?_
            refine l_iload_n rfl rfl ?_
            refine l_imul rfl ?_
            refine l_iadd rfl ?_
            refine l_iload rfl rfl ?_
            refine l_iadd rfl ?_
            refine l_baload (n := 3456) rfl rfl rfl (by decide) (by omega) (by omega) (by unfold rg; omega) ?_
            have w11 : 0 ≤ (Xi S 940 (((((576 * r1) + (24 * o1)) + v4)).toNat)) ∧ (Xi S 940 (((((576 * r1) + (24 * o1)) + v4)).toNat)) ≤ 1 := hH.c _ _
            refine l_if_eq rfl rfl (by unfold rg; omega) (fun w12 => ?_) (fun w13 => ?_)
            · exact Rl_weak (C86 (v4) (by omega) (by omega)) (And.intro rfl (And.intro rfl (And.intro rfl (And.intro rfl (And.intro rfl (True.intro))))))
            · refine l_iconst rfl ?_
              refine l_ireturn rfl rfl ?_
              exact ⟨hH, hF, _, rfl, ⟨by omega, by omega⟩⟩
      refine l_iload rfl rfl ?_
      refine l_aload_n rfl rfl ?_
      refine l_gfi rfl rfl rfl rfl rfl ?_
      have w14 : 0 ≤ (Xi S 904 19) ∧ (Xi S 904 19) ≤ 24 := hH.c _ _
      refine l_icmp_ge rfl rfl (by unfold rg; omega) (by unfold rg; omega) (fun w15 => ?_) (fun w16 => ?_)
      · refine l_aload_n rfl rfl ?_
        refine l_gfr rfl rfl rfl rfl rfl (hH.r 904 46 940 rfl) ?_
        refine l_sipush rfl rfl ?_
        refine l_iload_n rfl rfl ?_
        refine l_imul rfl ?_
        refine l_bipush rfl rfl ?_
        refine l_iload_n rfl rfl ?_
        refine l_imul rfl ?_
        refine l_iadd rfl ?_
        refine l_iload_n rfl rfl ?_
        refine l_iadd rfl ?_
        refine l_iconst rfl ?_
        refine l_bastoreZ1 (n := 3456) rfl rfl (by omega) (by omega) (by unfold rg; omega) ⟨by omega, by omega⟩ ?_
        obtain ⟨U1, eU1⟩ : ∃ T : sS, T = uI S 940 (((((576 * r1) + (24 * o1)) + o2)).toNat) (Int32.ofInt 1) := ⟨_, rfl⟩
        rw [← eU1]
        have hHU1 : HI U1 := by rw [eU1]; exact HI_w hH (show 0 ≤ 1 by omega) (show 1 ≤ 1 by omega)
        have hFU1 : FR md_mo_relate S U1 := by rw [eU1]; exact FR.wI hF (mdf_i (r := (940, 941, 0, 100000)) (List.mem_of_getElem? (i := 0) rfl) (inR_i (by omega) (by omega) (by omega) (by omega)))
        have w17 : Xi U1 940 (((((576 * r1) + (24 * o1)) + o2)).toNat) = 1 := by rw [eU1]; exact Xi_same (by unfold rg; omega)
        refine l_iconst rfl ?_
        refine l_ireturn rfl rfl ?_
        exact ⟨hHU1, hFU1, _, rfl, ⟨by omega, by omega⟩⟩
      · refine l_aload_n rfl rfl ?_
        refine l_gfr rfl rfl rfl rfl rfl (hH.r 904 44 938 rfl) ?_
        refine l_iload_n rfl rfl ?_
        refine l_baload (n := 6) rfl rfl rfl (by decide) (by omega) (by omega) (by unfold rg; omega) ?_
        have w18 : 0 ≤ (Xi S 938 ((r1).toNat)) ∧ (Xi S 938 ((r1).toNat)) ≤ 1 := hH.c _ _
        refine l_if_eq rfl rfl (by unfold rg; omega) (fun w19 => ?_) (fun w20 => ?_)
        · exact Rl_weak (C48 (v4) (by omega) (by omega)) (And.intro rfl (And.intro rfl (And.intro rfl (And.intro rfl (And.intro rfl (True.intro))))))
        · refine l_iload rfl rfl ?_
          refine l_iload_n rfl rfl ?_
          refine l_icmp_eq rfl rfl (by unfold rg; omega) (by unfold rg; omega) (fun w21 => ?_) (fun w22 => ?_)
          · exact Rl_weak (C48 (v4) (by omega) (by omega)) (And.intro rfl (And.intro rfl (And.intro rfl (And.intro rfl (And.intro rfl (True.intro))))))
          · refine l_aload_n rfl rfl ?_
            refine l_gfr rfl rfl rfl rfl rfl (hH.r 904 46 940 rfl) ?_
            refine l_sipush rfl rfl ?_
            refine l_iload_n rfl rfl ?_
            refine l_imul rfl ?_
            refine l_bipush rfl rfl ?_
            refine l_iload rfl rfl ?_
            refine l_imul rfl ?_
            refine l_iadd rfl ?_
            refine l_iload_n rfl rfl ?_
            refine l_iadd rfl ?_
            refine l_baload (n := 3456) rfl rfl rfl (by decide) (by omega) (by omega) (by unfold rg; omega) ?_
            have w23 : 0 ≤ (Xi S 940 (((((576 * r1) + (24 * v4)) + o2)).toNat)) ∧ (Xi S 940 (((((576 * r1) + (24 * v4)) + o2)).toNat)) ≤ 1 := hH.c _ _
            refine l_if_ne rfl rfl (by unfold rg; omega) (fun w24 => ?_) (fun w25 => ?_)
            · refine l_iconst rfl ?_
              refine l_ireturn rfl rfl ?_
              exact ⟨hH, hF, _, rfl, ⟨by omega, by omega⟩⟩
            · exact Rl_weak (C48 (v4) (by omega) (by omega)) (And.intro rfl (And.intro rfl (And.intro rfl (And.intro rfl (And.intro rfl (True.intro))))))
  refine l_iconst rfl ?_
  refine l_istore rfl rfl rfl ?_
  exact Rl_weak (C3 _ (0) (by omega) rfl) (And.intro rfl (And.intro rfl (And.intro rfl (And.intro rfl (And.intro rfl (True.intro))))))
abbrev Q_mo_tellsOtherwise (S : sS) (p : Int) (was : Int) (wl : Int) (iss : Int) (il : Int) : pst := fun r S1 => S = S1 ∧ (∃ z : Int, r = some (iv z) ∧ (0 ≤ z ∧ z ≤ 1))
set_option maxRecDepth 100000 in
theorem t_mo_tellsOtherwise {S : sS} (hH : HI S) (p : Int) (was : Int) (wl : Int) (iss : Int) (il : Int) (hp : 0 ≤ p ∧ p ≤ 11) (hwas : -2147483648 ≤ was ∧ was ≤ 2147483647) (hwl : -2147483648 ≤ wl ∧ wl ≤ 2147483647) (hiss : -2147483648 ≤ iss ∧ iss ≤ 2147483647) (hil : -2147483648 ≤ il ∧ il ≤ 2147483647) (h1 : Xi S 928 p.toNat = 1 → OKT was wl) (h2 : Xi S 928 p.toNat = 1 → OKT iss il) (d : Nat) : Mt lay0 (d + 2) m_mo_tellsOtherwise [.ref 904, iv p, iv was, iv wl, iv iss, iv il] S (Q_mo_tellsOtherwise S p was wl iss il) := by
  refine Mt_R rfl rfl ?_
  refine l_aload_n rfl rfl ?_
  refine l_gfr rfl rfl rfl rfl rfl (hH.r 904 33 928 rfl) ?_
  refine l_iload_n rfl rfl ?_
  refine l_iaload (n := 12) rfl rfl (by omega) (by omega) (by unfold rg; omega) ?_
  have w1 : 0 ≤ (Xi S 928 ((p).toNat)) ∧ (Xi S 928 ((p).toNat)) ≤ 7 := hH.c _ _
  refine l_iconst rfl ?_
  refine l_icmp_ne rfl rfl (by unfold rg; omega) (by unfold rg; omega) (fun w2 => ?_) (fun w3 => ?_)
  · refine l_iload_n rfl rfl ?_
    refine l_iload rfl rfl ?_
    refine l_icmp_eq rfl rfl (by unfold rg; omega) (by unfold rg; omega) (fun w4 => ?_) (fun w5 => ?_)
    · refine l_iconst rfl ?_
      refine l_ireturn rfl rfl ?_
      exact ⟨rfl, _, rfl, ⟨by omega, by omega⟩⟩
    · refine l_iconst rfl ?_
      refine l_goto rfl rfl ?_
      refine l_ireturn rfl rfl ?_
      exact ⟨rfl, _, rfl, ⟨by omega, by omega⟩⟩
  · refine l_aload_n rfl rfl ?_
    refine l_iload_n rfl rfl ?_
    refine l_iload_n rfl rfl ?_
    refine l_iload rfl rfl ?_
    refine l_iload rfl rfl ?_
    refine l_callV rfl rfl rfl (t_mo_isSameText hH was wl iss il ⟨by omega, by omega⟩ ⟨by omega, by omega⟩ ⟨by omega, by omega⟩ ⟨by omega, by omega⟩ (h1 (by omega)) (h2 (by omega)) _) ?_
    rintro _ _ ⟨rfl, z6, rfl, w6⟩
    show Rl _ _ _ _ _ [iv z6] _ _
    refine l_if_ne rfl rfl (by unfold rg; omega) (fun w7 => ?_) (fun w8 => ?_)
    · refine l_iconst rfl ?_
      refine l_goto rfl rfl ?_
      refine l_ireturn rfl rfl ?_
      exact ⟨rfl, _, rfl, ⟨by omega, by omega⟩⟩
    · refine l_iconst rfl ?_
      refine l_goto rfl rfl ?_
      refine l_ireturn rfl rfl ?_
      exact ⟨rfl, _, rfl, ⟨by omega, by omega⟩⟩
/-! SAFETY of methods: printed by wip/safe (vc.py, decl.py) -/
def md_mo_tellObject : List rec := [(930, 931, 0, 100000), (931, 932, 0, 100000), (932, 933, 0, 100000)]
abbrev Q_mo_tellObject (S : sS) (o : Int) (p : Int) (v : Int) (nn : Int) : pst := fun r S1 => HI S1 ∧ FR md_mo_tellObject S S1 ∧ (∃ z : Int, r = some (iv z) ∧ (0 ≤ z ∧ z ≤ 1) ∧ (TXM S1))
set_option maxRecDepth 100000 in
theorem t_mo_tellObject {S : sS} (hH : HI S) (o : Int) (p : Int) (v : Int) (nn : Int) (ho : 0 ≤ o ∧ o ≤ 23) (hp : 0 ≤ p ∧ p ≤ 11) (hv : -2147483648 ≤ v ∧ v ≤ 2147483647) (hnn : -2147483648 ≤ nn ∧ nn ≤ 2147483647) (hX : TXM S) (hoo : o < Xi S 904 19) (hpp : p < Xi S 904 32) (hk : Xi S 928 p.toNat = 1 → OKT v nn) (d : Nat) : Mt lay0 (d + 3) m_mo_tellObject [.ref 904, iv o, iv p, iv v, iv nn] S (Q_mo_tellObject S o p v nn) := by
  refine Mt_R rfl rfl ?_
  have hF : FR md_mo_tellObject S S := FR.rf
  have w1 : 0 ≤ Xi S 904 19 ∧ Xi S 904 19 ≤ 24 := hH.c _ _
  have w2 : 0 ≤ Xi S 904 32 ∧ Xi S 904 32 ≤ 12 := hH.c _ _
  refine l_bipush rfl rfl ?_
  refine l_iload_n rfl rfl ?_
  refine l_imul rfl ?_
  refine l_iload_n rfl rfl ?_
  refine l_iadd rfl ?_
  refine l_istore rfl rfl rfl ?_
  refine l_aload_n rfl rfl ?_
  refine l_gfr rfl rfl rfl rfl rfl (hH.r 904 35 930 rfl) ?_
  refine l_iload rfl rfl ?_
  refine l_baload (n := 288) rfl rfl rfl (by decide) (by omega) (by omega) (by unfold rg; omega) ?_
  have w3 : 0 ≤ (Xi S 930 ((((12 * o) + p)).toNat)) ∧ (Xi S 930 ((((12 * o) + p)).toNat)) ≤ 1 := hH.c _ _
  refine l_if_eq rfl rfl (by unfold rg; omega) (fun w4 => ?_) (fun w5 => ?_)
  · refine l_aload_n rfl rfl ?_
    refine l_gfr rfl rfl rfl rfl rfl (hH.r 904 35 930 rfl) ?_
    refine l_iload rfl rfl ?_
    refine l_iconst rfl ?_
    refine l_bastoreZ1 (n := 288) rfl rfl (by omega) (by omega) (by unfold rg; omega) ⟨by omega, by omega⟩ ?_
    obtain ⟨U1, eU1⟩ : ∃ T : sS, T = uI S 930 ((((12 * o) + p)).toNat) (Int32.ofInt 1) := ⟨_, rfl⟩
    rw [← eU1]
    have hHU1 : HI U1 := by rw [eU1]; exact HI_w hH (show 0 ≤ 1 by omega) (show 1 ≤ 1 by omega)
    have hFU1 : FR md_mo_tellObject S U1 := by rw [eU1]; exact FR.wI hF (mdf_i (r := (930, 931, 0, 100000)) (List.mem_of_getElem? (i := 0) rfl) (inR_i (by omega) (by omega) (by omega) (by omega)))
    have w6 : Xi U1 930 ((((12 * o) + p)).toNat) = 1 := by rw [eU1]; exact Xi_same (by unfold rg; omega)
    refine l_aload_n rfl rfl ?_
    refine l_gfr rfl rfl rfl rfl rfl (hHU1.r 904 36 931 rfl) ?_
    refine l_iload rfl rfl ?_
    refine l_iload_n rfl rfl ?_
    refine l_iastore (n := 288) rfl rfl (by omega) (by omega) (by unfold rg; omega) ?_
    obtain ⟨U2, eU2⟩ : ∃ T : sS, T = uI U1 931 ((((12 * o) + p)).toNat) (Int32.ofInt v) := ⟨_, rfl⟩
    rw [← eU2]
    have hHU2 : HI U2 := by rw [eU2]; exact HI_any hHU1 (rfl)
    have hFU2 : FR md_mo_tellObject S U2 := by rw [eU2]; exact FR.wI hFU1 (mdf_i (r := (931, 932, 0, 100000)) (List.mem_of_getElem? (i := 1) rfl) (inR_i (by omega) (by omega) (by omega) (by omega)))
    have w7 : Xi U2 931 ((((12 * o) + p)).toNat) = v := by rw [eU2]; exact Xi_same (by unfold rg; omega)
    refine l_aload_n rfl rfl ?_
    refine l_gfr rfl rfl rfl rfl rfl (hHU2.r 904 37 932 rfl) ?_
    refine l_iload rfl rfl ?_
    refine l_iload rfl rfl ?_
    refine l_iastore (n := 288) rfl rfl (by omega) (by omega) (by unfold rg; omega) ?_
    obtain ⟨U3, eU3⟩ : ∃ T : sS, T = uI U2 932 ((((12 * o) + p)).toNat) (Int32.ofInt nn) := ⟨_, rfl⟩
    rw [← eU3]
    have hHU3 : HI U3 := by rw [eU3]; exact HI_any hHU2 (rfl)
    have hFU3 : FR md_mo_tellObject S U3 := by rw [eU3]; exact FR.wI hFU2 (mdf_i (r := (932, 933, 0, 100000)) (List.mem_of_getElem? (i := 2) rfl) (inR_i (by omega) (by omega) (by omega) (by omega)))
    have w8 : Xi U3 932 ((((12 * o) + p)).toNat) = nn := by rw [eU3]; exact Xi_same (by unfold rg; omega)
    refine l_iconst rfl ?_
    refine l_ireturn rfl rfl ?_
    exact ⟨hHU3, hFU3, _, rfl, ⟨by omega, by omega⟩, (by first | exact txm_w (o := o) (p := p) eU1 eU2 eU3 rfl (by omega) (by omega) hpp (by omega) (by unfold rg; omega) (by unfold rg; omega) hk hX | exact hX)⟩
  · refine l_aload_n rfl rfl ?_
    refine l_iload_n rfl rfl ?_
    refine l_aload_n rfl rfl ?_
    refine l_gfr rfl rfl rfl rfl rfl (hH.r 904 36 931 rfl) ?_
    refine l_iload rfl rfl ?_
    refine l_iaload (n := 288) rfl rfl (by omega) (by omega) (by unfold rg; omega) ?_
    have w9 : -2147483648 ≤ (Xi S 931 ((((12 * o) + p)).toNat)) ∧ (Xi S 931 ((((12 * o) + p)).toNat)) ≤ 2147483647 := Xi_rgI
    refine l_aload_n rfl rfl ?_
    refine l_gfr rfl rfl rfl rfl rfl (hH.r 904 37 932 rfl) ?_
    refine l_iload rfl rfl ?_
    refine l_iaload (n := 288) rfl rfl (by omega) (by omega) (by unfold rg; omega) ?_
    have w10 : -2147483648 ≤ (Xi S 932 ((((12 * o) + p)).toNat)) ∧ (Xi S 932 ((((12 * o) + p)).toNat)) ≤ 2147483647 := Xi_rgI
    refine l_iload_n rfl rfl ?_
    refine l_iload rfl rfl ?_
    refine l_callV rfl rfl rfl (t_mo_tellsOtherwise hH p (Xi S 931 ((((12 * o) + p)).toNat)) (Xi S 932 ((((12 * o) + p)).toNat)) v nn ⟨by omega, by omega⟩ ⟨by omega, by omega⟩ ⟨by omega, by omega⟩ ⟨by omega, by omega⟩ ⟨by omega, by omega⟩ (fun q => (hX.2.1 o p (by omega) hoo (by omega) (by omega) (by omega)).2 q) (hk) _) ?_
    rintro _ _ ⟨rfl, z11, rfl, w11⟩
    show Rl _ _ _ _ _ [iv z11] _ _
    refine l_if_eq rfl rfl (by unfold rg; omega) (fun w12 => ?_) (fun w13 => ?_)
    · refine l_aload_n rfl rfl ?_
      refine l_gfr rfl rfl rfl rfl rfl (hH.r 904 35 930 rfl) ?_
      refine l_iload rfl rfl ?_
      refine l_iconst rfl ?_
      refine l_bastoreZ1 (n := 288) rfl rfl (by omega) (by omega) (by unfold rg; omega) ⟨by omega, by omega⟩ ?_
      obtain ⟨U4, eU4⟩ : ∃ T : sS, T = uI S 930 ((((12 * o) + p)).toNat) (Int32.ofInt 1) := ⟨_, rfl⟩
      rw [← eU4]
      have hHU4 : HI U4 := by rw [eU4]; exact HI_w hH (show 0 ≤ 1 by omega) (show 1 ≤ 1 by omega)
      have hFU4 : FR md_mo_tellObject S U4 := by rw [eU4]; exact FR.wI hF (mdf_i (r := (930, 931, 0, 100000)) (List.mem_of_getElem? (i := 0) rfl) (inR_i (by omega) (by omega) (by omega) (by omega)))
      have w14 : Xi U4 930 ((((12 * o) + p)).toNat) = 1 := by rw [eU4]; exact Xi_same (by unfold rg; omega)
      refine l_aload_n rfl rfl ?_
      refine l_gfr rfl rfl rfl rfl rfl (hHU4.r 904 36 931 rfl) ?_
      refine l_iload rfl rfl ?_
      refine l_iload_n rfl rfl ?_
      refine l_iastore (n := 288) rfl rfl (by omega) (by omega) (by unfold rg; omega) ?_
      obtain ⟨U5, eU5⟩ : ∃ T : sS, T = uI U4 931 ((((12 * o) + p)).toNat) (Int32.ofInt v) := ⟨_, rfl⟩
      rw [← eU5]
      have hHU5 : HI U5 := by rw [eU5]; exact HI_any hHU4 (rfl)
      have hFU5 : FR md_mo_tellObject S U5 := by rw [eU5]; exact FR.wI hFU4 (mdf_i (r := (931, 932, 0, 100000)) (List.mem_of_getElem? (i := 1) rfl) (inR_i (by omega) (by omega) (by omega) (by omega)))
      have w15 : Xi U5 931 ((((12 * o) + p)).toNat) = v := by rw [eU5]; exact Xi_same (by unfold rg; omega)
      refine l_aload_n rfl rfl ?_
      refine l_gfr rfl rfl rfl rfl rfl (hHU5.r 904 37 932 rfl) ?_
      refine l_iload rfl rfl ?_
      refine l_iload rfl rfl ?_
      refine l_iastore (n := 288) rfl rfl (by omega) (by omega) (by unfold rg; omega) ?_
      obtain ⟨U6, eU6⟩ : ∃ T : sS, T = uI U5 932 ((((12 * o) + p)).toNat) (Int32.ofInt nn) := ⟨_, rfl⟩
      rw [← eU6]
      have hHU6 : HI U6 := by rw [eU6]; exact HI_any hHU5 (rfl)
      have hFU6 : FR md_mo_tellObject S U6 := by rw [eU6]; exact FR.wI hFU5 (mdf_i (r := (932, 933, 0, 100000)) (List.mem_of_getElem? (i := 2) rfl) (inR_i (by omega) (by omega) (by omega) (by omega)))
      have w16 : Xi U6 932 ((((12 * o) + p)).toNat) = nn := by rw [eU6]; exact Xi_same (by unfold rg; omega)
      refine l_iconst rfl ?_
      refine l_ireturn rfl rfl ?_
      exact ⟨hHU6, hFU6, _, rfl, ⟨by omega, by omega⟩, (by first | exact txm_w (o := o) (p := p) eU4 eU5 eU6 rfl (by omega) (by omega) hpp (by omega) (by unfold rg; omega) (by unfold rg; omega) hk hX | exact hX)⟩
    · refine l_iconst rfl ?_
      refine l_ireturn rfl rfl ?_
      exact ⟨hH, hF, _, rfl, ⟨by omega, by omega⟩, (by first | exact txm_w (o := o) (p := p)   rfl rfl (by omega) (by omega) hpp (by omega) (by unfold rg; omega) (by unfold rg; omega) hk hX | exact hX)⟩
theorem txm_k {S U1 U2 U3 : sS} {o p v n : Int} {i : Nat} {w : Int32} (e1 : U1 = uI S 933 i w) (e2 : U2 = uI U1 934 i (Int32.ofInt v)) (e3 : U3 = uI U2 935 i (Int32.ofInt n)) (hi : i = (12 * o + p).toNat) (h0 : 0 ≤ o) (hp : 0 ≤ p) (hp2 : p < Xi S 904 32) (hp3 : p < 12) (hv : rg v) (hn : rg n) (hk : Xi S 928 p.toNat = 1 → OKT v n) (hX : TXM S) : TXM U3 := by
  have x : ∀ k j, k ≠ 933 → k ≠ 934 → k ≠ 935 → Xi U3 k j = Xi S k j := fun k j a b c => by rw [e3, Xi_ne (by omega), e2, Xi_ne (by omega), e1, Xi_ne (by omega)]
  refine ⟨fun a h1 h2 => ?_, fun a b h1 h2 h3 h4 h5 => ?_, fun a b h1 h2 h3 h4 h5 => ?_⟩
  · rw [x 904 19 (by decide) (by decide) (by decide)] at h2
    rw [x 918 _ (by decide) (by decide) (by decide), x 904 16 (by decide) (by decide) (by decide)]
    exact hX.1 a h1 h2
  · rw [x 904 19 (by decide) (by decide) (by decide)] at h2
    rw [x 930 _ (by decide) (by decide) (by decide)] at h5
    rw [x 904 32 (by decide) (by decide) (by decide), x 928 _ (by decide) (by decide) (by decide), x 931 _ (by decide) (by decide) (by decide), x 932 _ (by decide) (by decide) (by decide)]
    exact hX.2.1 a b h1 h2 h3 h4 h5
  · rw [x 904 16 (by decide) (by decide) (by decide)] at h2
    rw [x 904 32 (by decide) (by decide) (by decide), x 928 _ (by decide) (by decide) (by decide)]
    by_cases q : (12 * a + b).toNat = i
    · have eb : b = p := by omega
      subst eb
      refine ⟨hp2, fun z => ?_⟩
      have y1 : Xi U3 934 (12 * a + b).toNat = v := by rw [q, e3, Xi_ne (by omega), e2]; exact Xi_same hv
      have y2 : Xi U3 935 (12 * a + b).toNat = n := by rw [q, e3]; exact Xi_same hn
      rw [y1, y2]
      exact hk z
    · have y0 : Xi U3 933 (12 * a + b).toNat = Xi S 933 (12 * a + b).toNat := by rw [e3, Xi_ne (by omega), e2, Xi_ne (by omega), e1, Xi_ne (by omega)]
      have y1 : Xi U3 934 (12 * a + b).toNat = Xi S 934 (12 * a + b).toNat := by rw [e3, Xi_ne (by omega), e2, Xi_ne (by omega), e1, Xi_ne (by omega)]
      have y2 : Xi U3 935 (12 * a + b).toNat = Xi S 935 (12 * a + b).toNat := by rw [e3, Xi_ne (by omega), e2, Xi_ne (by omega), e1, Xi_ne (by omega)]
      rw [y0] at h5
      rw [y1, y2]
      exact hX.2.2 a b h1 h2 h3 h4 h5
def md_mo_tellKind : List rec := [(933, 934, 0, 100000), (934, 935, 0, 100000), (935, 936, 0, 100000)]
abbrev Q_mo_tellKind (S : sS) (o : Int) (p : Int) (v : Int) (nn : Int) : pst := fun r S1 => HI S1 ∧ FR md_mo_tellKind S S1 ∧ (∃ z : Int, r = some (iv z) ∧ (0 ≤ z ∧ z ≤ 1) ∧ (TXM S1))
set_option maxRecDepth 100000 in
theorem t_mo_tellKind {S : sS} (hH : HI S) (o : Int) (p : Int) (v : Int) (nn : Int) (ho : 0 ≤ o ∧ o ≤ 15) (hp : 0 ≤ p ∧ p ≤ 11) (hv : -2147483648 ≤ v ∧ v ≤ 2147483647) (hnn : -2147483648 ≤ nn ∧ nn ≤ 2147483647) (hX : TXM S) (hoo : o < Xi S 904 16) (hpp : p < Xi S 904 32) (hk : Xi S 928 p.toNat = 1 → OKT v nn) (d : Nat) : Mt lay0 (d + 3) m_mo_tellKind [.ref 904, iv o, iv p, iv v, iv nn] S (Q_mo_tellKind S o p v nn) := by
  refine Mt_R rfl rfl ?_
  have hF : FR md_mo_tellKind S S := FR.rf
  have w1 : 0 ≤ Xi S 904 16 ∧ Xi S 904 16 ≤ 16 := hH.c _ _
  have w2 : 0 ≤ Xi S 904 32 ∧ Xi S 904 32 ≤ 12 := hH.c _ _
  refine l_bipush rfl rfl ?_
  refine l_iload_n rfl rfl ?_
  refine l_imul rfl ?_
  refine l_iload_n rfl rfl ?_
  refine l_iadd rfl ?_
  refine l_istore rfl rfl rfl ?_
  refine l_aload_n rfl rfl ?_
  refine l_gfr rfl rfl rfl rfl rfl (hH.r 904 38 933 rfl) ?_
  refine l_iload rfl rfl ?_
  refine l_baload (n := 192) rfl rfl rfl (by decide) (by omega) (by omega) (by unfold rg; omega) ?_
  have w3 : 0 ≤ (Xi S 933 ((((12 * o) + p)).toNat)) ∧ (Xi S 933 ((((12 * o) + p)).toNat)) ≤ 1 := hH.c _ _
  refine l_if_eq rfl rfl (by unfold rg; omega) (fun w4 => ?_) (fun w5 => ?_)
  · refine l_aload_n rfl rfl ?_
    refine l_gfr rfl rfl rfl rfl rfl (hH.r 904 38 933 rfl) ?_
    refine l_iload rfl rfl ?_
    refine l_iconst rfl ?_
    refine l_bastoreZ1 (n := 192) rfl rfl (by omega) (by omega) (by unfold rg; omega) ⟨by omega, by omega⟩ ?_
    obtain ⟨U1, eU1⟩ : ∃ T : sS, T = uI S 933 ((((12 * o) + p)).toNat) (Int32.ofInt 1) := ⟨_, rfl⟩
    rw [← eU1]
    have hHU1 : HI U1 := by rw [eU1]; exact HI_w hH (show 0 ≤ 1 by omega) (show 1 ≤ 1 by omega)
    have hFU1 : FR md_mo_tellKind S U1 := by rw [eU1]; exact FR.wI hF (mdf_i (r := (933, 934, 0, 100000)) (List.mem_of_getElem? (i := 0) rfl) (inR_i (by omega) (by omega) (by omega) (by omega)))
    have w6 : Xi U1 933 ((((12 * o) + p)).toNat) = 1 := by rw [eU1]; exact Xi_same (by unfold rg; omega)
    refine l_aload_n rfl rfl ?_
    refine l_gfr rfl rfl rfl rfl rfl (hHU1.r 904 39 934 rfl) ?_
    refine l_iload rfl rfl ?_
    refine l_iload_n rfl rfl ?_
    refine l_iastore (n := 192) rfl rfl (by omega) (by omega) (by unfold rg; omega) ?_
    obtain ⟨U2, eU2⟩ : ∃ T : sS, T = uI U1 934 ((((12 * o) + p)).toNat) (Int32.ofInt v) := ⟨_, rfl⟩
    rw [← eU2]
    have hHU2 : HI U2 := by rw [eU2]; exact HI_any hHU1 (rfl)
    have hFU2 : FR md_mo_tellKind S U2 := by rw [eU2]; exact FR.wI hFU1 (mdf_i (r := (934, 935, 0, 100000)) (List.mem_of_getElem? (i := 1) rfl) (inR_i (by omega) (by omega) (by omega) (by omega)))
    have w7 : Xi U2 934 ((((12 * o) + p)).toNat) = v := by rw [eU2]; exact Xi_same (by unfold rg; omega)
    refine l_aload_n rfl rfl ?_
    refine l_gfr rfl rfl rfl rfl rfl (hHU2.r 904 40 935 rfl) ?_
    refine l_iload rfl rfl ?_
    refine l_iload rfl rfl ?_
    refine l_iastore (n := 192) rfl rfl (by omega) (by omega) (by unfold rg; omega) ?_
    obtain ⟨U3, eU3⟩ : ∃ T : sS, T = uI U2 935 ((((12 * o) + p)).toNat) (Int32.ofInt nn) := ⟨_, rfl⟩
    rw [← eU3]
    have hHU3 : HI U3 := by rw [eU3]; exact HI_any hHU2 (rfl)
    have hFU3 : FR md_mo_tellKind S U3 := by rw [eU3]; exact FR.wI hFU2 (mdf_i (r := (935, 936, 0, 100000)) (List.mem_of_getElem? (i := 2) rfl) (inR_i (by omega) (by omega) (by omega) (by omega)))
    have w8 : Xi U3 935 ((((12 * o) + p)).toNat) = nn := by rw [eU3]; exact Xi_same (by unfold rg; omega)
    refine l_iconst rfl ?_
    refine l_ireturn rfl rfl ?_
    exact ⟨hHU3, hFU3, _, rfl, ⟨by omega, by omega⟩, (by first | exact txm_k (o := o) (p := p) eU1 eU2 eU3 rfl (by omega) (by omega) hpp (by omega) (by unfold rg; omega) (by unfold rg; omega) hk hX | exact hX)⟩
  · refine l_aload_n rfl rfl ?_
    refine l_iload_n rfl rfl ?_
    refine l_aload_n rfl rfl ?_
    refine l_gfr rfl rfl rfl rfl rfl (hH.r 904 39 934 rfl) ?_
    refine l_iload rfl rfl ?_
    refine l_iaload (n := 192) rfl rfl (by omega) (by omega) (by unfold rg; omega) ?_
    have w9 : -2147483648 ≤ (Xi S 934 ((((12 * o) + p)).toNat)) ∧ (Xi S 934 ((((12 * o) + p)).toNat)) ≤ 2147483647 := Xi_rgI
    refine l_aload_n rfl rfl ?_
    refine l_gfr rfl rfl rfl rfl rfl (hH.r 904 40 935 rfl) ?_
    refine l_iload rfl rfl ?_
    refine l_iaload (n := 192) rfl rfl (by omega) (by omega) (by unfold rg; omega) ?_
    have w10 : -2147483648 ≤ (Xi S 935 ((((12 * o) + p)).toNat)) ∧ (Xi S 935 ((((12 * o) + p)).toNat)) ≤ 2147483647 := Xi_rgI
    refine l_iload_n rfl rfl ?_
    refine l_iload rfl rfl ?_
    refine l_callV rfl rfl rfl (t_mo_tellsOtherwise hH p (Xi S 934 ((((12 * o) + p)).toNat)) (Xi S 935 ((((12 * o) + p)).toNat)) v nn ⟨by omega, by omega⟩ ⟨by omega, by omega⟩ ⟨by omega, by omega⟩ ⟨by omega, by omega⟩ ⟨by omega, by omega⟩ (fun q => (hX.2.2 o p (by omega) hoo (by omega) (by omega) (by omega)).2 q) (hk) _) ?_
    rintro _ _ ⟨rfl, z11, rfl, w11⟩
    show Rl _ _ _ _ _ [iv z11] _ _
    refine l_if_eq rfl rfl (by unfold rg; omega) (fun w12 => ?_) (fun w13 => ?_)
    · refine l_aload_n rfl rfl ?_
      refine l_gfr rfl rfl rfl rfl rfl (hH.r 904 38 933 rfl) ?_
      refine l_iload rfl rfl ?_
      refine l_iconst rfl ?_
      refine l_bastoreZ1 (n := 192) rfl rfl (by omega) (by omega) (by unfold rg; omega) ⟨by omega, by omega⟩ ?_
      obtain ⟨U4, eU4⟩ : ∃ T : sS, T = uI S 933 ((((12 * o) + p)).toNat) (Int32.ofInt 1) := ⟨_, rfl⟩
      rw [← eU4]
      have hHU4 : HI U4 := by rw [eU4]; exact HI_w hH (show 0 ≤ 1 by omega) (show 1 ≤ 1 by omega)
      have hFU4 : FR md_mo_tellKind S U4 := by rw [eU4]; exact FR.wI hF (mdf_i (r := (933, 934, 0, 100000)) (List.mem_of_getElem? (i := 0) rfl) (inR_i (by omega) (by omega) (by omega) (by omega)))
      have w14 : Xi U4 933 ((((12 * o) + p)).toNat) = 1 := by rw [eU4]; exact Xi_same (by unfold rg; omega)
      refine l_aload_n rfl rfl ?_
      refine l_gfr rfl rfl rfl rfl rfl (hHU4.r 904 39 934 rfl) ?_
      refine l_iload rfl rfl ?_
      refine l_iload_n rfl rfl ?_
      refine l_iastore (n := 192) rfl rfl (by omega) (by omega) (by unfold rg; omega) ?_
      obtain ⟨U5, eU5⟩ : ∃ T : sS, T = uI U4 934 ((((12 * o) + p)).toNat) (Int32.ofInt v) := ⟨_, rfl⟩
      rw [← eU5]
      have hHU5 : HI U5 := by rw [eU5]; exact HI_any hHU4 (rfl)
      have hFU5 : FR md_mo_tellKind S U5 := by rw [eU5]; exact FR.wI hFU4 (mdf_i (r := (934, 935, 0, 100000)) (List.mem_of_getElem? (i := 1) rfl) (inR_i (by omega) (by omega) (by omega) (by omega)))
      have w15 : Xi U5 934 ((((12 * o) + p)).toNat) = v := by rw [eU5]; exact Xi_same (by unfold rg; omega)
      refine l_aload_n rfl rfl ?_
      refine l_gfr rfl rfl rfl rfl rfl (hHU5.r 904 40 935 rfl) ?_
      refine l_iload rfl rfl ?_
      refine l_iload rfl rfl ?_
      refine l_iastore (n := 192) rfl rfl (by omega) (by omega) (by unfold rg; omega) ?_
      obtain ⟨U6, eU6⟩ : ∃ T : sS, T = uI U5 935 ((((12 * o) + p)).toNat) (Int32.ofInt nn) := ⟨_, rfl⟩
      rw [← eU6]
      have hHU6 : HI U6 := by rw [eU6]; exact HI_any hHU5 (rfl)
      have hFU6 : FR md_mo_tellKind S U6 := by rw [eU6]; exact FR.wI hFU5 (mdf_i (r := (935, 936, 0, 100000)) (List.mem_of_getElem? (i := 2) rfl) (inR_i (by omega) (by omega) (by omega) (by omega)))
      have w16 : Xi U6 935 ((((12 * o) + p)).toNat) = nn := by rw [eU6]; exact Xi_same (by unfold rg; omega)
      refine l_iconst rfl ?_
      refine l_ireturn rfl rfl ?_
      exact ⟨hHU6, hFU6, _, rfl, ⟨by omega, by omega⟩, (by first | exact txm_k (o := o) (p := p) eU4 eU5 eU6 rfl (by omega) (by omega) hpp (by omega) (by unfold rg; omega) (by unfold rg; omega) hk hX | exact hX)⟩
    · refine l_iconst rfl ?_
      refine l_ireturn rfl rfl ?_
      exact ⟨hH, hF, _, rfl, ⟨by omega, by omega⟩, (by first | exact txm_k (o := o) (p := p)   rfl rfl (by omega) (by omega) hpp (by omega) (by unfold rg; omega) (by unfold rg; omega) hk hX | exact hX)⟩
/-! SAFETY of methods: printed by wip/safe (vc.py, decl.py) -/
/-! SAFETY of the reference: reading on; what is noted of tests and phrases -/
theorem at_fr {S P : sS} {n c : Nat} (hA : AT S n c) (f7 : ∀ j, Xi P 907 j = Xi S 907 j) (f9 : ∀ j, Xi P 908 j = Xi S 908 j) (x8 : Xi P 904 8 = Xi S 904 8) (x65 : Xi P 904 65 = Xi S 904 65) (x69 : Xi P 904 69 = Xi S 904 69) (x93 : Xi P 904 93 = Xi S 904 93) : AT P n c := by
  unfold AT
  rw [x8, x65, x69, x93, f7, f9]
  exact hA
theorem tk_fr {S P : sS} {n : Nat} (hT : TK S n) (f7 : ∀ j, Xi P 907 j = Xi S 907 j) (f9 : ∀ j, Xi P 908 j = Xi S 908 j) : TK P n := by
  unfold TK
  simp only [f7, f9]
  exact hT
/-- one token further -/
theorem at_mv {S P U : sS} {n c c2 : Nat} {v : Int} (hT : TK S n) (hA : AT S n c) (f7 : ∀ j, Xi P 907 j = Xi S 907 j) (f9 : ∀ j, Xi P 908 j = Xi S 908 j) (x8 : Xi P 904 8 = Xi S 904 8) (x65 : Xi P 904 65 = Xi S 904 65) (x69 : Xi P 904 69 = Xi S 904 69) (x93 : Xi P 904 93 = Xi S 904 93) (e : U = uI P 904 8 (Int32.ofInt v)) (hv : v = Xi S 904 8 + 1) (h0 : 0 ≤ Xi S 904 8) (hb : Xi S 904 65 = 0) (h1 : Xi S 907 (Xi S 904 8).toNat ≠ 1) (hc : c2 = c ∨ (c2 = c + 1 ∧ K3 (Xi S 907 (Xi S 904 8).toNat))) : AT U n c2 ∧ Xi U 904 8 = Xi S 904 8 + 1 ∧ Xi S 904 8 + 1 ≤ n := by
  have lt := tk_lt hT h0 (hA hb).1 h1
  have hn := hT.1
  refine ⟨at_up (tk_fr hT f7 f9) (at_fr hA f7 f9 x8 x65 x69 x93) e (by omega) (by omega) (by omega) (by rw [x8, f7]; exact h1) (by rw [x8, f7]; exact hc), ?_, by omega⟩
  rw [e, hv]; exact Xi_same ⟨by omega, by omega⟩
/-- two tokens further -/
theorem at_mv2 {S P U : sS} {n c : Nat} {v : Int} (hT : TK S n) (hA : AT S n c) (f7 : ∀ j, Xi P 907 j = Xi S 907 j) (f9 : ∀ j, Xi P 908 j = Xi S 908 j) (x8 : Xi P 904 8 = Xi S 904 8) (x65 : Xi P 904 65 = Xi S 904 65) (x69 : Xi P 904 69 = Xi S 904 69) (x93 : Xi P 904 93 = Xi S 904 93) (e : U = uI P 904 8 (Int32.ofInt v)) (hv : v = Xi S 904 8 + 2) (h0 : 0 ≤ Xi S 904 8) (hb : Xi S 904 65 = 0) (h1 : Xi S 907 (Xi S 904 8).toNat ≠ 1) (h2 : Xi S 907 (Xi S 904 8 + 1).toNat ≠ 1) : AT U n c ∧ Xi U 904 8 = Xi S 904 8 + 2 ∧ Xi S 904 8 + 2 ≤ n := by
  have lt := tk_lt hT h0 (hA hb).1 h1
  have lt2 := tk_lt hT (a := Xi S 904 8 + 1) (by omega) (by omega) h2
  have hn := hT.1
  refine ⟨(at_up2 (tk_fr hT f7 f9) (at_fr hA f7 f9 x8 x65 x69 x93) e (by omega) (by omega) (by omega) (by rw [x8, f7]; exact h1) (by rw [x8, f7]; exact h2)).1, ?_, by omega⟩
  rw [e, hv]; exact Xi_same ⟨by omega, by omega⟩
/-- entries below m stay -/
def KT (T S : sS) (m : Int) : Prop := ∀ i : Nat, (i : Int) < m → ∀ k : Nat, 952 ≤ k → k ≤ 962 → Xi T k i = Xi S k i
theorem KT.rf {S : sS} {m : Int} : KT S S m := fun _ _ _ _ _ => rfl
theorem KT.tr {S T U : sS} {m m2 : Int} (h : KT T S m) (g : KT U T m2) (e : m ≤ m2) : KT U S m := fun i hi k a b => (g i (by omega) k a b).trans (h i hi k a b)
theorem kdis_x {l : List rec} {S T : sS} (f : FR l S T) (e : kdis l [(952, 963)] = true) (k : Nat) (a : 952 ≤ k) (b : k ≤ 962) (i : Nat) : Xi T k i = Xi S k i := by
  have q := f.smk e
  rcases (by omega : k = 952 ∨ k = 953 ∨ k = 954 ∨ k = 955 ∨ k = 956 ∨ k = 957 ∨ k = 958 ∨ k = 959 ∨ k = 960 ∨ k = 961 ∨ k = 962) with h | h | h | h | h | h | h | h | h | h | h <;> subst h <;> exact q.x _ rfl i
theorem KT_FR {l : List rec} {T U S : sS} {m : Int} (f : FR l T U) (e : kdis l [(952, 963)] = true) (h : KT T S m) : KT U S m := fun i hi k a b => (kdis_x f e k a b i).trans (h i hi k a b)
/-- a write at m or beyond -/
theorem KT.w {T U S : sS} {m : Int} {k j : Nat} {v : Int32} (h : KT T S m) (e : U = uI T k j v) (hj : m ≤ j) : KT U S m := fun i hi k2 a b => by
  rw [e, Xi_ne (by omega)]
  exact h i hi k2 a b
/-- a thing that was read: where it stands, which run names it -/
def THV (m : Int) (n : Nat) (td rn : Int) : Prop := td % 10000 ≤ n ∧ (20000 ≤ td → 0 ≤ rn ∧ rn < m)
theorem THV.mono {m m2 : Int} {n : Nat} {td rn : Int} (h : THV m n td rn) (e : m ≤ m2) : THV m2 n td rn := ⟨h.1, fun q => by have := h.2 q; omega⟩
theorem thv_i {m : Int} {n : Nat} {s t r x y : Int} (hx : x = s * 10000 + t) (hy : y = r) (hs : 0 ≤ s ∧ s ≤ 2) (ht : 0 ≤ t ∧ t ≤ 5010) (h1 : t ≤ n) (h0 : 0 ≤ r) (h2 : s = 2 → r < m) : THV m n x y := by
  unfold THV
  rcases (by omega : s = 0 ∨ s = 1 ∨ s = 2) with e | e | e <;> subst e <;> refine ⟨by omega, fun q => by omega⟩
/-- what a test tells, but where it begins and ends -/
def TVx (S : sS) (n : Nat) (i : Nat) : Prop := (Xi S 952 i ≠ 5 → THV (Xi S 904 69) n (Xi S 954 i) (Xi S 955 i)) ∧ (Xi S 952 i ≤ 3 → Xi S 956 i < Xi S 904 69) ∧ (Xi S 952 i = 4 → THV (Xi S 904 69) n (Xi S 959 i) (Xi S 960 i)) ∧ (Xi S 952 i ≤ 2 → Xi S 957 i ≤ n) ∧ (Xi S 952 i = 0 → Xi S 907 (Xi S 957 i).toNat ≠ 4 → Xi S 907 (Xi S 957 i).toNat ≠ 5 → 0 ≤ Xi S 960 i ∧ Xi S 960 i < Xi S 904 69)
def TV (S : sS) (n : Nat) (i : Nat) : Prop := (Xi S 961 i ≤ Xi S 962 i ∧ Xi S 962 i ≤ n) ∧ TVx S n i
theorem tvx_5 {S : sS} {n i : Nat} (h : Xi S 952 i = 5) : TVx S n i := ⟨fun q => absurd h q, fun q => by omega, fun q => by omega, fun q => by omega, fun q => by omega⟩
theorem tvx_3 {S : sS} {n i : Nat} (h : Xi S 952 i = 3) (h1 : THV (Xi S 904 69) n (Xi S 954 i) (Xi S 955 i)) (h2 : Xi S 956 i < Xi S 904 69) : TVx S n i := ⟨fun _ => h1, fun _ => h2, fun q => by omega, fun q => by omega, fun q => by omega⟩
theorem tvx_4 {S : sS} {n i : Nat} (h : Xi S 952 i = 4) (h1 : THV (Xi S 904 69) n (Xi S 954 i) (Xi S 955 i)) (h2 : THV (Xi S 904 69) n (Xi S 959 i) (Xi S 960 i)) : TVx S n i := ⟨fun _ => h1, fun q => by omega, fun _ => h2, fun q => by omega, fun q => by omega⟩
theorem tvx_2 {S : sS} {n i : Nat} (h : Xi S 952 i ≤ 2) (h1 : THV (Xi S 904 69) n (Xi S 954 i) (Xi S 955 i)) (h2 : Xi S 956 i < Xi S 904 69) (h3 : Xi S 957 i ≤ n) (h4 : Xi S 952 i = 0 → Xi S 907 (Xi S 957 i).toNat ≠ 4 → Xi S 907 (Xi S 957 i).toNat ≠ 5 → 0 ≤ Xi S 960 i ∧ Xi S 960 i < Xi S 904 69) : TVx S n i := ⟨fun _ => h1, fun _ => h2, fun q => by omega, fun _ => h3, h4⟩
theorem TVx.mv {S T : sS} {n i : Nat} (h : TVx S n i) (hk : ∀ k : Nat, 952 ≤ k → k ≤ 960 → Xi T k i = Xi S k i) (hr : Xi S 904 69 ≤ Xi T 904 69) (h7 : ∀ j, Xi T 907 j = Xi S 907 j) : TVx T n i := by
  unfold TVx
  rw [hk 952 (by omega) (by omega), hk 954 (by omega) (by omega), hk 955 (by omega) (by omega), hk 956 (by omega) (by omega), hk 957 (by omega) (by omega), hk 959 (by omega) (by omega), hk 960 (by omega) (by omega), h7]
  obtain ⟨a, b, c, d, e⟩ := h
  exact ⟨fun q => (a q).mono hr, fun q => by have := b q; omega, fun q => (c q).mono hr, d, fun q1 q2 q3 => by have := e q1 q2 q3; omega⟩
theorem TV.mv {S T : sS} {n i : Nat} (h : TV S n i) (hk : ∀ k : Nat, 952 ≤ k → k ≤ 962 → Xi T k i = Xi S k i) (hr : Xi S 904 69 ≤ Xi T 904 69) (h7 : ∀ j, Xi T 907 j = Xi S 907 j) : TV T n i := by
  refine ⟨?_, h.2.mv (fun k a b => hk k a (by omega)) hr h7⟩
  rw [hk 961 (by omega) (by omega), hk 962 (by omega) (by omega)]
  exact h.1
/-- all tests below m -/
def TVA (S : sS) (n : Nat) (m : Int) : Prop := ∀ i : Nat, (i : Int) < m → TV S n i
theorem TVA.mv {S T : sS} {n : Nat} {m : Int} (h : TVA S n m) (hk : KT T S m) (hr : Xi S 904 69 ≤ Xi T 904 69) (h7 : ∀ j, Xi T 907 j = Xi S 907 j) : TVA T n m := fun i hi => (h i hi).mv (fun k a b => hk i hi k a b) hr h7
theorem TVA.add {S : sS} {n : Nat} {m m2 : Int} (h : TVA S n m) (h0 : 0 ≤ m) (e : m2 = m + 1) (g : TV S n m.toNat) : TVA S n m2 := fun i hi => by
  rcases (by omega : (i : Int) < m ∨ i = m.toNat) with q | q
  · exact h i q
  · rw [q]; exact g
/-- what a phrase of sort w tells, its entry being t -/
def PVt (S : sS) (n : Nat) (w : Int) (t : Nat) : Prop := (w = 0 → Xi S 957 t ≤ n ∧ Xi S 907 (Xi S 957 t).toNat = 5) ∧ (w = 1 → TV S n t ∧ (Xi S 952 t = 0 ∨ Xi S 952 t = 3 ∨ Xi S 952 t = 5)) ∧ (w = 2 ∨ w = 3 ∨ w = 4 → THV (Xi S 904 69) n (Xi S 954 t) (Xi S 955 t)) ∧ (w = 2 → THV (Xi S 904 69) n (Xi S 959 t) (Xi S 960 t)) ∧
  (w = 3 ∨ w = 4 ∨ w = 5 → Xi S 956 t < Xi S 904 69) ∧ (w = 3 ∨ w = 4 → Xi S 957 t ≤ n) ∧ (w = 5 → Xi S 953 t ≠ 0 → THV (Xi S 904 69) n (Xi S 954 t) (Xi S 955 t))
def PV (S : sS) (n : Nat) (i : Nat) : Prop := PVt S n (Xi S 963 i) (Xi S 964 i).toNat
theorem pv_i {S : sS} {n i t : Nat} {w : Int} (h : PVt S n w t) (e1 : Xi S 963 i = w) (e2 : Xi S 964 i = t) : PV S n i := by
  unfold PV
  rw [e1, e2]
  exact h
theorem pvt_0 {S : sS} {n t : Nat} (h : Xi S 957 t ≤ n) (h2 : Xi S 907 (Xi S 957 t).toNat = 5) : PVt S n 0 t := ⟨fun _ => ⟨h, h2⟩, fun q => absurd q (by decide), fun q => absurd q (by decide), fun q => absurd q (by decide), fun q => absurd q (by decide), fun q => absurd q (by decide), fun q => absurd q (by decide)⟩
theorem pvt_1 {S : sS} {n t : Nat} (h : TV S n t) (h2 : Xi S 952 t = 0 ∨ Xi S 952 t = 3 ∨ Xi S 952 t = 5) : PVt S n 1 t := ⟨fun q => absurd q (by decide), fun _ => ⟨h, h2⟩, fun q => absurd q (by decide), fun q => absurd q (by decide), fun q => absurd q (by decide), fun q => absurd q (by decide), fun q => absurd q (by decide)⟩
theorem pvt_2 {S : sS} {n t : Nat} (h : THV (Xi S 904 69) n (Xi S 954 t) (Xi S 955 t)) (h2 : THV (Xi S 904 69) n (Xi S 959 t) (Xi S 960 t)) : PVt S n 2 t := ⟨fun q => absurd q (by decide), fun q => absurd q (by decide), fun _ => h, fun _ => h2, fun q => absurd q (by decide), fun q => absurd q (by decide), fun q => absurd q (by decide)⟩
theorem pvt_3 {S : sS} {n t : Nat} {w : Int} (hw : w = 3 ∨ w = 4) (h : THV (Xi S 904 69) n (Xi S 954 t) (Xi S 955 t)) (h2 : Xi S 956 t < Xi S 904 69) (h3 : Xi S 957 t ≤ n) : PVt S n w t := ⟨fun q => by omega, fun q => by omega, fun _ => h, fun q => by omega, fun _ => h2, fun _ => h3, fun q => by omega⟩
theorem pvt_5 {S : sS} {n t : Nat} (h : Xi S 956 t < Xi S 904 69) (h2 : Xi S 953 t ≠ 0 → THV (Xi S 904 69) n (Xi S 954 t) (Xi S 955 t)) : PVt S n 5 t := ⟨fun q => absurd q (by decide), fun q => absurd q (by decide), fun q => absurd q (by decide), fun q => absurd q (by decide), fun _ => h, fun q => absurd q (by decide), fun _ => h2⟩
theorem pvt_6 {S : sS} {n t : Nat} : PVt S n 6 t := ⟨fun q => absurd q (by decide), fun q => absurd q (by decide), fun q => absurd q (by decide), fun q => absurd q (by decide), fun q => absurd q (by decide), fun q => absurd q (by decide), fun q => absurd q (by decide)⟩
theorem PVt.mv {S T : sS} {n t : Nat} {w : Int} (h : PVt S n w t) (x : ∀ k : Nat, 952 ≤ k → k ≤ 962 → Xi T k t = Xi S k t) (hr : Xi S 904 69 ≤ Xi T 904 69) (h7 : ∀ j, Xi T 907 j = Xi S 907 j) : PVt T n w t := by
  unfold PVt
  rw [x 952 (by omega) (by omega), x 953 (by omega) (by omega), x 954 (by omega) (by omega), x 955 (by omega) (by omega), x 956 (by omega) (by omega), x 957 (by omega) (by omega), x 959 (by omega) (by omega), x 960 (by omega) (by omega), h7]
  obtain ⟨a, b, c, d, e, f, g⟩ := h
  exact ⟨a, fun q => ⟨(b q).1.mv x hr h7, (b q).2⟩, fun q => (c q).mono hr, fun q => (d q).mono hr, fun q => by have := e q; omega, f, fun q1 q2 => (g q1 q2).mono hr⟩
/-- entries of phrases below m stay -/
def KP (T S : sS) (m : Int) : Prop := ∀ i : Nat, (i : Int) < m → Xi T 963 i = Xi S 963 i ∧ Xi T 964 i = Xi S 964 i ∧ Xi T 965 i = Xi S 965 i
theorem PV.mv {S T : sS} {n i : Nat} {m : Int} (h : PV S n i) (h0 : 0 ≤ Xi S 964 i) (ht : Xi S 964 i < m) (hk : KT T S m) (hp : Xi T 963 i = Xi S 963 i ∧ Xi T 964 i = Xi S 964 i ∧ Xi T 965 i = Xi S 965 i) (hr : Xi S 904 69 ≤ Xi T 904 69) (h7 : ∀ j, Xi T 907 j = Xi S 907 j) : PV T n i := by
  unfold PV
  rw [hp.1, hp.2.1]
  exact PVt.mv h (fun k a b => hk (Xi S 964 i).toNat (by omega) k a b) hr h7
/-- all phrases below m, their entries below the count -/
def PVA (S : sS) (n : Nat) (m : Int) : Prop := ∀ i : Nat, (i : Int) < m → Xi S 964 i < Xi S 904 93 ∧ PV S n i
theorem PVA.mv {S T : sS} {n : Nat} {m : Int} (h : PVA S n m) (hH : HI S) (hk : KT T S (Xi S 904 93)) (hp : KP T S m) (hr : Xi S 904 69 ≤ Xi T 904 69) (hc : Xi S 904 93 ≤ Xi T 904 93) (h7 : ∀ j, Xi T 907 j = Xi S 907 j) : PVA T n m := fun i hi => by
  obtain ⟨a, b⟩ := h i hi
  have c : 0 ≤ Xi S 964 i ∧ Xi S 964 i ≤ 1700 := hH.c 964 i
  refine ⟨?_, b.mv c.1 a hk (hp i hi) hr h7⟩
  rw [(hp i hi).2.1]; omega
theorem PVA.add {S : sS} {n : Nat} {m m2 : Int} (h : PVA S n m) (h0 : 0 ≤ m) (e : m2 = m + 1) (g : Xi S 964 m.toNat < Xi S 904 93 ∧ PV S n m.toNat) : PVA S n m2 := fun i hi => by
  rcases (by omega : (i : Int) < m ∨ i = m.toNat) with q | q
  · exact h i q
  · rw [q]; exact g
theorem tvx_w {P U : sS} {n i k j : Nat} {v : Int32} (h : TVx P n i) (e : U = uI P k j v) (hk : k ≠ 907 ∧ (k = 904 → j ≠ 69) ∧ (k < 952 ∨ 960 < k)) : TVx U n i := h.mv (fun a b c => by rw [e, Xi_ne (by omega)]) (by rw [e, Xi_ne (by omega)]; exact Int.le_refl _) (fun a => by rw [e, Xi_ne (by omega)])
theorem pvt_w {P U : sS} {n i k j : Nat} {w : Int} {v : Int32} (h : PVt P n w i) (e : U = uI P k j v) (hk : k ≠ 907 ∧ (k = 904 → j ≠ 69) ∧ (k < 952 ∨ 962 < k)) : PVt U n w i := h.mv (fun a b c => by rw [e, Xi_ne (by omega)]) (by rw [e, Xi_ne (by omega)]; exact Int.le_refl _) (fun a => by rw [e, Xi_ne (by omega)])
theorem thv_c {m m2 : Int} {n : Nat} {a b a2 b2 : Int} (h : THV m n a b) (e : m ≤ m2) (ea : a2 = a) (eb : b2 = b) : THV m2 n a2 b2 := by rw [ea, eb]; exact h.mono e
/-- at most one token further -/
theorem at_opt {P U : sS} {n c : Nat} {v : Int} (hT : TK P n) (hA : AT P n c) (e : U = uI P 904 8 (Int32.ofInt v)) (hv : v = Xi P 904 8 ∨ (v = Xi P 904 8 + 1 ∧ Xi P 904 65 = 0 ∧ Xi P 907 (Xi P 904 8).toNat ≠ 1)) (h8 : 0 ≤ Xi P 904 8 ∧ Xi P 904 8 ≤ 5010) : AT U n c ∧ Xi P 904 8 ≤ Xi U 904 8 ∧ (Xi U 904 8 ≤ n ∨ Xi U 904 8 = Xi P 904 8) := by
  rcases hv with q | ⟨q, b, h1⟩
  · have x8 : Xi U 904 8 = Xi P 904 8 := by rw [e, q]; exact Xi_same ⟨by omega, by omega⟩
    exact ⟨at_same hA e q h8, by omega, by omega⟩
  · have t := at_mv hT hA (fun _ => rfl) (fun _ => rfl) rfl rfl rfl rfl e q h8.1 b h1 (Or.inl rfl)
    exact ⟨t.1, by omega, by omega⟩
/-- one more entry -/
theorem at_ct {P U : sS} {n c c2 : Nat} {v : Int} (hA : AT P n c) (e : U = uI P 904 93 (Int32.ofInt v)) (hv : v = Xi P 904 93 + 1) (h0 : 0 ≤ Xi P 904 93 ∧ Xi P 904 93 ≤ 1700) (hc : c = c2 + 1) : AT U n c2 := fun q => by
  have x : ∀ j, j ≠ 93 → Xi U 904 j = Xi P 904 j := fun j hj => by rw [e, Xi_ne (by omega)]
  have x93 : Xi U 904 93 = Xi P 904 93 + 1 := by rw [e, hv]; exact Xi_same ⟨by omega, by omega⟩
  have x7 : ∀ j, Xi U 907 j = Xi P 907 j := fun j => by rw [e, Xi_ne (by omega)]
  have x9 : ∀ j, Xi U 908 j = Xi P 908 j := fun j => by rw [e, Xi_ne (by omega)]
  rw [x 65 (by decide)] at q
  obtain ⟨a, b, d, f⟩ := hA q
  rw [x 8 (by decide), x 69 (by decide), x93, x7, x9]
  exact ⟨a, b, d, by omega⟩
theorem at_tc {S : sS} {n c : Nat} (hA : AT S n c) (hH : HI S) (q : Xi S 904 65 = 0) : Xi S 904 93 + c ≤ 1666 := by
  have t := (hA q).2.2.2
  have u : 0 ≤ Xi S 908 (Xi S 904 8).toNat ∧ Xi S 908 (Xi S 904 8).toNat ≤ 5000 := hH.c 908 _
  omega
theorem KP.w {T U S : sS} {m : Int} {k j : Nat} {v : Int32} (h : KP T S m) (e : U = uI T k j v) (hj : (k < 963 ∨ 965 < k) ∨ m ≤ j) : KP U S m := fun i hi => by
  rw [e, Xi_ne (by omega), Xi_ne (by omega), Xi_ne (by omega)]
  exact h i hi
theorem KP_FR {l : List rec} {T U S : sS} {m : Int} (f : FR l T U) (e : kdis l [(963, 966)] = true) (h : KP T S m) : KP U S m := fun i hi => by
  have q := f.smk e
  rw [q.x 963 rfl, q.x 964 rfl, q.x 965 rfl]
  exact h i hi
theorem KP.rf {S : sS} {m : Int} : KP S S m := fun _ _ => ⟨rfl, rfl, rfl⟩
theorem pv_w {P U : sS} {n i k j : Nat} {v : Int32} (h : PV P n i) (e : U = uI P k j v) (hk : k ≠ 907 ∧ (k = 904 → j ≠ 69) ∧ (k < 952 ∨ 964 < k)) : PV U n i := by
  have x : ∀ a i, a = 963 ∨ a = 964 → Xi U a i = Xi P a i := fun a i c => by rw [e, Xi_ne (by omega)]
  unfold PV
  rw [x 963 i (Or.inl rfl), x 964 i (Or.inr rfl)]
  exact pvt_w h e (by omega)
def md_mo_thing : List rec := [(904, 905, 8, 9), (904, 905, 65, 66), (904, 905, 66, 67), (904, 905, 69, 70), (904, 905, 99, 100), (904, 905, 100, 101), (904, 905, 101, 102), (950, 951, 0, 100000), (951, 952, 0, 100000)]
def md_mo_thingOfTest : List rec := [(904, 905, 8, 9), (904, 905, 65, 66), (904, 905, 66, 67), (904, 905, 69, 70), (904, 905, 99, 100), (904, 905, 100, 101), (904, 905, 101, 102), (950, 951, 0, 100000), (951, 952, 0, 100000), (954, 955, 0, 100000), (955, 956, 0, 100000)]
abbrev Q_mo_beginsOf__2 (S : sS) (n : Nat) (t : Int) : pst := fun r S1 => S = S1 ∧ (∃ z : Int, r = some (iv z) ∧ (0 ≤ z ∧ z ≤ 1) ∧ (z = 1 → Xi S 907 t.toNat = 102))
set_option maxRecDepth 100000 in
theorem t_mo_beginsOf__2 {S : sS} (hH : HI S) (n : Nat) (t : Int) (ht : 0 ≤ t ∧ t ≤ 5001) (hT : TK S n) (ht : t ≤ n) (d : Nat) : Mt lay0 (d + 1) m_mo_beginsOf [.ref 904, iv t] S (Q_mo_beginsOf__2 S n t) := by
  refine Mt_R rfl rfl ?_
  have hn5 := hT.1
  have C17 : ∀ (n17 : Nat) (v2 : Int), (1 ≤ v2 ∧ v2 ≤ 5001) → (t < v2) → (v2 ≤ n) → (Xi S 907 t.toNat = 102) → n17 = (5002 - v2).toNat → Rl lay0 (d + 0) m_mo_beginsOf 17 [(0, .ref 904), (1, iv t), (2, iv v2)] [] S (Q_mo_beginsOf__2 S n t) := by
    intro n17
    induction n17 using Nat.strongRecOn with
    | ind n17 ih17 =>
      intro v2 w1 w2 w3 w4 hm17
      refine l_aload_n rfl rfl ?_
      refine l_gfr rfl rfl rfl rfl rfl (hH.r 904 4 907 rfl) ?_
      refine l_iload_n rfl rfl ?_
      refine l_iaload (n := 5002) rfl rfl (by omega) (by omega) (by unfold rg; omega) ?_
      have w5 : 0 ≤ (Xi S 907 ((v2).toNat)) ∧ (Xi S 907 ((v2).toNat)) ≤ 154 := hH.c _ _
      have u22 : (Xi S 907 ((v2).toNat)) = 3 → v2 < n := fun q => tk_lt hT (by omega) (by omega) (by omega)
      refine l_iconst rfl ?_
      refine l_icmp_ne rfl rfl (by unfold rg; omega) (by unfold rg; omega) (fun w6 => ?_) (fun w7 => ?_)
      · refine l_iload_n rfl rfl ?_
        refine l_iload_n rfl rfl ?_
        refine l_iconst rfl ?_
        refine l_iadd rfl ?_
        refine l_icmp_le rfl rfl (by unfold rg; omega) (by unfold rg; omega) (fun w8 => ?_) (fun w9 => ?_)
        · refine l_iconst rfl ?_
          refine l_ireturn rfl rfl ?_
          exact ⟨rfl, _, rfl, ⟨by omega, by omega⟩, (by omega)⟩
        · refine l_aload_n rfl rfl ?_
          refine l_gfr rfl rfl rfl rfl rfl (hH.r 904 4 907 rfl) ?_
          refine l_iload_n rfl rfl ?_
          refine l_iaload (n := 5002) rfl rfl (by omega) (by omega) (by unfold rg; omega) ?_
          refine l_bipush rfl rfl ?_
          refine l_icmp_ne rfl rfl (by unfold rg; omega) (by unfold rg; omega) (fun w10 => ?_) (fun w11 => ?_)
          · refine l_iconst rfl ?_
            refine l_ireturn rfl rfl ?_
            exact ⟨rfl, _, rfl, ⟨by omega, by omega⟩, (by omega)⟩
          · refine l_iconst rfl ?_
            refine l_goto rfl rfl ?_
            refine l_ireturn rfl rfl ?_
            exact ⟨rfl, _, rfl, ⟨by omega, by omega⟩, (by omega)⟩
      · refine l_iinc rfl rfl rfl rfl ?_
        refine l_goto rfl rfl ?_
        exact Rl_weak (ih17 _ (by omega) ((v2 + 1)) (by omega) (by omega) (by omega) (by omega) rfl) (And.intro rfl (And.intro rfl (And.intro rfl (True.intro))))
  refine l_iload_n rfl rfl ?_
  refine l_iconst rfl ?_
  refine l_iadd rfl ?_
  refine l_istore_n rfl rfl rfl ?_
  refine l_aload_n rfl rfl ?_
  refine l_gfr rfl rfl rfl rfl rfl (hH.r 904 4 907 rfl) ?_
  refine l_iload_n rfl rfl ?_
  refine l_iaload (n := 5002) rfl rfl (by omega) (by omega) (by unfold rg; omega) ?_
  have w12 : 0 ≤ (Xi S 907 ((t).toNat)) ∧ (Xi S 907 ((t).toNat)) ≤ 154 := hH.c _ _
  have u9 : (Xi S 907 ((t).toNat)) = 102 → t < n := fun q => tk_lt hT (by omega) ht (by omega)
  refine l_bipush rfl rfl ?_
  refine l_icmp_eq rfl rfl (by unfold rg; omega) (by unfold rg; omega) (fun w13 => ?_) (fun w14 => ?_)
  · exact Rl_weak (C17 _ ((t + 1)) (by omega) (by omega) (by omega) (by omega) rfl) (And.intro rfl (And.intro rfl (And.intro rfl (True.intro))))
  · refine l_iconst rfl ?_
    refine l_ireturn rfl rfl ?_
    exact ⟨rfl, _, rfl, ⟨by omega, by omega⟩, (by omega)⟩
/-! SAFETY of the reference: cutting into tokens -/
theorem w1b : ∀ b : Fin 32, 0 ≤ lorF (lshlF 0 5) (b.val : Int) ∧ lorF (lshlF 0 5) (b.val : Int) < 32 := by decide +kernel
theorem w2b : ∀ a b : Fin 32, 0 ≤ lorF (lshlF (a.val : Int) 5) (b.val : Int) ∧ lorF (lshlF (a.val : Int) 5) (b.val : Int) < 1024 := by decide +kernel
theorem w1i {x : Int} (h : 0 ≤ x ∧ x < 32) : 0 ≤ lorF (lshlF 0 5) x ∧ lorF (lshlF 0 5) x < 32 := by
  have t := w1b ⟨x.toNat, by omega⟩
  rw [show ((x.toNat : Nat) : Int) = x by omega] at t
  exact t
theorem w2i {a x : Int} (ha : 0 ≤ a ∧ a < 32) (h : 0 ≤ x ∧ x < 32) : 0 ≤ lorF (lshlF a 5) x ∧ lorF (lshlF a 5) x < 1024 := by
  have t := w2b ⟨a.toNat, by omega⟩ ⟨x.toNat, by omega⟩
  rw [show ((x.toNat : Nat) : Int) = x by omega, show ((a.toNat : Nat) : Int) = a by omega] at t
  exact t
theorem ltr1 {c : Int} (h : ltr c = 1) : 97 ≤ sml c ∧ sml c ≤ 122 := by
  unfold ltr at h
  split at h
  · assumption
  · exact absurd h (by decide)
/-- key words of three letters and more are large -/
def KWM (S : sS) : Prop := ∀ k : Int, 100 ≤ k → k ≤ 154 → K3 k → 1024 ≤ Xj S 911 (k - 100).toNat
/-- the tokens before m; p lies behind the last of them -/
def CT (S : sS) (m p : Int) : Prop := (∀ i : Nat, (i : Int) < m → Xi S 907 i ≠ 1 ∧ (Xi S 907 i = 5 → Xi S 908 i + 1 + Xi S 909 i ≤ 5000)) ∧ (∀ i : Nat, (i : Int) + 1 < m → Xi S 908 i < Xi S 908 (i + 1) ∧ (K3 (Xi S 907 i) → Xi S 908 i + 3 ≤ Xi S 908 (i + 1))) ∧ (∀ i : Nat, (i : Int) + 1 = m → Xi S 908 i < p ∧ (K3 (Xi S 907 i) → Xi S 908 i + 3 ≤ p))
theorem CT.le {S : sS} {m p p2 : Int} (h : CT S m p) (e : p ≤ p2) : CT S m p2 := ⟨h.1, h.2.1, fun i hi => by
  obtain ⟨a, b⟩ := h.2.2 i hi
  exact ⟨by omega, fun q => by have := b q; omega⟩⟩
theorem CT.mv {S T : sS} {m p : Int} (h : CT S m p) (x : ∀ k : Nat, 907 ≤ k → k ≤ 909 → ∀ i : Nat, (i : Int) < m → Xi T k i = Xi S k i) : CT T m p := by
  refine ⟨fun i hi => ?_, fun i hi => ?_, fun i hi => ?_⟩
  · rw [x 907 (by omega) (by omega) i hi, x 908 (by omega) (by omega) i hi, x 909 (by omega) (by omega) i hi]; exact h.1 i hi
  · rw [x 907 (by omega) (by omega) i (by omega), x 908 (by omega) (by omega) i (by omega), x 908 (by omega) (by omega) (i + 1) (by omega)]; exact h.2.1 i hi
  · rw [x 907 (by omega) (by omega) i (by omega), x 908 (by omega) (by omega) i (by omega)]; exact h.2.2 i hi
theorem CT.w {S U : sS} {m p : Int} {k j : Nat} {v : Int32} (h : CT S m p) (e : U = uI S k j v) (hj : m ≤ j) : CT U m p := h.mv (fun k2 _ _ i hi => by rw [e, Xi_ne (by omega)])
theorem CT.add {S : sS} {m p q : Int} (h : CT S m p) (h0 : 0 ≤ m) (hp : Xi S 908 m.toNat = p) (h1 : Xi S 907 m.toNat ≠ 1) (h5 : Xi S 907 m.toNat = 5 → p + 1 + Xi S 909 m.toNat ≤ 5000) (hq : p < q) (hk : K3 (Xi S 907 m.toNat) → p + 3 ≤ q) : CT S (m + 1) q := by
  refine ⟨fun i hi => ?_, fun i hi => ?_, fun i hi => ?_⟩
  · rcases (by omega : (i : Int) < m ∨ i = m.toNat) with c | c
    · exact h.1 i c
    · rw [c]; exact ⟨h1, fun z => by have := h5 z; omega⟩
  · rcases (by omega : (i : Int) + 1 < m ∨ (i : Int) + 1 = m) with c | c
    · exact h.2.1 i c
    · rw [show i + 1 = m.toNat by omega, hp]; exact h.2.2 i c
  · rw [show i = m.toNat by omega, hp]; exact ⟨hq, hk⟩
theorem CT.rf {S : sS} {p : Int} : CT S 0 p := ⟨fun i hi => absurd hi (by omega), fun i hi => absurd hi (by omega), fun i hi => absurd hi (by omega)⟩
/-- texts lie within the story -/
def TXK (S : sS) (n : Nat) : Prop := ∀ i : Nat, i < n → Xi S 907 i = 5 → Xi S 908 i + 1 + Xi S 909 i ≤ 5000
theorem ct_tk {S U1 U2 : sS} {m p : Int} {a b : Int} {j : Nat} (h : CT S m p) (h0 : 0 ≤ m) (hm : m ≤ 5000) (e1 : U1 = uI S 907 j (Int32.ofInt a)) (e2 : U2 = uI U1 908 j (Int32.ofInt b)) (hj : j = m.toNat) (ha : a = 1) (hb : b = p) (hp : 0 ≤ p ∧ p ≤ 5000) : TK U2 m.toNat ∧ TXK U2 m.toNat := by
  have c : CT U2 m p := (h.w e1 (by omega)).w e2 (by omega)
  have x7 : Xi U2 907 m.toNat = 1 := by rw [e2, Xi_ne (by omega), e1, hj, ha]; exact Xi_same ⟨by omega, by omega⟩
  have x8 : Xi U2 908 m.toNat = p := by rw [e2, hj, hb]; exact Xi_same ⟨by omega, by omega⟩
  refine ⟨⟨by omega, x7, fun i hi => (c.1 i (by omega)).1, fun i hi => ?_⟩, fun i hi => (c.1 i (by omega)).2⟩
  rcases (by omega : (i : Int) + 1 < m ∨ (i : Int) + 1 = m) with q | q
  · exact c.2.1 i q
  · rw [show i + 1 = m.toNat by omega, x8]; exact c.2.2 i q
theorem TXK_FR {l : List rec} {S T : sS} {n : Nat} (h : FR l S T) (e : kdis l [(907, 910)] = true) (hT : TXK S n) : TXK T n := by
  have k := h.smk e
  unfold TXK
  simp only [k.x 907 rfl, k.x 908 rfl, k.x 909 rfl]
  exact hT
