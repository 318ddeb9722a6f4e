/-! SAFETY of methods: printed by wip/safe (vc.py, decl.py) -/
abbrev Q_mo_mean (S : sS) (t : Int) (m : Int) : pst := fun r S1 => S = S1 ∧ (∃ z : Int, r = some (iv z) ∧ (-1 ≤ z ∧ z ≤ 299) ∧ (z ≠ -1 → z < Xi S 904 15))
set_option maxRecDepth 100000 in
theorem t_mo_mean {S : sS} (hH : HI S) (t : Int) (m : Int) (ht : 0 ≤ t ∧ t ≤ 5001) (hm : -2147483648 ≤ m ∧ m ≤ 2147483647) (hn : m ≤ 3 → t + m ≤ 5002) (d : Nat) : Mt lay0 (d + 2) m_mo_mean [.ref 904, iv t, iv m] S (Q_mo_mean S t m) := by
  refine Mt_R rfl rfl ?_
  have w1 : 0 ≤ Xi S 904 15 ∧ Xi S 904 15 ≤ 300 := hH.c _ _
  refine l_iload_n rfl rfl ?_
  refine l_iconst rfl ?_
  refine l_icmp_lt rfl rfl (by unfold rg; omega) (by unfold rg; omega) (fun w2 => ?_) (fun w3 => ?_)
  · refine l_iconst rfl ?_
    refine l_goto rfl rfl ?_
    refine l_ireturn rfl rfl ?_
    exact ⟨rfl, _, rfl, ⟨by omega, by omega⟩, (by first | assumption | omega)⟩
  · refine l_iload_n rfl rfl ?_
    refine l_iconst rfl ?_
    refine l_icmp_le rfl rfl (by unfold rg; omega) (by unfold rg; omega) (fun w4 => ?_) (fun w5 => ?_)
    · refine l_aload_n rfl rfl ?_
      refine l_aload_n rfl rfl ?_
      refine l_gfr rfl rfl rfl rfl rfl (hH.r 904 7 910 rfl) ?_
      refine l_iload_n rfl rfl ?_
      refine l_laload (n := 5002) rfl rfl (by omega) (by omega) (by unfold rg; omega) ?_
      have w6 : -9223372036854775808 ≤ (Xj S 910 ((t).toNat)) ∧ (Xj S 910 ((t).toNat)) < 9223372036854775808 := Xj_rg
      refine l_iload_n rfl rfl ?_
      refine l_iconst rfl ?_
      refine l_icmp_le rfl rfl (by unfold rg; omega) (by unfold rg; omega) (fun w7 => ?_) (fun w8 => ?_)
      · refine l_lconst (z := 0) rfl rfl ?_
        refine l_iload_n rfl rfl ?_
        refine l_iconst rfl ?_
        refine l_icmp_le rfl rfl (by unfold rg; omega) (by unfold rg; omega) (fun w9 => ?_) (fun w10 => ?_)
        · refine l_lconst (z := 0) rfl rfl ?_
          refine l_iload_n rfl rfl ?_
          have w11 : 0 ≤ Xi S 904 15 ∧ Xi S 904 15 ≤ 300 := hH.c _ _
          refine l_callV rfl rfl rfl (t_mo_find hH (Xj S 910 ((t).toNat)) 0 0 m ⟨by omega, by omega⟩ _) ?_
          rintro _ _ ⟨rfl, z13, rfl, w13, w12⟩
          show Rl _ _ _ _ _ [iv z13] _ _
          refine l_ireturn rfl rfl ?_
          exact ⟨rfl, _, rfl, ⟨by omega, by omega⟩, (by first | assumption | omega)⟩
        · refine l_aload_n rfl rfl ?_
          refine l_gfr rfl rfl rfl rfl rfl (hH.r 904 7 910 rfl) ?_
          refine l_iload_n rfl rfl ?_
          refine l_iconst rfl ?_
          refine l_iadd rfl ?_
          refine l_laload (n := 5002) rfl rfl (by omega) (by omega) (by unfold rg; omega) ?_
          have w14 : -9223372036854775808 ≤ (Xj S 910 (((t + 2)).toNat)) ∧ (Xj S 910 (((t + 2)).toNat)) < 9223372036854775808 := Xj_rg
          refine l_goto rfl rfl ?_
          refine l_iload_n rfl rfl ?_
          have w15 : 0 ≤ Xi S 904 15 ∧ Xi S 904 15 ≤ 300 := hH.c _ _
          refine l_callV rfl rfl rfl (t_mo_find hH (Xj S 910 ((t).toNat)) 0 (Xj S 910 (((t + 2)).toNat)) m ⟨by omega, by omega⟩ _) ?_
          rintro _ _ ⟨rfl, z17, rfl, w17, w16⟩
          show Rl _ _ _ _ _ [iv z17] _ _
          refine l_ireturn rfl rfl ?_
          exact ⟨rfl, _, rfl, ⟨by omega, by omega⟩, (by first | assumption | omega)⟩
      · refine l_aload_n rfl rfl ?_
        refine l_gfr rfl rfl rfl rfl rfl (hH.r 904 7 910 rfl) ?_
        refine l_iload_n rfl rfl ?_
        refine l_iconst rfl ?_
        refine l_iadd rfl ?_
        refine l_laload (n := 5002) rfl rfl (by omega) (by omega) (by unfold rg; omega) ?_
        have w18 : -9223372036854775808 ≤ (Xj S 910 (((t + 1)).toNat)) ∧ (Xj S 910 (((t + 1)).toNat)) < 9223372036854775808 := Xj_rg
        refine l_goto rfl rfl ?_
        refine l_iload_n rfl rfl ?_
        refine l_iconst rfl ?_
        refine l_icmp_le rfl rfl (by unfold rg; omega) (by unfold rg; omega) (fun w19 => ?_) (fun w20 => ?_)
        · refine l_lconst (z := 0) rfl rfl ?_
          refine l_iload_n rfl rfl ?_
          have w21 : 0 ≤ Xi S 904 15 ∧ Xi S 904 15 ≤ 300 := hH.c _ _
          refine l_callV rfl rfl rfl (t_mo_find hH (Xj S 910 ((t).toNat)) (Xj S 910 (((t + 1)).toNat)) 0 m ⟨by omega, by omega⟩ _) ?_
          rintro _ _ ⟨rfl, z23, rfl, w23, w22⟩
          show Rl _ _ _ _ _ [iv z23] _ _
          refine l_ireturn rfl rfl ?_
          exact ⟨rfl, _, rfl, ⟨by omega, by omega⟩, (by first | assumption | omega)⟩
        · refine l_aload_n rfl rfl ?_
          refine l_gfr rfl rfl rfl rfl rfl (hH.r 904 7 910 rfl) ?_
          refine l_iload_n rfl rfl ?_
          refine l_iconst rfl ?_
          refine l_iadd rfl ?_
          refine l_laload (n := 5002) rfl rfl (by omega) (by omega) (by unfold rg; omega) ?_
          have w24 : -9223372036854775808 ≤ (Xj S 910 (((t + 2)).toNat)) ∧ (Xj S 910 (((t + 2)).toNat)) < 9223372036854775808 := Xj_rg
          refine l_goto rfl rfl ?_
          refine l_iload_n rfl rfl ?_
          have w25 : 0 ≤ Xi S 904 15 ∧ Xi S 904 15 ≤ 300 := hH.c _ _
          refine l_callV rfl rfl rfl (t_mo_find hH (Xj S 910 ((t).toNat)) (Xj S 910 (((t + 1)).toNat)) (Xj S 910 (((t + 2)).toNat)) m ⟨by omega, by omega⟩ _) ?_
          rintro _ _ ⟨rfl, z27, rfl, w27, w26⟩
          show Rl _ _ _ _ _ [iv z27] _ _
          refine l_ireturn rfl rfl ?_
          exact ⟨rfl, _, rfl, ⟨by omega, by omega⟩, (by first | assumption | omega)⟩
    · refine l_iconst rfl ?_
      refine l_goto rfl rfl ?_
      refine l_ireturn rfl rfl ?_
      exact ⟨rfl, _, rfl, ⟨by omega, by omega⟩, (by first | assumption | omega)⟩
abbrev Q_mo_means (S : sS) (t : Int) (m : Int) (so : Int) : pst := fun r S1 => S = S1 ∧ (∃ z : Int, r = some (iv z) ∧ (-1 ≤ z ∧ z ≤ 63) ∧ (z ≠ -1 → z < cM S so))
set_option maxRecDepth 100000 in
theorem t_mo_means {S : sS} (hH : HI S) (t : Int) (m : Int) (so : Int) (ht : 0 ≤ t ∧ t ≤ 5001) (hm : -2147483648 ≤ m ∧ m ≤ 2147483647) (hso : 0 ≤ so ∧ so ≤ 12) (hn : m ≤ 3 → t + m ≤ 5002) (hM : LXM S) (d : Nat) : Mt lay0 (d + 3) m_mo_means [.ref 904, iv t, iv m, iv so] S (Q_mo_means S t m so) := by
  refine Mt_R rfl rfl ?_
  refine l_aload_n rfl rfl ?_
  refine l_iload_n rfl rfl ?_
  refine l_iload_n rfl rfl ?_
  have w1 : 0 ≤ Xi S 904 15 ∧ Xi S 904 15 ≤ 300 := hH.c _ _
  refine l_callV rfl rfl rfl (t_mo_mean hH t m ⟨by omega, by omega⟩ ⟨by omega, by omega⟩ (by first | assumption | omega) _) ?_
  rintro _ _ ⟨rfl, z3, rfl, w3, w2⟩
  show Rl _ _ _ _ _ [iv z3] _ _
  refine l_istore rfl rfl rfl ?_
  refine l_iload rfl rfl ?_
  refine l_iconst rfl ?_
  refine l_icmp_eq rfl rfl (by unfold rg; omega) (by unfold rg; omega) (fun w4 => ?_) (fun w5 => ?_)
  · refine l_iconst rfl ?_
    refine l_ireturn rfl rfl ?_
    exact ⟨rfl, _, rfl, ⟨by omega, by omega⟩, (by first | omega | (intro _; exact x31))⟩
  · refine l_aload_n rfl rfl ?_
    refine l_gfr rfl rfl rfl rfl rfl (hH.r 904 12 914 rfl) ?_
    refine l_iload rfl rfl ?_
    refine l_iaload (n := 300) rfl rfl (by omega) (by omega) (by unfold rg; omega) ?_
    have w6 : 0 ≤ (Xi S 914 ((z3).toNat)) ∧ (Xi S 914 ((z3).toNat)) ≤ 12 := hH.c _ _
    refine l_iload_n rfl rfl ?_
    refine l_icmp_ne rfl rfl (by unfold rg; omega) (by unfold rg; omega) (fun w7 => ?_) (fun w8 => ?_)
    · refine l_iconst rfl ?_
      refine l_ireturn rfl rfl ?_
      exact ⟨rfl, _, rfl, ⟨by omega, by omega⟩, (by first | omega | (intro _; exact x31))⟩
    · refine l_aload_n rfl rfl ?_
      refine l_gfr rfl rfl rfl rfl rfl (hH.r 904 13 915 rfl) ?_
      refine l_iload rfl rfl ?_
      refine l_iaload (n := 300) rfl rfl (by omega) (by omega) (by unfold rg; omega) ?_
      have w9 : 0 ≤ (Xi S 915 ((z3).toNat)) ∧ (Xi S 915 ((z3).toNat)) ≤ 63 := hH.c _ _
      have x31 : (Xi S 915 ((z3).toNat)) < cM S so := lxm (s := so) hM (k := z3) (by omega) (by omega) (by omega)
      refine l_goto rfl rfl ?_
      refine l_ireturn rfl rfl ?_
      exact ⟨rfl, _, rfl, ⟨by omega, by omega⟩, (by first | omega | (intro _; exact x31))⟩
abbrev Q_mo_meansRun (S : sS) (n : Nat) (rn : Int) (so : Int) : pst := fun r S1 => S = S1 ∧ (∃ z : Int, r = some (iv z) ∧ (-1 ≤ z ∧ z ≤ 63) ∧ (z ≠ -1 → z < cM S so))
set_option maxRecDepth 100000 in
theorem t_mo_meansRun {S : sS} (hH : HI S) (n : Nat) (rn : Int) (so : Int) (hrn : 0 ≤ rn ∧ rn ≤ 2599) (hso : 0 ≤ so ∧ so ≤ 12) (hT : TK S n) (hv : RNV S n) (hrr : rn < Xi S 904 69) (hM : LXM S) (d : Nat) : Mt lay0 (d + 4) m_mo_meansRun [.ref 904, iv rn, iv so] S (Q_mo_meansRun S n rn so) := by
  refine Mt_R rfl rfl ?_
  have w1 : 0 ≤ Xi S 904 69 ∧ Xi S 904 69 ≤ 2600 := hH.c _ _
  have hn5 := hT.1
  have hq := hv rn.toNat (by omega)
  have hq0 : 0 ≤ Xi S 950 rn.toNat ∧ Xi S 950 rn.toNat ≤ 5010 := hH.c 950 rn.toNat
  have hc69 : 0 ≤ Xi S 904 69 ∧ Xi S 904 69 ≤ 2600 := hH.c _ _
  refine l_aload_n rfl rfl ?_
  refine l_aload_n rfl rfl ?_
  refine l_gfr rfl rfl rfl rfl rfl (hH.r 904 67 950 rfl) ?_
  refine l_iload_n rfl rfl ?_
  refine l_iaload (n := 2600) rfl rfl (by omega) (by omega) (by unfold rg; omega) ?_
  have w2 : 0 ≤ (Xi S 950 ((rn).toNat)) ∧ (Xi S 950 ((rn).toNat)) ≤ 5010 := hH.c _ _
  refine l_aload_n rfl rfl ?_
  refine l_gfr rfl rfl rfl rfl rfl (hH.r 904 68 951 rfl) ?_
  refine l_iload_n rfl rfl ?_
  refine l_iaload (n := 2600) rfl rfl (by omega) (by omega) (by unfold rg; omega) ?_
  have w3 : 0 ≤ (Xi S 951 ((rn).toNat)) ∧ (Xi S 951 ((rn).toNat)) ≤ 5010 := hH.c _ _
  refine l_iload_n rfl rfl ?_
  refine l_callV rfl rfl rfl (t_mo_means hH (Xi S 950 ((rn).toNat)) (Xi S 951 ((rn).toNat)) so ⟨by omega, by omega⟩ ⟨by omega, by omega⟩ ⟨by omega, by omega⟩ (by first | assumption | omega) (by first | assumption | exact (by assumption : LXM S)) _) ?_
  rintro _ _ ⟨rfl, z5, rfl, w5, w4⟩
  show Rl _ _ _ _ _ [iv z5] _ _
  refine l_ireturn rfl rfl ?_
  exact ⟨rfl, _, rfl, ⟨by omega, by omega⟩, (by assumption)⟩
def md_mo_note : List rec := [(904, 905, 104, 105), (904, 905, 105, 106), (904, 905, 106, 107)]
abbrev Q_mo_note (S : sS) (f : Int) (t : Int) : pst := fun r S1 => HI S1 ∧ FR md_mo_note S S1 ∧ (r = none ∧ (f ≠ 0 → Xi S1 904 106 ≠ 0))
set_option maxRecDepth 100000 in
theorem t_mo_note {S : sS} (hH : HI S) (f : Int) (t : Int) (hf : 0 ≤ f ∧ f ≤ 9) (ht : 0 ≤ t ∧ t ≤ 5001) (d : Nat) : Mt lay0 (d + 2) m_mo_note [.ref 904, iv f, iv t] S (Q_mo_note S f t) := by
  refine Mt_R rfl rfl ?_
  have hF : FR md_mo_note S S := FR.rf
  refine l_aload_n rfl rfl ?_
  refine l_gfr rfl rfl rfl rfl rfl (hH.r 904 5 908 rfl) ?_
  refine l_iload_n rfl rfl ?_
  refine l_iaload (n := 5002) rfl rfl (by omega) (by omega) (by unfold rg; omega) ?_
  have w1 : 0 ≤ (Xi S 908 ((t).toNat)) ∧ (Xi S 908 ((t).toNat)) ≤ 5000 := hH.c _ _
  refine l_istore_n rfl rfl rfl ?_
  refine l_aload_n rfl rfl ?_
  refine l_gfi rfl rfl rfl rfl rfl ?_
  have w2 : 0 ≤ (Xi S 904 106) ∧ (Xi S 904 106) ≤ 9 := hH.c _ _
  refine l_if_eq rfl rfl (by unfold rg; omega) (fun w3 => ?_) (fun w4 => ?_)
  · refine l_aload_n rfl rfl ?_
    refine l_iload_n rfl rfl ?_
    refine l_pfi rfl rfl rfl rfl ?_
    obtain ⟨U1, eU1⟩ : ∃ T : sS, T = uI S 904 106 (Int32.ofInt f) := ⟨_, rfl⟩
    rw [← eU1]
    have hHU1 : HI U1 := by rw [eU1]; exact HI_w hH (show 0 ≤ f by omega) (show f ≤ 9 by omega)
    have hFU1 : FR md_mo_note S U1 := by rw [eU1]; exact FR.wI hF (mdf_i (r := (904, 905, 106, 107)) (List.mem_of_getElem? (i := 2) rfl) (inR_i (by omega) (by omega) (by omega) (by omega)))
    have w5 : Xi U1 904 106 = f := by rw [eU1]; exact Xi_same (by unfold rg; omega)
    refine l_aload_n rfl rfl ?_
    refine l_iload_n rfl rfl ?_
    refine l_pfi rfl rfl rfl rfl ?_
    obtain ⟨U2, eU2⟩ : ∃ T : sS, T = uI U1 904 105 (Int32.ofInt (Xi S 908 ((t).toNat))) := ⟨_, rfl⟩
    rw [← eU2]
    have hHU2 : HI U2 := by rw [eU2]; exact HI_w hHU1 (show 0 ≤ (Xi S 908 ((t).toNat)) by omega) (show (Xi S 908 ((t).toNat)) ≤ 5000 by omega)
    have hFU2 : FR md_mo_note S U2 := by rw [eU2]; exact FR.wI hFU1 (mdf_i (r := (904, 905, 105, 106)) (List.mem_of_getElem? (i := 1) rfl) (inR_i (by omega) (by omega) (by omega) (by omega)))
    have w6 : Xi U2 904 105 = (Xi S 908 ((t).toNat)) := by rw [eU2]; exact Xi_same (by unfold rg; omega)
    refine l_aload_n rfl rfl ?_
    refine l_iload_n rfl rfl ?_
    have w7 : Xi U2 904 106 = Xi U1 904 106 := (show Xi U2 904 106 = Xi U1 904 106 from by rw [eU2]; exact Xi_ne (by omega))
    have w8 : 0 ≤ Xi U1 904 106 ∧ Xi U1 904 106 ≤ 9 := hHU1.c _ _
    refine l_callS rfl rfl (by decide) rfl (t_mo_rank hHU2 f ⟨by omega, by omega⟩ _) ?_
    rintro _ _ ⟨rfl, z9, rfl, w9⟩
    show Rl _ _ _ _ _ [iv z9, .ref 904] _ _
    refine l_pfi rfl rfl rfl rfl ?_
    obtain ⟨U3, eU3⟩ : ∃ T : sS, T = uI U2 904 104 (Int32.ofInt z9) := ⟨_, rfl⟩
    rw [← eU3]
    have hHU3 : HI U3 := by rw [eU3]; exact HI_w hHU2 (show 0 ≤ z9 by omega) (show z9 ≤ 4 by omega)
    have hFU3 : FR md_mo_note S U3 := by rw [eU3]; exact FR.wI hFU2 (mdf_i (r := (904, 905, 104, 105)) (List.mem_of_getElem? (i := 0) rfl) (inR_i (by omega) (by omega) (by omega) (by omega)))
    have w10 : Xi U3 904 104 = z9 := by rw [eU3]; exact Xi_same (by unfold rg; omega)
    refine l_return rfl rfl ?_
    have w11 : Xi U3 904 106 = Xi U1 904 106 := (show Xi U3 904 106 = Xi U2 904 106 from by rw [eU3]; exact Xi_ne (by omega)).trans ((show Xi U2 904 106 = Xi U1 904 106 from by rw [eU2]; exact Xi_ne (by omega)))
    have w12 : 0 ≤ Xi U1 904 106 ∧ Xi U1 904 106 ≤ 9 := hHU1.c _ _
    exact ⟨hHU3, hFU3, rfl, (by first | assumption | omega)⟩
  · refine l_iload_n rfl rfl ?_
    refine l_aload_n rfl rfl ?_
    refine l_gfi rfl rfl rfl rfl rfl ?_
    have w13 : 0 ≤ (Xi S 904 105) ∧ (Xi S 904 105) ≤ 5000 := hH.c _ _
    refine l_icmp_lt rfl rfl (by unfold rg; omega) (by unfold rg; omega) (fun w14 => ?_) (fun w15 => ?_)
    · refine l_aload_n rfl rfl ?_
      refine l_iload_n rfl rfl ?_
      refine l_pfi rfl rfl rfl rfl ?_
      obtain ⟨U4, eU4⟩ : ∃ T : sS, T = uI S 904 106 (Int32.ofInt f) := ⟨_, rfl⟩
      rw [← eU4]
      have hHU4 : HI U4 := by rw [eU4]; exact HI_w hH (show 0 ≤ f by omega) (show f ≤ 9 by omega)
      have hFU4 : FR md_mo_note S U4 := by rw [eU4]; exact FR.wI hF (mdf_i (r := (904, 905, 106, 107)) (List.mem_of_getElem? (i := 2) rfl) (inR_i (by omega) (by omega) (by omega) (by omega)))
      have w16 : Xi U4 904 106 = f := by rw [eU4]; exact Xi_same (by unfold rg; omega)
      refine l_aload_n rfl rfl ?_
      refine l_iload_n rfl rfl ?_
      refine l_pfi rfl rfl rfl rfl ?_
      obtain ⟨U5, eU5⟩ : ∃ T : sS, T = uI U4 904 105 (Int32.ofInt (Xi S 908 ((t).toNat))) := ⟨_, rfl⟩
      rw [← eU5]
      have hHU5 : HI U5 := by rw [eU5]; exact HI_w hHU4 (show 0 ≤ (Xi S 908 ((t).toNat)) by omega) (show (Xi S 908 ((t).toNat)) ≤ 5000 by omega)
      have hFU5 : FR md_mo_note S U5 := by rw [eU5]; exact FR.wI hFU4 (mdf_i (r := (904, 905, 105, 106)) (List.mem_of_getElem? (i := 1) rfl) (inR_i (by omega) (by omega) (by omega) (by omega)))
      have w17 : Xi U5 904 105 = (Xi S 908 ((t).toNat)) := by rw [eU5]; exact Xi_same (by unfold rg; omega)
      refine l_aload_n rfl rfl ?_
      refine l_iload_n rfl rfl ?_
      have w18 : Xi U5 904 106 = Xi U4 904 106 := (show Xi U5 904 106 = Xi U4 904 106 from by rw [eU5]; exact Xi_ne (by omega))
      have w19 : 0 ≤ Xi U4 904 106 ∧ Xi U4 904 106 ≤ 9 := hHU4.c _ _
      refine l_callS rfl rfl (by decide) rfl (t_mo_rank hHU5 f ⟨by omega, by omega⟩ _) ?_
      rintro _ _ ⟨rfl, z20, rfl, w20⟩
      show Rl _ _ _ _ _ [iv z20, .ref 904] _ _
      refine l_pfi rfl rfl rfl rfl ?_
      obtain ⟨U6, eU6⟩ : ∃ T : sS, T = uI U5 904 104 (Int32.ofInt z20) := ⟨_, rfl⟩
      rw [← eU6]
      have hHU6 : HI U6 := by rw [eU6]; exact HI_w hHU5 (show 0 ≤ z20 by omega) (show z20 ≤ 4 by omega)
      have hFU6 : FR md_mo_note S U6 := by rw [eU6]; exact FR.wI hFU5 (mdf_i (r := (904, 905, 104, 105)) (List.mem_of_getElem? (i := 0) rfl) (inR_i (by omega) (by omega) (by omega) (by omega)))
      have w21 : Xi U6 904 104 = z20 := by rw [eU6]; exact Xi_same (by unfold rg; omega)
      refine l_return rfl rfl ?_
      have w22 : Xi U6 904 106 = Xi U4 904 106 := (show Xi U6 904 106 = Xi U5 904 106 from by rw [eU6]; exact Xi_ne (by omega)).trans ((show Xi U5 904 106 = Xi U4 904 106 from by rw [eU5]; exact Xi_ne (by omega)))
      have w23 : 0 ≤ Xi U4 904 106 ∧ Xi U4 904 106 ≤ 9 := hHU4.c _ _
      exact ⟨hHU6, hFU6, rfl, (by first | assumption | omega)⟩
    · refine l_iload_n rfl rfl ?_
      refine l_aload_n rfl rfl ?_
      refine l_gfi rfl rfl rfl rfl rfl ?_
      refine l_icmp_ne rfl rfl (by unfold rg; omega) (by unfold rg; omega) (fun w24 => ?_) (fun w25 => ?_)
      · refine l_return rfl rfl ?_
        have w26 : 0 ≤ Xi S 904 106 ∧ Xi S 904 106 ≤ 9 := hH.c _ _
        exact ⟨hH, hF, rfl, (by first | assumption | omega)⟩
      · refine l_iload_n rfl rfl ?_
        have w27 : 0 ≤ Xi S 904 106 ∧ Xi S 904 106 ≤ 9 := hH.c _ _
        refine l_callS rfl rfl (by decide) rfl (t_mo_rank hH f ⟨by omega, by omega⟩ _) ?_
        rintro _ _ ⟨rfl, z28, rfl, w28⟩
        show Rl _ _ _ _ _ [iv z28] _ _
        refine l_aload_n rfl rfl ?_
        refine l_gfi rfl rfl rfl rfl rfl ?_
        have w29 : 0 ≤ (Xi S 904 104) ∧ (Xi S 904 104) ≤ 4 := hH.c _ _
        refine l_icmp_ge rfl rfl (by unfold rg; omega) (by unfold rg; omega) (fun w30 => ?_) (fun w31 => ?_)
        · refine l_return rfl rfl ?_
          have w32 : 0 ≤ Xi S 904 106 ∧ Xi S 904 106 ≤ 9 := hH.c _ _
          exact ⟨hH, hF, rfl, (by first | assumption | omega)⟩
        · refine l_aload_n rfl rfl ?_
          refine l_iload_n rfl rfl ?_
          refine l_pfi rfl rfl rfl rfl ?_
          obtain ⟨U7, eU7⟩ : ∃ T : sS, T = uI S 904 106 (Int32.ofInt f) := ⟨_, rfl⟩
          rw [← eU7]
          have hHU7 : HI U7 := by rw [eU7]; exact HI_w hH (show 0 ≤ f by omega) (show f ≤ 9 by omega)
          have hFU7 : FR md_mo_note S U7 := by rw [eU7]; exact FR.wI hF (mdf_i (r := (904, 905, 106, 107)) (List.mem_of_getElem? (i := 2) rfl) (inR_i (by omega) (by omega) (by omega) (by omega)))
          have w33 : Xi U7 904 106 = f := by rw [eU7]; exact Xi_same (by unfold rg; omega)
          refine l_aload_n rfl rfl ?_
          refine l_iload_n rfl rfl ?_
          refine l_pfi rfl rfl rfl rfl ?_
          obtain ⟨U8, eU8⟩ : ∃ T : sS, T = uI U7 904 105 (Int32.ofInt (Xi S 908 ((t).toNat))) := ⟨_, rfl⟩
          rw [← eU8]
          have hHU8 : HI U8 := by rw [eU8]; exact HI_w hHU7 (show 0 ≤ (Xi S 908 ((t).toNat)) by omega) (show (Xi S 908 ((t).toNat)) ≤ 5000 by omega)
          have hFU8 : FR md_mo_note S U8 := by rw [eU8]; exact FR.wI hFU7 (mdf_i (r := (904, 905, 105, 106)) (List.mem_of_getElem? (i := 1) rfl) (inR_i (by omega) (by omega) (by omega) (by omega)))
          have w34 : Xi U8 904 105 = (Xi S 908 ((t).toNat)) := by rw [eU8]; exact Xi_same (by unfold rg; omega)
          refine l_aload_n rfl rfl ?_
          refine l_iload_n rfl rfl ?_
          have w35 : Xi U8 904 106 = Xi U7 904 106 := (show Xi U8 904 106 = Xi U7 904 106 from by rw [eU8]; exact Xi_ne (by omega))
          have w36 : 0 ≤ Xi U7 904 106 ∧ Xi U7 904 106 ≤ 9 := hHU7.c _ _
          refine l_callS rfl rfl (by decide) rfl (t_mo_rank hHU8 f ⟨by omega, by omega⟩ _) ?_
          rintro _ _ ⟨rfl, z37, rfl, w37⟩
          show Rl _ _ _ _ _ [iv z37, .ref 904] _ _
          refine l_pfi rfl rfl rfl rfl ?_
          obtain ⟨U9, eU9⟩ : ∃ T : sS, T = uI U8 904 104 (Int32.ofInt z37) := ⟨_, rfl⟩
          rw [← eU9]
          have hHU9 : HI U9 := by rw [eU9]; exact HI_w hHU8 (show 0 ≤ z37 by omega) (show z37 ≤ 4 by omega)
          have hFU9 : FR md_mo_note S U9 := by rw [eU9]; exact FR.wI hFU8 (mdf_i (r := (904, 905, 104, 105)) (List.mem_of_getElem? (i := 0) rfl) (inR_i (by omega) (by omega) (by omega) (by omega)))
          have w38 : Xi U9 904 104 = z37 := by rw [eU9]; exact Xi_same (by unfold rg; omega)
          refine l_return rfl rfl ?_
          have w39 : Xi U9 904 106 = Xi U7 904 106 := (show Xi U9 904 106 = Xi U8 904 106 from by rw [eU9]; exact Xi_ne (by omega)).trans ((show Xi U8 904 106 = Xi U7 904 106 from by rw [eU8]; exact Xi_ne (by omega)))
          have w40 : 0 ≤ Xi U7 904 106 ∧ Xi U7 904 106 ≤ 9 := hHU7.c _ _
          exact ⟨hHU9, hFU9, rfl, (by first | assumption | omega)⟩
def md_mo_need : List rec := [(904, 905, 104, 105), (904, 905, 105, 106), (904, 905, 106, 107)]
abbrev Q_mo_need (S : sS) (g : Int) (f : Int) (t : Int) : pst := fun r S1 => HI S1 ∧ FR md_mo_need S S1 ∧ (r = none ∧ (g = 0 → Xi S1 904 106 ≠ 0) ∧ (Xi S 904 106 ≠ 0 → Xi S1 904 106 ≠ 0))
set_option maxRecDepth 100000 in
theorem t_mo_need {S : sS} (hH : HI S) (g : Int) (f : Int) (t : Int) (hg : 0 ≤ g ∧ g ≤ 1) (hf : 1 ≤ f ∧ f ≤ 9) (ht : 0 ≤ t ∧ t ≤ 5001) (d : Nat) : Mt lay0 (d + 3) m_mo_need [.ref 904, iv g, iv f, iv t] S (Q_mo_need S g f t) := by
  refine Mt_R rfl rfl ?_
  have hF : FR md_mo_need S S := FR.rf
  have w1 : 0 ≤ Xi S 904 106 ∧ Xi S 904 106 ≤ 9 := hH.c _ _
  refine l_iload_n rfl rfl ?_
  refine l_if_ne rfl rfl (by unfold rg; omega) (fun w2 => ?_) (fun w3 => ?_)
  · refine l_return rfl rfl ?_
    have w4 : 0 ≤ Xi S 904 106 ∧ Xi S 904 106 ≤ 9 := hH.c _ _
    exact ⟨hH, hF, rfl, (by omega), (by omega)⟩
  · refine l_aload_n rfl rfl ?_
    refine l_iload_n rfl rfl ?_
    refine l_iload_n rfl rfl ?_
    refine l_callV rfl rfl rfl (t_mo_note hH f t ⟨by omega, by omega⟩ ⟨by omega, by omega⟩ _) ?_
    rintro _ T1 ⟨hHT1, w7, rfl, w5⟩
    have hFT1 : FR md_mo_need S T1 := FR.tr hF w7 rfl
    show Rl _ _ _ _ _ [] _ _
    refine l_return rfl rfl ?_
    have w8 : 0 ≤ Xi T1 904 106 ∧ Xi T1 904 106 ≤ 9 := hHT1.c _ _
    exact ⟨hHT1, hFT1, rfl, (by omega), (by omega)⟩

