/-! SAFETY of methods: printed by wip/safe (vc.py, decl.py) -/
def md_mo_wrong : List rec := [(904, 905, 105, 106), (904, 905, 106, 107)]
abbrev Q_mo_wrong (S : sS) (f : Int) (t : Int) : pst := fun r S1 => HI S1 ∧ FR md_mo_wrong S S1 ∧ (r = none ∧ (Xi S1 904 106 ≠ 0))
set_option maxRecDepth 100000 in
theorem t_mo_wrong {S : sS} (hH : HI S) (f : Int) (t : Int) (hf : 1 ≤ f ∧ f ≤ 9) (ht : 0 ≤ t ∧ t ≤ 5001) (d : Nat) : Mt lay0 (d + 1) m_mo_wrong [.ref 904, iv f, iv t] S (Q_mo_wrong S f t) := by
  refine Mt_R rfl rfl ?_
  have hF : FR md_mo_wrong S S := FR.rf
  refine l_aload_n rfl rfl ?_
  refine l_gfi rfl rfl rfl rfl rfl ?_
  have w1 : 0 ≤ (Xi S 904 106) ∧ (Xi S 904 106) ≤ 9 := hH.c _ _
  refine l_if_ne rfl rfl (by unfold rg; omega) (fun w2 => ?_) (fun w3 => ?_)
  · refine l_return rfl rfl ?_
    have w4 : 0 ≤ Xi S 904 106 ∧ Xi S 904 106 ≤ 9 := hH.c _ _
    exact ⟨hH, hF, rfl, (by first | assumption | omega)⟩
  · refine l_aload_n rfl rfl ?_
    refine l_iload_n rfl rfl ?_
    refine l_pfi rfl rfl rfl rfl ?_
    obtain ⟨U1, eU1⟩ : ∃ T : sS, T = uI S 904 106 (Int32.ofInt f) := ⟨_, rfl⟩
    rw [← eU1]
    have hHU1 : HI U1 := by rw [eU1]; exact HI_w hH (show 0 ≤ f by omega) (show f ≤ 9 by omega)
    have hFU1 : FR md_mo_wrong S U1 := by rw [eU1]; exact FR.wI hF (mdf_i (r := (904, 905, 106, 107)) (List.mem_of_getElem? (i := 1) rfl) (inR_i (by omega) (by omega) (by omega) (by omega)))
    have w5 : Xi U1 904 106 = f := by rw [eU1]; exact Xi_same (by unfold rg; omega)
    refine l_aload_n rfl rfl ?_
    refine l_aload_n rfl rfl ?_
    refine l_gfr rfl rfl rfl rfl rfl (hHU1.r 904 5 908 rfl) ?_
    refine l_iload_n rfl rfl ?_
    refine l_iaload (n := 5002) rfl rfl (by omega) (by omega) (by unfold rg; omega) ?_
    have w6 : 0 ≤ (Xi U1 908 ((t).toNat)) ∧ (Xi U1 908 ((t).toNat)) ≤ 5000 := hHU1.c _ _
    refine l_pfi rfl rfl rfl rfl ?_
    obtain ⟨U2, eU2⟩ : ∃ T : sS, T = uI U1 904 105 (Int32.ofInt (Xi U1 908 ((t).toNat))) := ⟨_, rfl⟩
    rw [← eU2]
    have hHU2 : HI U2 := by rw [eU2]; exact HI_w hHU1 (show 0 ≤ (Xi U1 908 ((t).toNat)) by omega) (show (Xi U1 908 ((t).toNat)) ≤ 5000 by omega)
    have hFU2 : FR md_mo_wrong S U2 := by rw [eU2]; exact FR.wI hFU1 (mdf_i (r := (904, 905, 105, 106)) (List.mem_of_getElem? (i := 0) rfl) (inR_i (by omega) (by omega) (by omega) (by omega)))
    have w7 : Xi U2 904 105 = (Xi U1 908 ((t).toNat)) := by rw [eU2]; exact Xi_same (by unfold rg; omega)
    refine l_return rfl rfl ?_
    have w8 : Xi U2 904 106 = Xi U1 904 106 := (show Xi U2 904 106 = Xi U1 904 106 from by rw [eU2]; exact Xi_ne (by omega))
    have w9 : 0 ≤ Xi U1 904 106 ∧ Xi U1 904 106 ≤ 9 := hHU1.c _ _
    exact ⟨hHU2, hFU2, rfl, (by first | assumption | omega)⟩
def md_mo_relate : List rec := [(940, 941, 0, 100000)]
abbrev Q_mo_relate (S : sS) (r1 : Int) (o1 : Int) (o2 : Int) : pst := fun r S1 => HI S1 ∧ FR md_mo_relate S S1 ∧ (∃ z : Int, r = some (iv z) ∧ (0 ≤ z ∧ z ≤ 1))
set_option maxRecDepth 100000 in
theorem t_mo_relate {S : sS} (hH : HI S) (r1 : Int) (o1 : Int) (o2 : Int) (hr1 : 0 ≤ r1 ∧ r1 ≤ 5) (ho1 : 0 ≤ o1 ∧ o1 ≤ 23) (ho2 : 0 ≤ o2 ∧ o2 ≤ 23) (d : Nat) : Mt lay0 (d + 1) m_mo_relate [.ref 904, iv r1, iv o1, iv o2] S (Q_mo_relate S r1 o1 o2) := by
  refine Mt_R rfl rfl ?_
  have hF : FR md_mo_relate S S := FR.rf
  have C3 : ∀ (n3 : Nat) (v4 : Int), (0 ≤ v4 ∧ v4 ≤ 24) → n3 = (25 - v4).toNat → Rl lay0 (d + 0) m_mo_relate 3 [(0, .ref 904), (1, iv r1), (2, iv o1), (3, iv o2), (4, iv v4)] [] S (Q_mo_relate S r1 o1 o2) := by
    intro n3
    induction n3 using Nat.strongRecOn with
    | ind n3 ih3 =>
      intro v4 w1 hm3
      have C48 : ∀  (v4 : Int), (0 ≤ v4 ∧ v4 ≤ 23) → ((25 - v4).toNat ≤ n3) → Rl lay0 (d + 0) m_mo_relate 48 [(0, .ref 904), (1, iv r1), (2, iv o1), (3, iv o2), (4, iv v4)] [] S (Q_mo_relate S r1 o1 o2) := by
        intro v4 w2 w3
        have C86 : ∀  (v4 : Int), (0 ≤ v4 ∧ v4 ≤ 23) → ((25 - v4).toNat ≤ n3) → Rl lay0 (d + 0) m_mo_relate 86 [(0, .ref 904), (1, iv r1), (2, iv o1), (3, iv o2), (4, iv v4)] [] S (Q_mo_relate S r1 o1 o2) := by
          intro v4 w4 w5
          refine l_iinc rfl rfl rfl rfl ?_
          refine l_goto rfl rfl ?_
          exact Rl_weak (ih3 _ (by omega) ((v4 + 1)) (by omega) rfl) (And.intro rfl (And.intro rfl (And.intro rfl (And.intro rfl (And.intro rfl (True.intro))))))
        refine l_aload_n rfl rfl ?_
        refine l_gfr rfl rfl rfl rfl rfl (hH.r 904 45 939 rfl) ?_
        refine l_iload_n rfl rfl ?_
        refine l_baload (n := 6) rfl rfl rfl (by decide) (by omega) (by omega) (by unfold rg; omega) ?_
        have w6 : 0 ≤ (Xi S 939 ((r1).toNat)) ∧ (Xi S 939 ((r1).toNat)) ≤ 1 := hH.c _ _
        refine l_if_eq rfl rfl (by unfold rg; omega) (fun w7 => ?_) (fun w8 => ?_)
        · exact Rl_weak (C86 (v4) (by omega) (by omega)) (And.intro rfl (And.intro rfl (And.intro rfl (And.intro rfl (And.intro rfl (True.intro))))))
        · refine l_iload rfl rfl ?_
          refine l_iload_n rfl rfl ?_
          refine l_icmp_eq rfl rfl (by unfold rg; omega) (by unfold rg; omega) (fun w9 => ?_) (fun w10 => ?_)
          · exact Rl_weak (C86 (v4) (by omega) (by omega)) (And.intro rfl (And.intro rfl (And.intro rfl (And.intro rfl (And.intro rfl (True.intro))))))
          · refine l_aload_n rfl rfl ?_
            refine l_gfr rfl rfl rfl rfl rfl (hH.r 904 46 940 rfl) ?_
            refine l_sipush rfl rfl ?_
            refine l_iload_n rfl rfl ?_
            refine l_imul rfl ?_
            refine l_bipush rfl rfl ?_
            refine l_iload_n rfl rfl ?_
            refine l_imul rfl ?_
            refine l_iadd rfl ?_
            refine l_iload rfl rfl ?_
            refine l_iadd rfl ?_
            refine l_baload (n := 3456) rfl rfl rfl (by decide) (by omega) (by omega) (by unfold rg; omega) ?_
            have w11 : 0 ≤ (Xi S 940 (((((576 * r1) + (24 * o1)) + v4)).toNat)) ∧ (Xi S 940 (((((576 * r1) + (24 * o1)) + v4)).toNat)) ≤ 1 := hH.c _ _
            refine l_if_eq rfl rfl (by unfold rg; omega) (fun w12 => ?_) (fun w13 => ?_)
            · exact Rl_weak (C86 (v4) (by omega) (by omega)) (And.intro rfl (And.intro rfl (And.intro rfl (And.intro rfl (And.intro rfl (True.intro))))))
            · refine l_iconst rfl ?_
              refine l_ireturn rfl rfl ?_
              exact ⟨hH, hF, _, rfl, ⟨by omega, by omega⟩⟩
      refine l_iload rfl rfl ?_
      refine l_aload_n rfl rfl ?_
      refine l_gfi rfl rfl rfl rfl rfl ?_
      have w14 : 0 ≤ (Xi S 904 19) ∧ (Xi S 904 19) ≤ 24 := hH.c _ _
      refine l_icmp_ge rfl rfl (by unfold rg; omega) (by unfold rg; omega) (fun w15 => ?_) (fun w16 => ?_)
      · refine l_aload_n rfl rfl ?_
        refine l_gfr rfl rfl rfl rfl rfl (hH.r 904 46 940 rfl) ?_
        refine l_sipush rfl rfl ?_
        refine l_iload_n rfl rfl ?_
        refine l_imul rfl ?_
        refine l_bipush rfl rfl ?_
        refine l_iload_n rfl rfl ?_
        refine l_imul rfl ?_
        refine l_iadd rfl ?_
        refine l_iload_n rfl rfl ?_
        refine l_iadd rfl ?_
        refine l_iconst rfl ?_
        refine l_bastoreZ1 (n := 3456) rfl rfl (by omega) (by omega) (by unfold rg; omega) ⟨by omega, by omega⟩ ?_
        obtain ⟨U1, eU1⟩ : ∃ T : sS, T = uI S 940 (((((576 * r1) + (24 * o1)) + o2)).toNat) (Int32.ofInt 1) := ⟨_, rfl⟩
        rw [← eU1]
        have hHU1 : HI U1 := by rw [eU1]; exact HI_w hH (show 0 ≤ 1 by omega) (show 1 ≤ 1 by omega)
        have hFU1 : FR md_mo_relate S U1 := by rw [eU1]; exact FR.wI hF (mdf_i (r := (940, 941, 0, 100000)) (List.mem_of_getElem? (i := 0) rfl) (inR_i (by omega) (by omega) (by omega) (by omega)))
        have w17 : Xi U1 940 (((((576 * r1) + (24 * o1)) + o2)).toNat) = 1 := by rw [eU1]; exact Xi_same (by unfold rg; omega)
        refine l_iconst rfl ?_
        refine l_ireturn rfl rfl ?_
        exact ⟨hHU1, hFU1, _, rfl, ⟨by omega, by omega⟩⟩
      · refine l_aload_n rfl rfl ?_
        refine l_gfr rfl rfl rfl rfl rfl (hH.r 904 44 938 rfl) ?_
        refine l_iload_n rfl rfl ?_
        refine l_baload (n := 6) rfl rfl rfl (by decide) (by omega) (by omega) (by unfold rg; omega) ?_
        have w18 : 0 ≤ (Xi S 938 ((r1).toNat)) ∧ (Xi S 938 ((r1).toNat)) ≤ 1 := hH.c _ _
        refine l_if_eq rfl rfl (by unfold rg; omega) (fun w19 => ?_) (fun w20 => ?_)
        · exact Rl_weak (C48 (v4) (by omega) (by omega)) (And.intro rfl (And.intro rfl (And.intro rfl (And.intro rfl (And.intro rfl (True.intro))))))
        · refine l_iload rfl rfl ?_
          refine l_iload_n rfl rfl ?_
          refine l_icmp_eq rfl rfl (by unfold rg; omega) (by unfold rg; omega) (fun w21 => ?_) (fun w22 => ?_)
          · exact Rl_weak (C48 (v4) (by omega) (by omega)) (And.intro rfl (And.intro rfl (And.intro rfl (And.intro rfl (And.intro rfl (True.intro))))))
          · refine l_aload_n rfl rfl ?_
            refine l_gfr rfl rfl rfl rfl rfl (hH.r 904 46 940 rfl) ?_
            refine l_sipush rfl rfl ?_
            refine l_iload_n rfl rfl ?_
            refine l_imul rfl ?_
            refine l_bipush rfl rfl ?_
            refine l_iload rfl rfl ?_
            refine l_imul rfl ?_
            refine l_iadd rfl ?_
            refine l_iload_n rfl rfl ?_
            refine l_iadd rfl ?_
            refine l_baload (n := 3456) rfl rfl rfl (by decide) (by omega) (by omega) (by unfold rg; omega) ?_
            have w23 : 0 ≤ (Xi S 940 (((((576 * r1) + (24 * v4)) + o2)).toNat)) ∧ (Xi S 940 (((((576 * r1) + (24 * v4)) + o2)).toNat)) ≤ 1 := hH.c _ _
            refine l_if_ne rfl rfl (by unfold rg; omega) (fun w24 => ?_) (fun w25 => ?_)
            · refine l_iconst rfl ?_
              refine l_ireturn rfl rfl ?_
              exact ⟨hH, hF, _, rfl, ⟨by omega, by omega⟩⟩
            · exact Rl_weak (C48 (v4) (by omega) (by omega)) (And.intro rfl (And.intro rfl (And.intro rfl (And.intro rfl (And.intro rfl (True.intro))))))
  refine l_iconst rfl ?_
  refine l_istore rfl rfl rfl ?_
  exact Rl_weak (C3 _ (0) (by omega) rfl) (And.intro rfl (And.intro rfl (And.intro rfl (And.intro rfl (And.intro rfl (True.intro))))))
abbrev Q_mo_tellsOtherwise (S : sS) (p : Int) (was : Int) (wl : Int) (iss : Int) (il : Int) : pst := fun r S1 => S = S1 ∧ (∃ z : Int, r = some (iv z) ∧ (0 ≤ z ∧ z ≤ 1))
set_option maxRecDepth 100000 in
theorem t_mo_tellsOtherwise {S : sS} (hH : HI S) (p : Int) (was : Int) (wl : Int) (iss : Int) (il : Int) (hp : 0 ≤ p ∧ p ≤ 11) (hwas : -2147483648 ≤ was ∧ was ≤ 2147483647) (hwl : -2147483648 ≤ wl ∧ wl ≤ 2147483647) (hiss : -2147483648 ≤ iss ∧ iss ≤ 2147483647) (hil : -2147483648 ≤ il ∧ il ≤ 2147483647) (h1 : Xi S 928 p.toNat = 1 → OKT was wl) (h2 : Xi S 928 p.toNat = 1 → OKT iss il) (d : Nat) : Mt lay0 (d + 2) m_mo_tellsOtherwise [.ref 904, iv p, iv was, iv wl, iv iss, iv il] S (Q_mo_tellsOtherwise S p was wl iss il) := by
  refine Mt_R rfl rfl ?_
  refine l_aload_n rfl rfl ?_
  refine l_gfr rfl rfl rfl rfl rfl (hH.r 904 33 928 rfl) ?_
  refine l_iload_n rfl rfl ?_
  refine l_iaload (n := 12) rfl rfl (by omega) (by omega) (by unfold rg; omega) ?_
  have w1 : 0 ≤ (Xi S 928 ((p).toNat)) ∧ (Xi S 928 ((p).toNat)) ≤ 7 := hH.c _ _
  refine l_iconst rfl ?_
  refine l_icmp_ne rfl rfl (by unfold rg; omega) (by unfold rg; omega) (fun w2 => ?_) (fun w3 => ?_)
  · refine l_iload_n rfl rfl ?_
    refine l_iload rfl rfl ?_
    refine l_icmp_eq rfl rfl (by unfold rg; omega) (by unfold rg; omega) (fun w4 => ?_) (fun w5 => ?_)
    · refine l_iconst rfl ?_
      refine l_ireturn rfl rfl ?_
      exact ⟨rfl, _, rfl, ⟨by omega, by omega⟩⟩
    · refine l_iconst rfl ?_
      refine l_goto rfl rfl ?_
      refine l_ireturn rfl rfl ?_
      exact ⟨rfl, _, rfl, ⟨by omega, by omega⟩⟩
  · refine l_aload_n rfl rfl ?_
    refine l_iload_n rfl rfl ?_
    refine l_iload_n rfl rfl ?_
    refine l_iload rfl rfl ?_
    refine l_iload rfl rfl ?_
    refine l_callV rfl rfl rfl (t_mo_isSameText hH was wl iss il ⟨by omega, by omega⟩ ⟨by omega, by omega⟩ ⟨by omega, by omega⟩ ⟨by omega, by omega⟩ (h1 (by omega)) (h2 (by omega)) _) ?_
    rintro _ _ ⟨rfl, z6, rfl, w6⟩
    show Rl _ _ _ _ _ [iv z6] _ _
    refine l_if_ne rfl rfl (by unfold rg; omega) (fun w7 => ?_) (fun w8 => ?_)
    · refine l_iconst rfl ?_
      refine l_goto rfl rfl ?_
      refine l_ireturn rfl rfl ?_
      exact ⟨rfl, _, rfl, ⟨by omega, by omega⟩⟩
    · refine l_iconst rfl ?_
      refine l_goto rfl rfl ?_
      refine l_ireturn rfl rfl ?_
      exact ⟨rfl, _, rfl, ⟨by omega, by omega⟩⟩

