/-! SAFETY of methods: printed by wip/safe (vc.py, decl.py) -/
abbrev Q_mo_thingOf (S : sS) (from_ : Int) (to : Int) : pst := fun r S1 => S = S1 ∧ (∃ z : Int, r = some (iv z) ∧ (-9 ≤ z ∧ z ≤ 23) ∧ (z ≠ -9 → z ≠ -1 → z ≠ -2 → 0 ≤ z ∧ z < Xi S 904 19) ∧ (z = -1 → 0 ≤ Xi S 904 115) ∧ (z = -2 → 0 ≤ Xi S 904 116))
set_option maxRecDepth 100000 in
theorem t_mo_thingOf {S : sS} (hH : HI S) (from_ : Int) (to : Int) (hfrom_ : 0 ≤ from_ ∧ from_ ≤ 5001) (hto : 0 ≤ to ∧ to ≤ 5001) (hM : LXM S) (d : Nat) : Mt lay0 (d + 5) m_mo_thingOf [.ref 904, iv from_, iv to] S (Q_mo_thingOf S from_ to) := by
  refine Mt_R rfl rfl ?_
  have w1 : -1 ≤ Xi S 904 115 ∧ Xi S 904 115 ≤ 15 := hH.c _ _
  have w2 : -1 ≤ Xi S 904 116 ∧ Xi S 904 116 ≤ 15 := hH.c _ _
  have w3 : 0 ≤ Xi S 904 19 ∧ Xi S 904 19 ≤ 24 := hH.c _ _
  refine l_iload_n rfl rfl ?_
  refine l_iload_n rfl rfl ?_
  refine l_isub rfl ?_
  refine l_istore_n rfl rfl rfl ?_
  refine l_iload_n rfl rfl ?_
  refine l_iconst rfl ?_
  refine l_icmp_ne rfl rfl (by unfold rg; omega) (by unfold rg; omega) (fun w4 => ?_) (fun w5 => ?_)
  · refine l_iload_n rfl rfl ?_
    refine l_if_le rfl rfl (by unfold rg; omega) (fun w6 => ?_) (fun w7 => ?_)
    · refine l_aload_n rfl rfl ?_
      refine l_iload_n rfl rfl ?_
      refine l_iload_n rfl rfl ?_
      have w8 : 0 ≤ Xi S 904 19 ∧ Xi S 904 19 ≤ 24 := hH.c _ _
      refine l_callV rfl rfl rfl (t_mo_objectOf hH from_ to ⟨by omega, by omega⟩ ⟨by omega, by omega⟩ (by first | assumption | exact (by assumption : LXM S)) _) ?_
      rintro _ _ ⟨rfl, z10, rfl, w10, w9⟩
      show Rl _ _ _ _ _ [iv z10] _ _
      refine l_ireturn rfl rfl ?_
      exact ⟨rfl, _, rfl, ⟨by omega, by omega⟩, (by omega), (by omega), (by omega)⟩
    · refine l_aload_n rfl rfl ?_
      refine l_gfr rfl rfl rfl rfl rfl (hH.r 904 4 907 rfl) ?_
      refine l_iload_n rfl rfl ?_
      refine l_iconst rfl ?_
      refine l_isub rfl ?_
      refine l_iaload (n := 5002) rfl rfl (by omega) (by omega) (by unfold rg; omega) ?_
      have w11 : 0 ≤ (Xi S 907 (((to - 1)).toNat)) ∧ (Xi S 907 (((to - 1)).toNat)) ≤ 154 := hH.c _ _
      refine l_sipush rfl rfl ?_
      refine l_icmp_ne rfl rfl (by unfold rg; omega) (by unfold rg; omega) (fun w12 => ?_) (fun w13 => ?_)
      · refine l_aload_n rfl rfl ?_
        refine l_iload_n rfl rfl ?_
        refine l_iload_n rfl rfl ?_
        have w14 : 0 ≤ Xi S 904 19 ∧ Xi S 904 19 ≤ 24 := hH.c _ _
        refine l_callV rfl rfl rfl (t_mo_objectOf hH from_ to ⟨by omega, by omega⟩ ⟨by omega, by omega⟩ (by first | assumption | exact (by assumption : LXM S)) _) ?_
        rintro _ _ ⟨rfl, z16, rfl, w16, w15⟩
        show Rl _ _ _ _ _ [iv z16] _ _
        refine l_ireturn rfl rfl ?_
        exact ⟨rfl, _, rfl, ⟨by omega, by omega⟩, (by omega), (by omega), (by omega)⟩
      · refine l_aload_n rfl rfl ?_
        refine l_gfi rfl rfl rfl rfl rfl ?_
        refine l_iconst rfl ?_
        refine l_icmp_eq rfl rfl (by unfold rg; omega) (by unfold rg; omega) (fun w17 => ?_) (fun w18 => ?_)
        · refine l_bipush rfl rfl ?_
          refine l_ireturn rfl rfl ?_
          exact ⟨rfl, _, rfl, ⟨by omega, by omega⟩, (by omega), (by omega), (by omega)⟩
        · refine l_iload_n rfl rfl ?_
          refine l_iconst rfl ?_
          refine l_icmp_eq rfl rfl (by unfold rg; omega) (by unfold rg; omega) (fun w19 => ?_) (fun w20 => ?_)
          · refine l_bipush rfl rfl ?_
            refine l_goto rfl rfl ?_
            refine l_ireturn rfl rfl ?_
            exact ⟨rfl, _, rfl, ⟨by omega, by omega⟩, (by omega), (by omega), (by omega)⟩
          · refine l_iload_n rfl rfl ?_
            refine l_iconst rfl ?_
            refine l_icmp_ne rfl rfl (by unfold rg; omega) (by unfold rg; omega) (fun w21 => ?_) (fun w22 => ?_)
            · refine l_bipush rfl rfl ?_
              refine l_ireturn rfl rfl ?_
              exact ⟨rfl, _, rfl, ⟨by omega, by omega⟩, (by omega), (by omega), (by omega)⟩
            · refine l_aload_n rfl rfl ?_
              refine l_gfr rfl rfl rfl rfl rfl (hH.r 904 4 907 rfl) ?_
              refine l_iload_n rfl rfl ?_
              refine l_iaload (n := 5002) rfl rfl (by omega) (by omega) (by unfold rg; omega) ?_
              have w23 : 0 ≤ (Xi S 907 ((from_).toNat)) ∧ (Xi S 907 ((from_).toNat)) ≤ 154 := hH.c _ _
              refine l_bipush rfl rfl ?_
              refine l_icmp_ne rfl rfl (by unfold rg; omega) (by unfold rg; omega) (fun w24 => ?_) (fun w25 => ?_)
              · refine l_bipush rfl rfl ?_
                refine l_ireturn rfl rfl ?_
                exact ⟨rfl, _, rfl, ⟨by omega, by omega⟩, (by omega), (by omega), (by omega)⟩
              · refine l_bipush rfl rfl ?_
                refine l_goto rfl rfl ?_
                refine l_ireturn rfl rfl ?_
                exact ⟨rfl, _, rfl, ⟨by omega, by omega⟩, (by omega), (by omega), (by omega)⟩
  · refine l_aload_n rfl rfl ?_
    refine l_gfr rfl rfl rfl rfl rfl (hH.r 904 4 907 rfl) ?_
    refine l_iload_n rfl rfl ?_
    refine l_iaload (n := 5002) rfl rfl (by omega) (by omega) (by unfold rg; omega) ?_
    have w26 : 0 ≤ (Xi S 907 ((from_).toNat)) ∧ (Xi S 907 ((from_).toNat)) ≤ 154 := hH.c _ _
    refine l_sipush rfl rfl ?_
    refine l_icmp_ne rfl rfl (by unfold rg; omega) (by unfold rg; omega) (fun w27 => ?_) (fun w28 => ?_)
    · refine l_iload_n rfl rfl ?_
      refine l_if_le rfl rfl (by unfold rg; omega) (fun w29 => ?_) (fun w30 => ?_)
      · refine l_aload_n rfl rfl ?_
        refine l_iload_n rfl rfl ?_
        refine l_iload_n rfl rfl ?_
        have w31 : 0 ≤ Xi S 904 19 ∧ Xi S 904 19 ≤ 24 := hH.c _ _
        refine l_callV rfl rfl rfl (t_mo_objectOf hH from_ to ⟨by omega, by omega⟩ ⟨by omega, by omega⟩ (by first | assumption | exact (by assumption : LXM S)) _) ?_
        rintro _ _ ⟨rfl, z33, rfl, w33, w32⟩
        show Rl _ _ _ _ _ [iv z33] _ _
        refine l_ireturn rfl rfl ?_
        exact ⟨rfl, _, rfl, ⟨by omega, by omega⟩, (by omega), (by omega), (by omega)⟩
      · refine l_aload_n rfl rfl ?_
        refine l_gfr rfl rfl rfl rfl rfl (hH.r 904 4 907 rfl) ?_
        refine l_iload_n rfl rfl ?_
        refine l_iconst rfl ?_
        refine l_isub rfl ?_
        refine l_iaload (n := 5002) rfl rfl (by omega) (by omega) (by unfold rg; omega) ?_
        have w34 : 0 ≤ (Xi S 907 (((to - 1)).toNat)) ∧ (Xi S 907 (((to - 1)).toNat)) ≤ 154 := hH.c _ _
        refine l_sipush rfl rfl ?_
        refine l_icmp_ne rfl rfl (by unfold rg; omega) (by unfold rg; omega) (fun w35 => ?_) (fun w36 => ?_)
        · refine l_aload_n rfl rfl ?_
          refine l_iload_n rfl rfl ?_
          refine l_iload_n rfl rfl ?_
          have w37 : 0 ≤ Xi S 904 19 ∧ Xi S 904 19 ≤ 24 := hH.c _ _
          refine l_callV rfl rfl rfl (t_mo_objectOf hH from_ to ⟨by omega, by omega⟩ ⟨by omega, by omega⟩ (by first | assumption | exact (by assumption : LXM S)) _) ?_
          rintro _ _ ⟨rfl, z39, rfl, w39, w38⟩
          show Rl _ _ _ _ _ [iv z39] _ _
          refine l_ireturn rfl rfl ?_
          exact ⟨rfl, _, rfl, ⟨by omega, by omega⟩, (by omega), (by omega), (by omega)⟩
        · refine l_aload_n rfl rfl ?_
          refine l_gfi rfl rfl rfl rfl rfl ?_
          refine l_iconst rfl ?_
          refine l_icmp_eq rfl rfl (by unfold rg; omega) (by unfold rg; omega) (fun w40 => ?_) (fun w41 => ?_)
          · refine l_bipush rfl rfl ?_
            refine l_ireturn rfl rfl ?_
            exact ⟨rfl, _, rfl, ⟨by omega, by omega⟩, (by omega), (by omega), (by omega)⟩
          · refine l_iload_n rfl rfl ?_
            refine l_iconst rfl ?_
            refine l_icmp_eq rfl rfl (by unfold rg; omega) (by unfold rg; omega) (fun w42 => ?_) (fun w43 => ?_)
            · refine l_bipush rfl rfl ?_
              refine l_goto rfl rfl ?_
              refine l_ireturn rfl rfl ?_
              exact ⟨rfl, _, rfl, ⟨by omega, by omega⟩, (by omega), (by omega), (by omega)⟩
            · refine l_iload_n rfl rfl ?_
              refine l_iconst rfl ?_
              refine l_icmp_ne rfl rfl (by unfold rg; omega) (by unfold rg; omega) (fun w44 => ?_) (fun w45 => ?_)
              · refine l_bipush rfl rfl ?_
                refine l_ireturn rfl rfl ?_
                exact ⟨rfl, _, rfl, ⟨by omega, by omega⟩, (by omega), (by omega), (by omega)⟩
              · refine l_aload_n rfl rfl ?_
                refine l_gfr rfl rfl rfl rfl rfl (hH.r 904 4 907 rfl) ?_
                refine l_iload_n rfl rfl ?_
                refine l_iaload (n := 5002) rfl rfl (by omega) (by omega) (by unfold rg; omega) ?_
                refine l_bipush rfl rfl ?_
                refine l_icmp_ne rfl rfl (by unfold rg; omega) (by unfold rg; omega) (fun w46 => ?_) (fun w47 => ?_)
                · refine l_bipush rfl rfl ?_
                  refine l_ireturn rfl rfl ?_
                  exact ⟨rfl, _, rfl, ⟨by omega, by omega⟩, (by omega), (by omega), (by omega)⟩
                · refine l_bipush rfl rfl ?_
                  refine l_goto rfl rfl ?_
                  refine l_ireturn rfl rfl ?_
                  exact ⟨rfl, _, rfl, ⟨by omega, by omega⟩, (by omega), (by omega), (by omega)⟩
    · refine l_aload_n rfl rfl ?_
      refine l_gfi rfl rfl rfl rfl rfl ?_
      refine l_iconst rfl ?_
      refine l_icmp_ne rfl rfl (by unfold rg; omega) (by unfold rg; omega) (fun w48 => ?_) (fun w49 => ?_)
      · refine l_iconst rfl ?_
        refine l_ireturn rfl rfl ?_
        exact ⟨rfl, _, rfl, ⟨by omega, by omega⟩, (by omega), (by omega), (by omega)⟩
      · refine l_bipush rfl rfl ?_
        refine l_goto rfl rfl ?_
        refine l_ireturn rfl rfl ?_
        exact ⟨rfl, _, rfl, ⟨by omega, by omega⟩, (by omega), (by omega), (by omega)⟩
abbrev Q_mo_fits (S : sS) (th : Int) (kind : Int) : pst := fun r S1 => S = S1 ∧ (∃ z : Int, r = some (iv z) ∧ (0 ≤ z ∧ z ≤ 1) ∧ (z = 1 → th ≠ -9))
set_option maxRecDepth 100000 in
theorem t_mo_fits {S : sS} (hH : HI S) (th : Int) (kind : Int) (hth : -9 ≤ th ∧ th ≤ 23) (hkind : 0 ≤ kind ∧ kind ≤ 15) (hB : ABV S) (ht : th ≠ -9 → -2 ≤ th) (d : Nat) : Mt lay0 (d + 2) m_mo_fits [.ref 904, iv th, iv kind] S (Q_mo_fits S th kind) := by
  refine Mt_R rfl rfl ?_
  refine l_iload_n rfl rfl ?_
  refine l_bipush rfl rfl ?_
  refine l_icmp_eq rfl rfl (by unfold rg; omega) (by unfold rg; omega) (fun w1 => ?_) (fun w2 => ?_)
  · refine l_iconst rfl ?_
    refine l_ireturn rfl rfl ?_
    exact ⟨rfl, _, rfl, ⟨by omega, by omega⟩, (by first | assumption | omega)⟩
  · refine l_aload_n rfl rfl ?_
    refine l_aload_n rfl rfl ?_
    refine l_iload_n rfl rfl ?_
    refine l_callV rfl rfl rfl (t_mo_kindOfThing hH th ⟨by omega, by omega⟩ (by first | assumption | omega) _) ?_
    rintro _ _ ⟨rfl, z3, rfl, w3⟩
    show Rl _ _ _ _ _ [iv z3, .ref 904] _ _
    refine l_iload_n rfl rfl ?_
    refine l_callV rfl rfl rfl (t_mo_isBelow hH z3 kind ⟨by omega, by omega⟩ ⟨by omega, by omega⟩ (by first | assumption | exact (by assumption : ABV S)) _) ?_
    rintro _ _ ⟨rfl, z5, rfl, w5, w4⟩
    show Rl _ _ _ _ _ [iv z5] _ _
    refine l_if_eq rfl rfl (by unfold rg; omega) (fun w6 => ?_) (fun w7 => ?_)
    · refine l_iconst rfl ?_
      refine l_ireturn rfl rfl ?_
      exact ⟨rfl, _, rfl, ⟨by omega, by omega⟩, (by first | assumption | omega)⟩
    · refine l_iconst rfl ?_
      refine l_goto rfl rfl ?_
      refine l_ireturn rfl rfl ?_
      exact ⟨rfl, _, rfl, ⟨by omega, by omega⟩, (by first | assumption | omega)⟩

