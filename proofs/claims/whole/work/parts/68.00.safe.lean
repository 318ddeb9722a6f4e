/-! SAFETY of methods: printed by wip/safe (vc.py, decl.py) -/
abbrev Q_rs_isArt (S : sS) (t : Int) : pst := fun r S1 => S = S1 ∧ (∃ z : Int, r = some (iv z) ∧ (0 ≤ z ∧ z ≤ 1) ∧ ((z = 1 → 0 ≤ t ∧ t ≤ 3) ∧ (z = 0 → t < 0 ∨ 3 < t)))
set_option maxRecDepth 100000 in
theorem t_rs_isArt {S : sS} (hH : HI S) (t : Int) (ht : -2147483648 ≤ t ∧ t ≤ 2147483647) (d : Nat) : Mt lay0 (d + 1) m_rs_isArt [iv t] S (Q_rs_isArt S t) := by
  refine Mt_R rfl rfl ?_
  refine l_iload_n rfl rfl ?_
  refine l_if_lt rfl rfl (by unfold rg; omega) (fun w1 => ?_) (fun w2 => ?_)
  · refine l_iconst rfl ?_
    refine l_ireturn rfl rfl ?_
    exact ⟨rfl, _, rfl, ⟨by omega, by omega⟩, (by first | assumption | omega)⟩
  · refine l_iload_n rfl rfl ?_
    refine l_iconst rfl ?_
    refine l_icmp_gt rfl rfl (by unfold rg; omega) (by unfold rg; omega) (fun w3 => ?_) (fun w4 => ?_)
    · refine l_iconst rfl ?_
      refine l_ireturn rfl rfl ?_
      exact ⟨rfl, _, rfl, ⟨by omega, by omega⟩, (by first | assumption | omega)⟩
    · refine l_iconst rfl ?_
      refine l_goto rfl rfl ?_
      refine l_ireturn rfl rfl ?_
      exact ⟨rfl, _, rfl, ⟨by omega, by omega⟩, (by first | assumption | omega)⟩
abbrev Q_to_typeAt (S : sS) (row : Int) : pst := fun r S1 => S = S1 ∧ (∃ z : Int, r = some (iv z) ∧ (0 ≤ z ∧ z ≤ 108) ∧ (z ≠ 107 → 0 ≤ row ∧ row < Xi S 876 7 ∧ z = Xi S 877 row.toNat))
set_option maxRecDepth 100000 in
theorem t_to_typeAt {S : sS} (hH : HI S) (row : Int) (hrow : -2147483648 ≤ row ∧ row ≤ 2147483647) (d : Nat) : Mt lay0 (d + 1) m_to_typeAt [.ref 876, iv row] S (Q_to_typeAt S row) := by
  refine Mt_R rfl rfl ?_
  have w1 : 0 ≤ Xi S 876 7 ∧ Xi S 876 7 ≤ 5130 := hH.c _ _
  refine l_iload_n rfl rfl ?_
  refine l_if_lt rfl rfl (by unfold rg; omega) (fun w2 => ?_) (fun w3 => ?_)
  · refine l_bipush rfl rfl ?_
    refine l_ireturn rfl rfl ?_
    exact ⟨rfl, _, rfl, ⟨by omega, by omega⟩, (by first | assumption | omega)⟩
  · refine l_iload_n rfl rfl ?_
    refine l_aload_n rfl rfl ?_
    refine l_gfi rfl rfl rfl rfl rfl ?_
    have w4 : 0 ≤ (Xi S 876 7) ∧ (Xi S 876 7) ≤ 5130 := hH.c _ _
    refine l_icmp_ge rfl rfl (by unfold rg; omega) (by unfold rg; omega) (fun w5 => ?_) (fun w6 => ?_)
    · refine l_bipush rfl rfl ?_
      refine l_ireturn rfl rfl ?_
      exact ⟨rfl, _, rfl, ⟨by omega, by omega⟩, (by first | assumption | omega)⟩
    · refine l_aload_n rfl rfl ?_
      refine l_gfr rfl rfl rfl rfl rfl (hH.r 876 0 877 rfl) ?_
      refine l_iload_n rfl rfl ?_
      refine l_iaload (n := 5130) rfl rfl (by omega) (by omega) (by unfold rg; omega) ?_
      have w7 : 0 ≤ (Xi S 877 ((row).toNat)) ∧ (Xi S 877 ((row).toNat)) ≤ 108 := hH.c _ _
      refine l_goto rfl rfl ?_
      refine l_ireturn rfl rfl ?_
      exact ⟨rfl, _, rfl, ⟨by omega, by omega⟩, (by first | assumption | omega)⟩
abbrev Q_rs_letterOf (S : sS) (b : Int) : pst := fun r S1 => S = S1 ∧ (∃ z : Int, r = some (iv z) ∧ (0 ≤ z ∧ z ≤ 26))
set_option maxRecDepth 100000 in
theorem t_rs_letterOf {S : sS} (hH : HI S) (b : Int) (hb : -2147483648 ≤ b ∧ b ≤ 2147483647) (d : Nat) : Mt lay0 (d + 1) m_rs_letterOf [iv b] S (Q_rs_letterOf S b) := by
  refine Mt_R rfl rfl ?_
  refine l_iload_n rfl rfl ?_
  refine l_bipush rfl rfl ?_
  refine l_ior rfl (by unfold rg; omega) (by unfold rg; omega) (fun c1 w1 w1b => ?_)
  refine l_bipush rfl rfl ?_
  refine l_isub rfl ?_
  refine l_iconst rfl ?_
  refine l_iadd rfl ?_
  refine l_istore_n rfl rfl rfl ?_
  refine l_iload_n rfl rfl ?_
  refine l_if_le rfl rfl (by unfold rg; omega) (fun w2 => ?_) (fun w3 => ?_)
  · refine l_iconst rfl ?_
    refine l_ireturn rfl rfl ?_
    exact ⟨rfl, _, rfl, ⟨by omega, by omega⟩⟩
  · refine l_iload_n rfl rfl ?_
    refine l_iconst rfl ?_
    refine l_icmp_lt rfl rfl (by unfold rg; omega) (by unfold rg; omega) (fun w4 => ?_) (fun w5 => ?_)
    · refine l_iconst rfl ?_
      refine l_ireturn rfl rfl ?_
      exact ⟨rfl, _, rfl, ⟨by omega, by omega⟩⟩
    · refine l_iload_n rfl rfl ?_
      refine l_bipush rfl rfl ?_
      refine l_icmp_gt rfl rfl (by unfold rg; omega) (by unfold rg; omega) (fun w6 => ?_) (fun w7 => ?_)
      · refine l_iconst rfl ?_
        refine l_ireturn rfl rfl ?_
        exact ⟨rfl, _, rfl, ⟨by omega, by omega⟩⟩
      · refine l_iload_n rfl rfl ?_
        refine l_goto rfl rfl ?_
        refine l_ireturn rfl rfl ?_
        exact ⟨rfl, _, rfl, ⟨by omega, by omega⟩⟩
abbrev Q_to_closing (S : sS) (ts : Nat) (from_ : Int) : pst := fun r S1 => S = S1 ∧ (∃ z : Int, r = some (iv z) ∧ (-1 ≤ z ∧ z ≤ 4999) ∧ (z = -1 ∨ (from_ ≤ z ∧ z < Xi S 876 5)))
set_option maxRecDepth 100000 in
theorem t_to_closing {S : sS} (hH : HI S) (ts : Nat) (from_ : Int) (hfrom_ : 0 ≤ from_ ∧ from_ ≤ 5000) (hts : S.2.2 876 4 = some ts) (htp : tp ts) (d : Nat) : Mt lay0 (d + 1) m_to_closing [.ref 876, iv from_] S (Q_to_closing S ts from_) := by
  refine Mt_R rfl rfl ?_
  have w1 : 0 ≤ Xi S 876 5 ∧ Xi S 876 5 ≤ 5000 := hH.c _ _
  have C2 : ∀ (n2 : Nat) (v2 : Int), (0 ≤ v2 ∧ v2 ≤ 5000) → (from_ ≤ v2) → n2 = (5001 - v2).toNat → Rl lay0 (d + 0) m_to_closing 2 [(0, .ref 876), (2, iv v2)] [] S (Q_to_closing S ts from_) := by
    intro n2
    induction n2 using Nat.strongRecOn with
    | ind n2 ih2 =>
      intro v2 w2 w3 hm2
      refine l_iload_n rfl rfl ?_
      refine l_aload_n rfl rfl ?_
      refine l_gfi rfl rfl rfl rfl rfl ?_
      have w4 : 0 ≤ (Xi S 876 5) ∧ (Xi S 876 5) ≤ 5000 := hH.c _ _
      refine l_icmp_ge rfl rfl (by unfold rg; omega) (by unfold rg; omega) (fun w5 => ?_) (fun w6 => ?_)
      · refine l_iconst rfl ?_
        refine l_ireturn rfl rfl ?_
        exact ⟨rfl, _, rfl, ⟨by omega, by omega⟩, (by first | assumption | omega)⟩
      · refine l_aload_n rfl rfl ?_
        refine l_gfr rfl rfl rfl rfl rfl hts ?_
        refine l_iload_n rfl rfl ?_
        refine l_baload (n := 5000) rfl (tp_sv (by assumption)) (lay_tp (by assumption)) (by decide) (by omega) (by omega) (by unfold rg; omega) ?_
        have w8 : -2147483648 ≤ (Xi S ts ((v2).toNat)) ∧ (Xi S ts ((v2).toNat)) ≤ 2147483647 := Xi_rgI
        refine l_bipush rfl rfl ?_
        refine l_icmp_ne rfl rfl (by unfold rg; omega) (by unfold rg; omega) (fun w9 => ?_) (fun w10 => ?_)
        · refine l_iinc rfl rfl rfl rfl ?_
          refine l_goto rfl rfl ?_
          exact Rl_weak (ih2 _ (by omega) ((v2 + 1)) (by omega) (by omega) rfl) (And.intro rfl (And.intro rfl (True.intro)))
        · refine l_iload_n rfl rfl ?_
          refine l_ireturn rfl rfl ?_
          exact ⟨rfl, _, rfl, ⟨by omega, by omega⟩, (by first | assumption | omega)⟩
  refine l_iload_n rfl rfl ?_
  refine l_istore_n rfl rfl rfl ?_
  exact Rl_weak (C2 _ (from_) (by omega) (by omega) rfl) (And.intro rfl (And.intro rfl (True.intro)))
abbrev Q_to_skip (S : sS) (ts : Nat) (from_ : Int) : pst := fun r S1 => S = S1 ∧ (∃ z : Int, r = some (iv z) ∧ (0 ≤ z ∧ z ≤ 5000) ∧ (from_ ≤ z ∧ z ≤ Xi S 876 5))
set_option maxRecDepth 100000 in
theorem t_to_skip {S : sS} (hH : HI S) (ts : Nat) (from_ : Int) (hfrom_ : 0 ≤ from_ ∧ from_ ≤ 5000) (hts : S.2.2 876 4 = some ts) (htp : tp ts) (h5 : from_ ≤ Xi S 876 5) (d : Nat) : Mt lay0 (d + 2) m_to_skip [.ref 876, iv from_] S (Q_to_skip S ts from_) := by
  refine Mt_R rfl rfl ?_
  have w1 : 0 ≤ Xi S 876 5 ∧ Xi S 876 5 ≤ 5000 := hH.c _ _
  have C2 : ∀ (n2 : Nat) (v2 : Int), (0 ≤ v2 ∧ v2 ≤ 5000) → (from_ ≤ v2 ∧ v2 ≤ Xi S 876 5) → n2 = (5001 - v2).toNat → Rl lay0 (d + 1) m_to_skip 2 [(0, .ref 876), (2, iv v2)] [] S (Q_to_skip S ts from_) := by
    intro n2
    induction n2 using Nat.strongRecOn with
    | ind n2 ih2 =>
      intro v2 w2 w3 hm2
      refine l_iload_n rfl rfl ?_
      refine l_aload_n rfl rfl ?_
      refine l_gfi rfl rfl rfl rfl rfl ?_
      have w4 : 0 ≤ (Xi S 876 5) ∧ (Xi S 876 5) ≤ 5000 := hH.c _ _
      refine l_icmp_ge rfl rfl (by unfold rg; omega) (by unfold rg; omega) (fun w5 => ?_) (fun w6 => ?_)
      · refine l_aload_n rfl rfl ?_
        refine l_gfi rfl rfl rfl rfl rfl ?_
        refine l_ireturn rfl rfl ?_
        exact ⟨rfl, _, rfl, ⟨by omega, by omega⟩, (by first | assumption | omega)⟩
      · refine l_aload_n rfl rfl ?_
        refine l_gfr rfl rfl rfl rfl rfl hts ?_
        refine l_iload_n rfl rfl ?_
        refine l_baload (n := 5000) rfl (tp_sv (by assumption)) (lay_tp (by assumption)) (by decide) (by omega) (by omega) (by unfold rg; omega) ?_
        have w8 : -2147483648 ≤ (Xi S ts ((v2).toNat)) ∧ (Xi S ts ((v2).toNat)) ≤ 2147483647 := Xi_rgI
        refine l_istore_n rfl rfl rfl ?_
        refine l_iload_n rfl rfl ?_
        refine l_bipush rfl rfl ?_
        refine l_icmp_ne rfl rfl (by unfold rg; omega) (by unfold rg; omega) (fun w9 => ?_) (fun w10 => ?_)
        · refine l_iload_n rfl rfl ?_
          refine l_bipush rfl rfl ?_
          refine l_icmp_eq rfl rfl (by unfold rg; omega) (by unfold rg; omega) (fun w11 => ?_) (fun w12 => ?_)
          · refine l_iinc rfl rfl rfl rfl ?_
            refine l_goto rfl rfl ?_
            refine l_goto rfl rfl ?_
            exact Rl_weak (ih2 _ (by omega) ((v2 + 1)) (by omega) (by omega) rfl) (And.intro rfl (And.intro rfl (True.intro)))
          · refine l_iload_n rfl rfl ?_
            refine l_bipush rfl rfl ?_
            refine l_icmp_eq rfl rfl (by unfold rg; omega) (by unfold rg; omega) (fun w13 => ?_) (fun w14 => ?_)
            · refine l_iinc rfl rfl rfl rfl ?_
              refine l_goto rfl rfl ?_
              refine l_goto rfl rfl ?_
              exact Rl_weak (ih2 _ (by omega) ((v2 + 1)) (by omega) (by omega) rfl) (And.intro rfl (And.intro rfl (True.intro)))
            · refine l_iload_n rfl rfl ?_
              refine l_bipush rfl rfl ?_
              refine l_icmp_eq rfl rfl (by unfold rg; omega) (by unfold rg; omega) (fun w15 => ?_) (fun w16 => ?_)
              · refine l_iinc rfl rfl rfl rfl ?_
                refine l_goto rfl rfl ?_
                refine l_goto rfl rfl ?_
                exact Rl_weak (ih2 _ (by omega) ((v2 + 1)) (by omega) (by omega) rfl) (And.intro rfl (And.intro rfl (True.intro)))
              · refine l_iload_n rfl rfl ?_
                refine l_bipush rfl rfl ?_
                refine l_icmp_ne rfl rfl (by unfold rg; omega) (by unfold rg; omega) (fun w17 => ?_) (fun w18 => ?_)
                · refine l_iload_n rfl rfl ?_
                  refine l_ireturn rfl rfl ?_
                  exact ⟨rfl, _, rfl, ⟨by omega, by omega⟩, (by first | assumption | omega)⟩
                · refine l_iinc rfl rfl rfl rfl ?_
                  refine l_goto rfl rfl ?_
                  refine l_goto rfl rfl ?_
                  exact Rl_weak (ih2 _ (by omega) ((v2 + 1)) (by omega) (by omega) rfl) (And.intro rfl (And.intro rfl (True.intro)))
        · refine l_aload_n rfl rfl ?_
          refine l_iload_n rfl rfl ?_
          have w19 : 0 ≤ Xi S 876 5 ∧ Xi S 876 5 ≤ 5000 := hH.c _ _
          refine l_callV rfl rfl rfl (t_to_closing hH ts v2 ⟨by omega, by omega⟩ hts htp _) ?_
          rintro _ _ ⟨rfl, z21, rfl, w21, w20⟩
          show Rl _ _ _ _ _ [iv z21] _ _
          refine l_istore rfl rfl rfl ?_
          refine l_iload rfl rfl ?_
          refine l_iconst rfl ?_
          refine l_icmp_ne rfl rfl (by unfold rg; omega) (by unfold rg; omega) (fun w22 => ?_) (fun w23 => ?_)
          · refine l_iload rfl rfl ?_
            refine l_iconst rfl ?_
            refine l_iadd rfl ?_
            refine l_istore_n rfl rfl rfl ?_
            refine l_goto rfl rfl ?_
            refine l_goto rfl rfl ?_
            exact Rl_weak (ih2 _ (by omega) ((z21 + 1)) (by omega) (by omega) rfl) (And.intro rfl (And.intro rfl (True.intro)))
          · refine l_iload_n rfl rfl ?_
            refine l_ireturn rfl rfl ?_
            exact ⟨rfl, _, rfl, ⟨by omega, by omega⟩, (by first | assumption | omega)⟩
  refine l_iload_n rfl rfl ?_
  refine l_istore_n rfl rfl rfl ?_
  exact Rl_weak (C2 _ (from_) (by omega) (by omega) rfl) (And.intro rfl (And.intro rfl (True.intro)))
abbrev Q_to_keyOf (S : sS) (code : Int) : pst := fun r S1 => S = S1 ∧ (∃ z : Int, r = some (iv z) ∧ (0 ≤ z ∧ z ≤ 100))
set_option maxRecDepth 100000 in
theorem t_to_keyOf {S : sS} (hH : HI S) (code : Int) (d : Nat) : Mt lay0 (d + 1) m_to_keyOf [.ref 876, jw code] S (Q_to_keyOf S code) := by
  refine Mt_R rfl rfl ?_
  have C2 : ∀ (n2 : Nat) (v3 : Int), (0 ≤ v3 ∧ v3 ≤ 55) → n2 = (56 - v3).toNat → Rl lay0 (d + 0) m_to_keyOf 2 [(0, .ref 876), (1, jw code), (3, iv v3)] [] S (Q_to_keyOf S code) := by
    intro n2
    induction n2 using Nat.strongRecOn with
    | ind n2 ih2 =>
      intro v3 w1 hm2
      refine l_iload_n rfl rfl ?_
      refine l_bipush rfl rfl ?_
      refine l_icmp_ge rfl rfl (by unfold rg; omega) (by unfold rg; omega) (fun w2 => ?_) (fun w3 => ?_)
      · refine l_bipush rfl rfl ?_
        refine l_ireturn rfl rfl ?_
        exact ⟨rfl, _, rfl, ⟨by omega, by omega⟩⟩
      · refine l_aload_n rfl rfl ?_
        refine l_gfr rfl rfl rfl rfl rfl (hH.r 876 3 880 rfl) ?_
        refine l_iload_n rfl rfl ?_
        refine l_laload (n := 55) rfl rfl (by omega) (by omega) (by unfold rg; omega) ?_
        have w4 : -9223372036854775808 ≤ (Xj S 880 ((v3).toNat)) ∧ (Xj S 880 ((v3).toNat)) < 9223372036854775808 := Xj_rg
        refine l_lload_n rfl rfl ?_
        refine l_lcmpA rfl (fun c5 w5 => ?_)
        refine l_if_ne rfl rfl (by unfold rg; omega) (fun w6 => ?_) (fun w7 => ?_)
        · refine l_iinc rfl rfl rfl rfl ?_
          refine l_goto rfl rfl ?_
          exact Rl_weak (ih2 _ (by omega) ((v3 + 1)) (by omega) rfl) (And.intro rfl (And.intro rfl (And.intro rfl (True.intro))))
        · refine l_iload_n rfl rfl ?_
          refine l_ireturn rfl rfl ?_
          exact ⟨rfl, _, rfl, ⟨by omega, by omega⟩⟩
  refine l_iconst rfl ?_
  refine l_istore_n rfl rfl rfl ?_
  exact Rl_weak (C2 _ (0) (by omega) rfl) (And.intro rfl (And.intro rfl (And.intro rfl (True.intro))))
def md_to_note : List rec := [(876, 877, 7, 8), (877, 878, 0, 100000), (878, 879, 0, 100000), (879, 880, 0, 100000)]
abbrev Q_to_note (S : sS) (ty : Int) (pl : Int) (v : Int) : pst := fun r S1 => HI S1 ∧ FR md_to_note S S1 ∧ (r = none ∧ (TOK S1) ∧ ((Xi S 876 7 < 5130 → Xi S1 876 7 = Xi S 876 7 + 1) ∧ (5130 ≤ Xi S 876 7 → Xi S1 876 7 = Xi S 876 7)))
set_option maxRecDepth 100000 in
theorem t_to_note {S : sS} (hH : HI S) (ty : Int) (pl : Int) (v : Int) (hty : 0 ≤ ty ∧ ty ≤ 108) (hpl : 0 ≤ pl ∧ pl ≤ 5000) (hT : TOK S) (hv : ty = 102 → 0 ≤ v ∧ v ≤ 120 ∧ pl + v + 2 ≤ Xi S 876 5) (d : Nat) : Mt lay0 (d + 1) m_to_note [.ref 876, iv ty, iv pl, jw v] S (Q_to_note S ty pl v) := by
  refine Mt_R rfl rfl ?_
  have hF : FR md_to_note S S := FR.rf
  have w1 : 0 ≤ Xi S 876 5 ∧ Xi S 876 5 ≤ 5000 := hH.c _ _
  have w2 : 0 ≤ Xi S 876 7 ∧ Xi S 876 7 ≤ 5130 := hH.c _ _
  refine l_aload_n rfl rfl ?_
  refine l_gfi rfl rfl rfl rfl rfl ?_
  have w3 : 0 ≤ (Xi S 876 7) ∧ (Xi S 876 7) ≤ 5130 := hH.c _ _
  refine l_sipush rfl rfl ?_
  refine l_icmp_ge rfl rfl (by unfold rg; omega) (by unfold rg; omega) (fun w4 => ?_) (fun w5 => ?_)
  · refine l_return rfl rfl ?_
    have w6 : 0 ≤ Xi S 876 7 ∧ Xi S 876 7 ≤ 5130 := hH.c _ _
    exact ⟨hH, hF, rfl, (by first | exact hT | exact tok_note hT (by omega) (by omega) eU1 eU2 eU3 eU4 hty hpl hv), (by first | omega | (constructor <;> omega))⟩
  · refine l_aload_n rfl rfl ?_
    refine l_gfr rfl rfl rfl rfl rfl (hH.r 876 0 877 rfl) ?_
    refine l_aload_n rfl rfl ?_
    refine l_gfi rfl rfl rfl rfl rfl ?_
    refine l_iload_n rfl rfl ?_
    refine l_iastore (n := 5130) rfl rfl (by omega) (by omega) (by unfold rg; omega) ?_
    obtain ⟨U1, eU1⟩ : ∃ T : sS, T = uI S 877 (((Xi S 876 7)).toNat) (Int32.ofInt ty) := ⟨_, rfl⟩
    rw [← eU1]
    have hHU1 : HI U1 := by rw [eU1]; exact HI_w hH (show 0 ≤ ty by omega) (show ty ≤ 108 by omega)
    have hFU1 : FR md_to_note S U1 := by rw [eU1]; exact FR.wI hF (mdf_i (r := (877, 878, 0, 100000)) (List.mem_of_getElem? (i := 1) rfl) (inR_i (by omega) (by omega) (by omega) (by omega)))
    have w7 : Xi U1 877 (((Xi S 876 7)).toNat) = ty := by rw [eU1]; exact Xi_same (by unfold rg; omega)
    refine l_aload_n rfl rfl ?_
    refine l_gfr rfl rfl rfl rfl rfl (hHU1.r 876 1 878 rfl) ?_
    refine l_aload_n rfl rfl ?_
    refine l_gfi rfl rfl rfl rfl rfl ?_
    have w8 : (Xi U1 876 7) = (Xi S 876 7) := (show Xi U1 876 7 = Xi S 876 7 from by rw [eU1]; exact Xi_ne (by omega))
    rw [w8]
    refine l_iload_n rfl rfl ?_
    refine l_iastore (n := 5130) rfl rfl (by omega) (by omega) (by unfold rg; omega) ?_
    obtain ⟨U2, eU2⟩ : ∃ T : sS, T = uI U1 878 (((Xi S 876 7)).toNat) (Int32.ofInt pl) := ⟨_, rfl⟩
    rw [← eU2]
    have hHU2 : HI U2 := by rw [eU2]; exact HI_w hHU1 (show 0 ≤ pl by omega) (show pl ≤ 5000 by omega)
    have hFU2 : FR md_to_note S U2 := by rw [eU2]; exact FR.wI hFU1 (mdf_i (r := (878, 879, 0, 100000)) (List.mem_of_getElem? (i := 2) rfl) (inR_i (by omega) (by omega) (by omega) (by omega)))
    have w9 : Xi U2 878 (((Xi S 876 7)).toNat) = pl := by rw [eU2]; exact Xi_same (by unfold rg; omega)
    refine l_aload_n rfl rfl ?_
    refine l_gfr rfl rfl rfl rfl rfl (hHU2.r 876 2 879 rfl) ?_
    refine l_aload_n rfl rfl ?_
    refine l_gfi rfl rfl rfl rfl rfl ?_
    have w10 : (Xi U2 876 7) = (Xi S 876 7) := (show Xi U2 876 7 = Xi U1 876 7 from by rw [eU2]; exact Xi_ne (by omega)).trans ((show Xi U1 876 7 = Xi S 876 7 from by rw [eU1]; exact Xi_ne (by omega)))
    rw [w10]
    refine l_lload_n rfl rfl ?_
    refine l_lastore (n := 5130) rfl rfl (by omega) (by omega) (by unfold rg; omega) ?_
    obtain ⟨U3, eU3⟩ : ∃ T : sS, T = uJ U2 879 (((Xi S 876 7)).toNat) (Int64.ofInt v) := ⟨_, rfl⟩
    rw [← eU3]
    have hHU3 : HI U3 := by rw [eU3]; exact HI_J hHU2
    have hFU3 : FR md_to_note S U3 := by rw [eU3]; exact FR.wJ hFU2 (mdf_i (r := (879, 880, 0, 100000)) (List.mem_of_getElem? (i := 3) rfl) (inR_i (by omega) (by omega) (by omega) (by omega)))
    refine l_aload_n rfl rfl ?_
    refine l_dup rfl rfl ?_
    refine l_gfi rfl rfl rfl rfl rfl ?_
    have w11 : (Xi U3 876 7) = (Xi S 876 7) := (show Xi U3 876 7 = Xi U2 876 7 from by rw [eU3]; rfl).trans ( (show Xi U2 876 7 = Xi U1 876 7 from by rw [eU2]; exact Xi_ne (by omega)).trans ((show Xi U1 876 7 = Xi S 876 7 from by rw [eU1]; exact Xi_ne (by omega))))
    rw [w11]
    refine l_iconst rfl ?_
    refine l_iadd rfl ?_
    refine l_pfi rfl rfl rfl rfl ?_
    obtain ⟨U4, eU4⟩ : ∃ T : sS, T = uI U3 876 7 (Int32.ofInt ((Xi S 876 7) + 1)) := ⟨_, rfl⟩
    rw [← eU4]
    have hHU4 : HI U4 := by rw [eU4]; exact HI_w hHU3 (show 0 ≤ ((Xi S 876 7) + 1) by omega) (show ((Xi S 876 7) + 1) ≤ 5130 by omega)
    have hFU4 : FR md_to_note S U4 := by rw [eU4]; exact FR.wI hFU3 (mdf_i (r := (876, 877, 7, 8)) (List.mem_of_getElem? (i := 0) rfl) (inR_i (by omega) (by omega) (by omega) (by omega)))
    have w12 : Xi U4 876 7 = ((Xi S 876 7) + 1) := by rw [eU4]; exact Xi_same (by unfold rg; omega)
    refine l_return rfl rfl ?_
    have w13 : 0 ≤ Xi U4 876 7 ∧ Xi U4 876 7 ≤ 5130 := hHU4.c _ _
    exact ⟨hHU4, hFU4, rfl, (by first | exact hT | exact tok_note hT (by omega) (by omega) eU1 eU2 eU3 eU4 hty hpl hv), (by first | omega | (constructor <;> omega))⟩
def md_to_scanWord : List rec := [(876, 877, 7, 8), (877, 878, 0, 100000), (878, 879, 0, 100000), (879, 880, 0, 100000)]
abbrev Q_to_scanWord (S : sS) (ts : Nat) (from_ : Int) (limit : Int) : pst := fun r S1 => HI S1 ∧ FR md_to_scanWord S S1 ∧ (∃ z : Int, r = some (iv z) ∧ (-1 ≤ z ∧ z ≤ 5000) ∧ (TOK S1) ∧ (z = -1 ∨ (from_ < z ∧ z ≤ limit)) ∧ (Xi S 876 7 ≤ Xi S1 876 7) ∧ (z ≠ -1 → 1 ≤ Xi S1 876 7))
set_option maxRecDepth 100000 in
theorem t_to_scanWord {S : sS} (hH : HI S) (ts : Nat) (from_ : Int) (limit : Int) (hfrom_ : 0 ≤ from_ ∧ from_ ≤ 5000) (hlimit : 0 ≤ limit ∧ limit ≤ 5000) (hts : S.2.2 876 4 = some ts) (htp : tp ts) (hT : TOK S) (d : Nat) : Mt lay0 (d + 2) m_to_scanWord [.ref 876, iv from_, iv limit] S (Q_to_scanWord S ts from_ limit) := by
  refine Mt_R rfl rfl ?_
  have hF : FR md_to_scanWord S S := FR.rf
  have w1 : 0 ≤ Xi S 876 7 ∧ Xi S 876 7 ≤ 5130 := hH.c _ _
  have C5 : ∀ (n5 : Nat) (v3 : Int) (v5 : Int), (0 ≤ v5 ∧ v5 ≤ 5000) → (from_ ≤ v5 ∧ (v5 ≤ limit ∨ v5 = from_)) → n5 = (5001 - v5).toNat → Rl lay0 (d + 1) m_to_scanWord 5 [(0, .ref 876), (1, iv from_), (2, iv limit), (3, jw v3), (5, iv v5)] [] S (Q_to_scanWord S ts from_ limit) := by
    intro n5
    induction n5 using Nat.strongRecOn with
    | ind n5 ih5 =>
      intro v3 v5 w2 w3 hm5
      have C61 : ∀  (v3 : Int) (v5 : Int), (0 ≤ v5 ∧ v5 ≤ 5000) → (from_ ≤ v5 ∧ (v5 ≤ limit ∨ v5 = from_)) → Rl lay0 (d + 1) m_to_scanWord 61 [(0, .ref 876), (1, iv from_), (3, jw v3), (5, iv v5)] [] S (Q_to_scanWord S ts from_ limit) := by
        intro v3 v5 w4 w5
        refine l_iload rfl rfl ?_
        refine l_iload_n rfl rfl ?_
        refine l_icmp_eq rfl rfl (by unfold rg; omega) (by unfold rg; omega) (fun w6 => ?_) (fun w7 => ?_)
        · refine l_iconst rfl ?_
          refine l_ireturn rfl rfl ?_
          have w8 : 0 ≤ Xi S 876 7 ∧ Xi S 876 7 ≤ 5130 := hH.c _ _
          exact ⟨hH, hF, _, rfl, ⟨by omega, by omega⟩, (by first | exact hT | assumption), (by omega), (by omega), (by omega)⟩
        · refine l_iload rfl rfl ?_
          refine l_iload_n rfl rfl ?_
          refine l_isub rfl ?_
          refine l_bipush rfl rfl ?_
          refine l_icmp_le rfl rfl (by unfold rg; omega) (by unfold rg; omega) (fun w9 => ?_) (fun w10 => ?_)
          · refine l_aload_n rfl rfl ?_
            refine l_aload_n rfl rfl ?_
            refine l_lload_n rfl rfl ?_
            refine l_callV rfl rfl rfl (t_to_keyOf hH v3 _) ?_
            rintro _ _ ⟨rfl, z11, rfl, w11⟩
            show Rl _ _ _ _ _ [iv z11, .ref 876] _ _
            refine l_iload_n rfl rfl ?_
            refine l_lload_n rfl rfl ?_
            have w12 : 0 ≤ Xi S 876 5 ∧ Xi S 876 5 ≤ 5000 := hH.c _ _
            have w13 : 0 ≤ Xi S 876 7 ∧ Xi S 876 7 ≤ 5130 := hH.c _ _
            refine l_callV rfl rfl rfl (t_to_note hH z11 from_ v3 ⟨by omega, by omega⟩ ⟨by omega, by omega⟩ (hT) (by first | assumption | omega) _) ?_
            rintro _ T1 ⟨hHT1, w17, rfl, w14, w15⟩
            have hFT1 : FR md_to_scanWord S T1 := FR.tr hF w17 rfl
            show Rl _ _ _ _ _ [] _ _
            refine l_iload rfl rfl ?_
            refine l_ireturn rfl rfl ?_
            have w18 : 0 ≤ Xi T1 876 7 ∧ Xi T1 876 7 ≤ 5130 := hHT1.c _ _
            exact ⟨hHT1, hFT1, _, rfl, ⟨by omega, by omega⟩, (by first | exact hT | assumption), (by omega), (by omega), (by omega)⟩
          · refine l_iconst rfl ?_
            refine l_ireturn rfl rfl ?_
            have w19 : 0 ≤ Xi S 876 7 ∧ Xi S 876 7 ≤ 5130 := hH.c _ _
            exact ⟨hH, hF, _, rfl, ⟨by omega, by omega⟩, (by first | exact hT | assumption), (by omega), (by omega), (by omega)⟩
      refine l_iload rfl rfl ?_
      refine l_iload_n rfl rfl ?_
      refine l_icmp_ge rfl rfl (by unfold rg; omega) (by unfold rg; omega) (fun w20 => ?_) (fun w21 => ?_)
      · exact Rl_weak (C61 (v3) (v5) (by omega) (by omega)) (And.intro rfl (And.intro rfl (And.intro rfl (And.intro rfl (True.intro)))))
      · refine l_aload_n rfl rfl ?_
        refine l_gfr rfl rfl rfl rfl rfl ((hF 876 4 rfl).2.2.trans hts) ?_
        refine l_iload rfl rfl ?_
        refine l_baload (n := 5000) rfl (tp_sv (by assumption)) (lay_tp (by assumption)) (by decide) (by omega) (by omega) (by unfold rg; omega) ?_
        have w23 : -2147483648 ≤ (Xi S ts ((v5).toNat)) ∧ (Xi S ts ((v5).toNat)) ≤ 2147483647 := Xi_rgI
        refine l_callS rfl rfl (by decide) rfl (t_rs_letterOf hH (Xi S ts ((v5).toNat)) ⟨by omega, by omega⟩ _) ?_
        rintro _ _ ⟨rfl, z24, rfl, w24⟩
        show Rl _ _ _ _ _ [iv z24] _ _
        refine l_if_le rfl rfl (by unfold rg; omega) (fun w25 => ?_) (fun w26 => ?_)
        · exact Rl_weak (C61 (v3) (v5) (by omega) (by omega)) (And.intro rfl (And.intro rfl (And.intro rfl (And.intro rfl (True.intro)))))
        · refine l_iload rfl rfl ?_
          refine l_iload_n rfl rfl ?_
          refine l_isub rfl ?_
          refine l_bipush rfl rfl ?_
          refine l_icmp_ge rfl rfl (by unfold rg; omega) (by unfold rg; omega) (fun w27 => ?_) (fun w28 => ?_)
          · refine l_lload_n rfl rfl ?_
            refine l_lstore_n rfl rfl rfl rfl ?_
            refine l_iinc rfl rfl rfl rfl ?_
            refine l_goto rfl rfl ?_
            exact Rl_weak (ih5 _ (by omega) (v3) ((v5 + 1)) (by omega) (by omega) rfl) (And.intro rfl (And.intro rfl (And.intro rfl (And.intro rfl (And.intro rfl (True.intro))))))
          · refine l_lload_n rfl rfl ?_
            refine l_ldc2 (z := 27) rfl rfl ?_
            refine l_lmul rfl ?_
            refine l_aload_n rfl rfl ?_
            refine l_gfr rfl rfl rfl rfl rfl ((hF 876 4 rfl).2.2.trans hts) ?_
            refine l_iload rfl rfl ?_
            refine l_baload (n := 5000) rfl (tp_sv (by assumption)) (lay_tp (by assumption)) (by decide) (by omega) (by omega) (by unfold rg; omega) ?_
            refine l_callS rfl rfl (by decide) rfl (t_rs_letterOf hH (Xi S ts ((v5).toNat)) ⟨by omega, by omega⟩ _) ?_
            rintro _ _ ⟨rfl, z30, rfl, w30⟩
            show Rl _ _ _ _ _ [iv z30, jw (v3 * 27)] _ _
            refine l_i2l rfl (by unfold rg; omega) ?_
            refine l_ladd rfl ?_
            refine l_goto rfl rfl ?_
            refine l_lstore_n rfl rfl rfl rfl ?_
            refine l_iinc rfl rfl rfl rfl ?_
            refine l_goto rfl rfl ?_
            exact Rl_weak (ih5 _ (by omega) (((v3 * 27) + z30)) ((v5 + 1)) (by omega) (by omega) rfl) (And.intro rfl (And.intro rfl (And.intro rfl (And.intro rfl (And.intro rfl (True.intro))))))
  refine l_lconst (z := 0) rfl rfl ?_
  refine l_lstore_n rfl rfl rfl rfl ?_
  refine l_iload_n rfl rfl ?_
  refine l_istore rfl rfl rfl ?_
  exact Rl_weak (C5 _ (0) (from_) (by omega) (by omega) rfl) (And.intro rfl (And.intro rfl (And.intro rfl (And.intro rfl (And.intro rfl (True.intro))))))
def md_to_scanNumber : List rec := [(876, 877, 7, 8), (877, 878, 0, 100000), (878, 879, 0, 100000), (879, 880, 0, 100000)]
abbrev Q_to_scanNumber (S : sS) (ts : Nat) (from_ : Int) : pst := fun r S1 => HI S1 ∧ FR md_to_scanNumber S S1 ∧ (∃ z : Int, r = some (iv z) ∧ (-1 ≤ z ∧ z ≤ 5000) ∧ (TOK S1) ∧ (z = -1 ∨ (from_ < z ∧ z ≤ Xi S 876 5)) ∧ (Xi S 876 7 ≤ Xi S1 876 7) ∧ (z ≠ -1 → 1 ≤ Xi S1 876 7))
set_option maxRecDepth 100000 in
theorem t_to_scanNumber {S : sS} (hH : HI S) (ts : Nat) (from_ : Int) (hfrom_ : 0 ≤ from_ ∧ from_ ≤ 4999) (hts : S.2.2 876 4 = some ts) (htp : tp ts) (hT : TOK S) (hb : 48 ≤ Xi S ts from_.toNat ∧ Xi S ts from_.toNat ≤ 57) (he : from_ < Xi S 876 5) (d : Nat) : Mt lay0 (d + 2) m_to_scanNumber [.ref 876, iv from_] S (Q_to_scanNumber S ts from_) := by
  refine Mt_R rfl rfl ?_
  have hF : FR md_to_scanNumber S S := FR.rf
  have w1 : 0 ≤ Xi S 876 5 ∧ Xi S 876 5 ≤ 5000 := hH.c _ _
  have w2 : 0 ≤ Xi S 876 7 ∧ Xi S 876 7 ≤ 5130 := hH.c _ _
  have C4 : ∀ (n4 : Nat) (v2 : Int) (v3 : Int), (0 ≤ v2 ∧ v2 ≤ 999999) → (0 ≤ v3 ∧ v3 ≤ 5000) → (from_ ≤ v3 ∧ v3 ≤ Xi S 876 5) → (v3 = from_ → 48 ≤ Xi S ts v3.toNat ∧ Xi S ts v3.toNat ≤ 57) → (v3 = from_ → v2 = 0) → (v3 = from_ + 1 → v2 ≤ 9) → (v3 = from_ + 2 → v2 ≤ 99) → (v3 = from_ + 3 → v2 ≤ 999) → (v3 = from_ + 4 → v2 ≤ 9999) → (v3 = from_ + 5 → v2 ≤ 99999) → n4 = (5001 - v3).toNat → Rl lay0 (d + 1) m_to_scanNumber 4 [(0, .ref 876), (1, iv from_), (2, iv v2), (3, iv v3)] [] S (Q_to_scanNumber S ts from_) := by
    intro n4
    induction n4 using Nat.strongRecOn with
    | ind n4 ih4 =>
      intro v2 v3 w3 w4 w5 w6 w7 w8 w9 w10 w11 w12 hm4
      have C67 : ∀  (v2 : Int) (v3 : Int), (0 ≤ v2 ∧ v2 ≤ 999999) → (0 ≤ v3 ∧ v3 ≤ 5000) → (from_ < v3 ∧ v3 ≤ Xi S 876 5) → Rl lay0 (d + 1) m_to_scanNumber 67 [(0, .ref 876), (1, iv from_), (2, iv v2), (3, iv v3)] [] S (Q_to_scanNumber S ts from_) := by
        intro v2 v3 w13 w14 w15
        refine l_iload_n rfl rfl ?_
        refine l_iload_n rfl rfl ?_
        refine l_isub rfl ?_
        refine l_bipush rfl rfl ?_
        refine l_icmp_le rfl rfl (by unfold rg; omega) (by unfold rg; omega) (fun w16 => ?_) (fun w17 => ?_)
        · refine l_aload_n rfl rfl ?_
          refine l_bipush rfl rfl ?_
          refine l_iload_n rfl rfl ?_
          refine l_iload_n rfl rfl ?_
          refine l_i2l rfl (by unfold rg; omega) ?_
          have w18 : 0 ≤ Xi S 876 5 ∧ Xi S 876 5 ≤ 5000 := hH.c _ _
          have w19 : 0 ≤ Xi S 876 7 ∧ Xi S 876 7 ≤ 5130 := hH.c _ _
          refine l_callV rfl rfl rfl (t_to_note hH 101 from_ v2 ⟨by omega, by omega⟩ ⟨by omega, by omega⟩ (hT) (by first | assumption | omega) _) ?_
          rintro _ T1 ⟨hHT1, w23, rfl, w20, w21⟩
          have hFT1 : FR md_to_scanNumber S T1 := FR.tr hF w23 rfl
          show Rl _ _ _ _ _ [] _ _
          refine l_iload_n rfl rfl ?_
          refine l_ireturn rfl rfl ?_
          have w24 : 0 ≤ Xi T1 876 7 ∧ Xi T1 876 7 ≤ 5130 := hHT1.c _ _
          exact ⟨hHT1, hFT1, _, rfl, ⟨by omega, by omega⟩, (by first | exact hT | assumption), (by omega), (by omega), (by omega)⟩
        · refine l_iconst rfl ?_
          refine l_ireturn rfl rfl ?_
          have w25 : 0 ≤ Xi S 876 7 ∧ Xi S 876 7 ≤ 5130 := hH.c _ _
          exact ⟨hH, hF, _, rfl, ⟨by omega, by omega⟩, (by first | exact hT | assumption), (by omega), (by omega), (by omega)⟩
      refine l_iload_n rfl rfl ?_
      refine l_aload_n rfl rfl ?_
      refine l_gfi rfl rfl rfl rfl rfl ?_
      have w26 : 0 ≤ (Xi S 876 5) ∧ (Xi S 876 5) ≤ 5000 := hH.c _ _
      refine l_icmp_ge rfl rfl (by unfold rg; omega) (by unfold rg; omega) (fun w27 => ?_) (fun w28 => ?_)
      · exact Rl_weak (C67 (v2) (v3) (by omega) (by omega) (by omega)) (And.intro rfl (And.intro rfl (And.intro rfl (And.intro rfl (True.intro)))))
      · refine l_aload_n rfl rfl ?_
        refine l_gfr rfl rfl rfl rfl rfl ((hF 876 4 rfl).2.2.trans hts) ?_
        refine l_iload_n rfl rfl ?_
        refine l_baload (n := 5000) rfl (tp_sv (by assumption)) (lay_tp (by assumption)) (by decide) (by omega) (by omega) (by unfold rg; omega) ?_
        have w30 : -2147483648 ≤ (Xi S ts ((v3).toNat)) ∧ (Xi S ts ((v3).toNat)) ≤ 2147483647 := Xi_rgI
        refine l_bipush rfl rfl ?_
        refine l_icmp_lt rfl rfl (by unfold rg; omega) (by unfold rg; omega) (fun w31 => ?_) (fun w32 => ?_)
        · exact Rl_weak (C67 (v2) (v3) (by omega) (by omega) (by omega)) (And.intro rfl (And.intro rfl (And.intro rfl (And.intro rfl (True.intro)))))
        · refine l_aload_n rfl rfl ?_
          refine l_gfr rfl rfl rfl rfl rfl ((hF 876 4 rfl).2.2.trans hts) ?_
          refine l_iload_n rfl rfl ?_
          refine l_baload (n := 5000) rfl (tp_sv (by assumption)) (lay_tp (by assumption)) (by decide) (by omega) (by omega) (by unfold rg; omega) ?_
          refine l_bipush rfl rfl ?_
          refine l_icmp_gt rfl rfl (by unfold rg; omega) (by unfold rg; omega) (fun w34 => ?_) (fun w35 => ?_)
          · exact Rl_weak (C67 (v2) (v3) (by omega) (by omega) (by omega)) (And.intro rfl (And.intro rfl (And.intro rfl (And.intro rfl (True.intro)))))
          · refine l_iload_n rfl rfl ?_
            refine l_iload_n rfl rfl ?_
            refine l_isub rfl ?_
            refine l_bipush rfl rfl ?_
            refine l_icmp_ge rfl rfl (by unfold rg; omega) (by unfold rg; omega) (fun w36 => ?_) (fun w37 => ?_)
            · refine l_iload_n rfl rfl ?_
              refine l_istore_n rfl rfl rfl ?_
              refine l_iinc rfl rfl rfl rfl ?_
              refine l_goto rfl rfl ?_
              exact Rl_weak (ih4 _ (by omega) (v2) ((v3 + 1)) (by omega) (by omega) (by omega) (by omega) (by omega) (by omega) (by omega) (by omega) (by omega) (by omega) rfl) (And.intro rfl (And.intro rfl (And.intro rfl (And.intro rfl (True.intro)))))
            · refine l_iload_n rfl rfl ?_
              refine l_bipush rfl rfl ?_
              refine l_imul rfl ?_
              refine l_aload_n rfl rfl ?_
              refine l_gfr rfl rfl rfl rfl rfl ((hF 876 4 rfl).2.2.trans hts) ?_
              refine l_iload_n rfl rfl ?_
              refine l_baload (n := 5000) rfl (tp_sv (by assumption)) (lay_tp (by assumption)) (by decide) (by omega) (by omega) (by unfold rg; omega) ?_
              refine l_iadd rfl ?_
              refine l_bipush rfl rfl ?_
              refine l_isub rfl ?_
              refine l_goto rfl rfl ?_
              refine l_istore_n rfl rfl rfl ?_
              refine l_iinc rfl rfl rfl rfl ?_
              refine l_goto rfl rfl ?_
              exact Rl_weak (ih4 _ (by omega) ((((v2 * 10) + (Xi S ts ((v3).toNat))) - 48)) ((v3 + 1)) (by omega) (by omega) (by omega) (by omega) (by omega) (by omega) (by omega) (by omega) (by omega) (by omega) rfl) (And.intro rfl (And.intro rfl (And.intro rfl (And.intro rfl (True.intro)))))
  refine l_iconst rfl ?_
  refine l_istore_n rfl rfl rfl ?_
  refine l_iload_n rfl rfl ?_
  refine l_istore_n rfl rfl rfl ?_
  exact Rl_weak (C4 _ (0) (from_) (by omega) (by omega) (by omega) (by omega) (by omega) (by omega) (by omega) (by omega) (by omega) (by omega) rfl) (And.intro rfl (And.intro rfl (And.intro rfl (And.intro rfl (True.intro)))))
def md_to_scanText : List rec := [(876, 877, 7, 8), (877, 878, 0, 100000), (878, 879, 0, 100000), (879, 880, 0, 100000)]
abbrev Q_to_scanText (S : sS) (ts : Nat) (from_ : Int) : pst := fun r S1 => HI S1 ∧ FR md_to_scanText S S1 ∧ (∃ z : Int, r = some (iv z) ∧ (-1 ≤ z ∧ z ≤ 5000) ∧ (TOK S1) ∧ (z = -1 ∨ (from_ < z ∧ z ≤ Xi S 876 5)) ∧ (Xi S 876 7 ≤ Xi S1 876 7) ∧ (z ≠ -1 → 1 ≤ Xi S1 876 7))
set_option maxRecDepth 100000 in
theorem t_to_scanText {S : sS} (hH : HI S) (ts : Nat) (from_ : Int) (hfrom_ : 0 ≤ from_ ∧ from_ ≤ 4999) (hts : S.2.2 876 4 = some ts) (htp : tp ts) (hT : TOK S) (he : from_ < Xi S 876 5) (d : Nat) : Mt lay0 (d + 2) m_to_scanText [.ref 876, iv from_] S (Q_to_scanText S ts from_) := by
  refine Mt_R rfl rfl ?_
  have hF : FR md_to_scanText S S := FR.rf
  have w1 : 0 ≤ Xi S 876 5 ∧ Xi S 876 5 ≤ 5000 := hH.c _ _
  have w2 : 0 ≤ Xi S 876 7 ∧ Xi S 876 7 ≤ 5130 := hH.c _ _
  have C4 : ∀ (n4 : Nat) (v2 : Int), (1 ≤ v2 ∧ v2 ≤ 5000) → (from_ < v2 ∧ v2 ≤ Xi S 876 5) → n4 = (5001 - v2).toNat → Rl lay0 (d + 1) m_to_scanText 4 [(0, .ref 876), (1, iv from_), (2, iv v2)] [] S (Q_to_scanText S ts from_) := by
    intro n4
    induction n4 using Nat.strongRecOn with
    | ind n4 ih4 =>
      intro v2 w3 w4 hm4
      have C53 : ∀  (v2 : Int), (1 ≤ v2 ∧ v2 ≤ 5000) → (from_ < v2 ∧ v2 ≤ Xi S 876 5) → Rl lay0 (d + 1) m_to_scanText 53 [(0, .ref 876), (1, iv from_), (2, iv v2)] [] S (Q_to_scanText S ts from_) := by
        intro v2 w5 w6
        refine l_iload_n rfl rfl ?_
        refine l_aload_n rfl rfl ?_
        refine l_gfi rfl rfl rfl rfl rfl ?_
        have w7 : 0 ≤ (Xi S 876 5) ∧ (Xi S 876 5) ≤ 5000 := hH.c _ _
        refine l_icmp_ge rfl rfl (by unfold rg; omega) (by unfold rg; omega) (fun w8 => ?_) (fun w9 => ?_)
        · refine l_iconst rfl ?_
          refine l_ireturn rfl rfl ?_
          have w10 : 0 ≤ Xi S 876 7 ∧ Xi S 876 7 ≤ 5130 := hH.c _ _
          exact ⟨hH, hF, _, rfl, ⟨by omega, by omega⟩, (by first | exact hT | assumption), (by omega), (by omega), (by omega)⟩
        · refine l_iload_n rfl rfl ?_
          refine l_iload_n rfl rfl ?_
          refine l_isub rfl ?_
          refine l_iconst rfl ?_
          refine l_isub rfl ?_
          refine l_bipush rfl rfl ?_
          refine l_icmp_le rfl rfl (by unfold rg; omega) (by unfold rg; omega) (fun w11 => ?_) (fun w12 => ?_)
          · refine l_aload_n rfl rfl ?_
            refine l_bipush rfl rfl ?_
            refine l_iload_n rfl rfl ?_
            refine l_iload_n rfl rfl ?_
            refine l_iload_n rfl rfl ?_
            refine l_isub rfl ?_
            refine l_iconst rfl ?_
            refine l_isub rfl ?_
            refine l_i2l rfl (by unfold rg; omega) ?_
            have w13 : 0 ≤ Xi S 876 5 ∧ Xi S 876 5 ≤ 5000 := hH.c _ _
            have w14 : 0 ≤ Xi S 876 7 ∧ Xi S 876 7 ≤ 5130 := hH.c _ _
            refine l_callV rfl rfl rfl (t_to_note hH 102 from_ ((v2 - from_) - 1) ⟨by omega, by omega⟩ ⟨by omega, by omega⟩ (hT) (by first | assumption | omega) _) ?_
            rintro _ T1 ⟨hHT1, w18, rfl, w15, w16⟩
            have hFT1 : FR md_to_scanText S T1 := FR.tr hF w18 rfl
            show Rl _ _ _ _ _ [] _ _
            refine l_iload_n rfl rfl ?_
            refine l_iconst rfl ?_
            refine l_iadd rfl ?_
            refine l_ireturn rfl rfl ?_
            have w19 : 0 ≤ Xi T1 876 7 ∧ Xi T1 876 7 ≤ 5130 := hHT1.c _ _
            exact ⟨hHT1, hFT1, _, rfl, ⟨by omega, by omega⟩, (by first | exact hT | assumption), (by omega), (by omega), (by omega)⟩
          · refine l_iconst rfl ?_
            refine l_ireturn rfl rfl ?_
            have w20 : 0 ≤ Xi S 876 7 ∧ Xi S 876 7 ≤ 5130 := hH.c _ _
            exact ⟨hH, hF, _, rfl, ⟨by omega, by omega⟩, (by first | exact hT | assumption), (by omega), (by omega), (by omega)⟩
      refine l_iload_n rfl rfl ?_
      refine l_aload_n rfl rfl ?_
      refine l_gfi rfl rfl rfl rfl rfl ?_
      have w21 : 0 ≤ (Xi S 876 5) ∧ (Xi S 876 5) ≤ 5000 := hH.c _ _
      refine l_icmp_ge rfl rfl (by unfold rg; omega) (by unfold rg; omega) (fun w22 => ?_) (fun w23 => ?_)
      · exact Rl_weak (C53 (v2) (by omega) (by omega)) (And.intro rfl (And.intro rfl (And.intro rfl (True.intro))))
      · refine l_aload_n rfl rfl ?_
        refine l_gfr rfl rfl rfl rfl rfl ((hF 876 4 rfl).2.2.trans hts) ?_
        refine l_iload_n rfl rfl ?_
        refine l_baload (n := 5000) rfl (tp_sv (by assumption)) (lay_tp (by assumption)) (by decide) (by omega) (by omega) (by unfold rg; omega) ?_
        have w25 : -2147483648 ≤ (Xi S ts ((v2).toNat)) ∧ (Xi S ts ((v2).toNat)) ≤ 2147483647 := Xi_rgI
        refine l_bipush rfl rfl ?_
        refine l_icmp_eq rfl rfl (by unfold rg; omega) (by unfold rg; omega) (fun w26 => ?_) (fun w27 => ?_)
        · exact Rl_weak (C53 (v2) (by omega) (by omega)) (And.intro rfl (And.intro rfl (And.intro rfl (True.intro))))
        · refine l_aload_n rfl rfl ?_
          refine l_gfr rfl rfl rfl rfl rfl ((hF 876 4 rfl).2.2.trans hts) ?_
          refine l_iload_n rfl rfl ?_
          refine l_baload (n := 5000) rfl (tp_sv (by assumption)) (lay_tp (by assumption)) (by decide) (by omega) (by omega) (by unfold rg; omega) ?_
          refine l_bipush rfl rfl ?_
          refine l_icmp_lt rfl rfl (by unfold rg; omega) (by unfold rg; omega) (fun w29 => ?_) (fun w30 => ?_)
          · refine l_iconst rfl ?_
            refine l_ireturn rfl rfl ?_
            have w31 : 0 ≤ Xi S 876 7 ∧ Xi S 876 7 ≤ 5130 := hH.c _ _
            exact ⟨hH, hF, _, rfl, ⟨by omega, by omega⟩, (by first | exact hT | assumption), (by omega), (by omega), (by omega)⟩
          · refine l_aload_n rfl rfl ?_
            refine l_gfr rfl rfl rfl rfl rfl ((hF 876 4 rfl).2.2.trans hts) ?_
            refine l_iload_n rfl rfl ?_
            refine l_baload (n := 5000) rfl (tp_sv (by assumption)) (lay_tp (by assumption)) (by decide) (by omega) (by omega) (by unfold rg; omega) ?_
            refine l_bipush rfl rfl ?_
            refine l_icmp_le rfl rfl (by unfold rg; omega) (by unfold rg; omega) (fun w33 => ?_) (fun w34 => ?_)
            · refine l_iinc rfl rfl rfl rfl ?_
              refine l_goto rfl rfl ?_
              exact Rl_weak (ih4 _ (by omega) ((v2 + 1)) (by omega) (by omega) rfl) (And.intro rfl (And.intro rfl (And.intro rfl (True.intro))))
            · refine l_iconst rfl ?_
              refine l_ireturn rfl rfl ?_
              have w35 : 0 ≤ Xi S 876 7 ∧ Xi S 876 7 ≤ 5130 := hH.c _ _
              exact ⟨hH, hF, _, rfl, ⟨by omega, by omega⟩, (by first | exact hT | assumption), (by omega), (by omega), (by omega)⟩
  refine l_iload_n rfl rfl ?_
  refine l_iconst rfl ?_
  refine l_iadd rfl ?_
  refine l_istore_n rfl rfl rfl ?_
  exact Rl_weak (C4 _ ((from_ + 1)) (by omega) (by omega) rfl) (And.intro rfl (And.intro rfl (And.intro rfl (True.intro))))
def md_to_scan : List rec := [(876, 877, 7, 8), (877, 878, 0, 100000), (878, 879, 0, 100000), (879, 880, 0, 100000)]
abbrev Q_to_scan (S : sS) (ts : Nat) (p : Int) : pst := fun r S1 => HI S1 ∧ FR md_to_scan S S1 ∧ (∃ z : Int, r = some (iv z) ∧ (-1 ≤ z ∧ z ≤ 5000) ∧ (TOK S1) ∧ (z = -1 ∨ (p < z ∧ z ≤ Xi S 876 5)) ∧ (Xi S 876 7 ≤ Xi S1 876 7) ∧ (z ≠ -1 → 1 ≤ Xi S1 876 7))
set_option maxRecDepth 100000 in
theorem t_to_scan {S : sS} (hH : HI S) (ts : Nat) (p : Int) (hp : 0 ≤ p ∧ p ≤ 4999) (hts : S.2.2 876 4 = some ts) (htp : tp ts) (hT : TOK S) (he : p < Xi S 876 5) (d : Nat) : Mt lay0 (d + 3) m_to_scan [.ref 876, iv p] S (Q_to_scan S ts p) := by
  refine Mt_R rfl rfl ?_
  have hF : FR md_to_scan S S := FR.rf
  have w1 : 0 ≤ Xi S 876 5 ∧ Xi S 876 5 ≤ 5000 := hH.c _ _
  have w2 : 0 ≤ Xi S 876 7 ∧ Xi S 876 7 ≤ 5130 := hH.c _ _
  refine l_aload_n rfl rfl ?_
  refine l_gfr rfl rfl rfl rfl rfl ((hF 876 4 rfl).2.2.trans hts) ?_
  refine l_iload_n rfl rfl ?_
  refine l_baload (n := 5000) rfl (tp_sv (by assumption)) (lay_tp (by assumption)) (by decide) (by omega) (by omega) (by unfold rg; omega) ?_
  have w4 : -2147483648 ≤ (Xi S ts ((p).toNat)) ∧ (Xi S ts ((p).toNat)) ≤ 2147483647 := Xi_rgI
  refine l_istore_n rfl rfl rfl ?_
  refine l_iload_n rfl rfl ?_
  refine l_callS rfl rfl (by decide) rfl (t_rs_letterOf hH (Xi S ts ((p).toNat)) ⟨by omega, by omega⟩ _) ?_
  rintro _ _ ⟨rfl, z5, rfl, w5⟩
  show Rl _ _ _ _ _ [iv z5] _ _
  refine l_if_le rfl rfl (by unfold rg; omega) (fun w6 => ?_) (fun w7 => ?_)
  · refine l_iload_n rfl rfl ?_
    refine l_bipush rfl rfl ?_
    refine l_icmp_lt rfl rfl (by unfold rg; omega) (by unfold rg; omega) (fun w8 => ?_) (fun w9 => ?_)
    · refine l_iload_n rfl rfl ?_
      refine l_bipush rfl rfl ?_
      refine l_icmp_ne rfl rfl (by unfold rg; omega) (by unfold rg; omega) (fun w10 => ?_) (fun w11 => ?_)
      · refine l_iload_n rfl rfl ?_
        refine l_bipush rfl rfl ?_
        refine l_icmp_eq rfl rfl (by unfold rg; omega) (by unfold rg; omega) (fun w12 => ?_) (fun w13 => ?_)
        · refine l_aload_n rfl rfl ?_
          refine l_iload_n rfl rfl ?_
          refine l_bipush rfl rfl ?_
          refine l_icmp_ne rfl rfl (by unfold rg; omega) (by unfold rg; omega) (fun w14 => ?_) (fun w15 => ?_)
          · refine l_bipush rfl rfl ?_
            refine l_iload_n rfl rfl ?_
            refine l_lconst (z := 0) rfl rfl ?_
            have w16 : 0 ≤ Xi S 876 5 ∧ Xi S 876 5 ≤ 5000 := hH.c _ _
            have w17 : 0 ≤ Xi S 876 7 ∧ Xi S 876 7 ≤ 5130 := hH.c _ _
            refine l_callV rfl rfl rfl (t_to_note hH 104 p 0 ⟨by omega, by omega⟩ ⟨by omega, by omega⟩ (hT) (by first | assumption | omega) _) ?_
            rintro _ T1 ⟨hHT1, w21, rfl, w18, w19⟩
            have hFT1 : FR md_to_scan S T1 := FR.tr hF w21 rfl
            show Rl _ _ _ _ _ [] _ _
            refine l_iload_n rfl rfl ?_
            refine l_iconst rfl ?_
            refine l_iadd rfl ?_
            refine l_ireturn rfl rfl ?_
            have w22 : 0 ≤ Xi T1 876 7 ∧ Xi T1 876 7 ≤ 5130 := hHT1.c _ _
            exact ⟨hHT1, hFT1, _, rfl, ⟨by omega, by omega⟩, (by first | exact hT | assumption), (by omega), (by omega), (by omega)⟩
          · refine l_bipush rfl rfl ?_
            refine l_goto rfl rfl ?_
            refine l_iload_n rfl rfl ?_
            refine l_lconst (z := 0) rfl rfl ?_
            have w23 : 0 ≤ Xi S 876 5 ∧ Xi S 876 5 ≤ 5000 := hH.c _ _
            have w24 : 0 ≤ Xi S 876 7 ∧ Xi S 876 7 ≤ 5130 := hH.c _ _
            refine l_callV rfl rfl rfl (t_to_note hH 103 p 0 ⟨by omega, by omega⟩ ⟨by omega, by omega⟩ (hT) (by first | assumption | omega) _) ?_
            rintro _ T2 ⟨hHT2, w28, rfl, w25, w26⟩
            have hFT2 : FR md_to_scan S T2 := FR.tr hF w28 rfl
            show Rl _ _ _ _ _ [] _ _
            refine l_iload_n rfl rfl ?_
            refine l_iconst rfl ?_
            refine l_iadd rfl ?_
            refine l_ireturn rfl rfl ?_
            have w29 : 0 ≤ Xi T2 876 7 ∧ Xi T2 876 7 ≤ 5130 := hHT2.c _ _
            exact ⟨hHT2, hFT2, _, rfl, ⟨by omega, by omega⟩, (by first | exact hT | assumption), (by omega), (by omega), (by omega)⟩
        · refine l_iload_n rfl rfl ?_
          refine l_bipush rfl rfl ?_
          refine l_icmp_ne rfl rfl (by unfold rg; omega) (by unfold rg; omega) (fun w30 => ?_) (fun w31 => ?_)
          · refine l_iload_n rfl rfl ?_
            refine l_bipush rfl rfl ?_
            refine l_icmp_eq rfl rfl (by unfold rg; omega) (by unfold rg; omega) (fun w32 => ?_) (fun w33 => ?_)
            · refine l_aload_n rfl rfl ?_
              refine l_iload_n rfl rfl ?_
              refine l_bipush rfl rfl ?_
              refine l_icmp_ne rfl rfl (by unfold rg; omega) (by unfold rg; omega) (fun w34 => ?_) (fun w35 => ?_)
              · refine l_bipush rfl rfl ?_
                refine l_iload_n rfl rfl ?_
                refine l_lconst (z := 0) rfl rfl ?_
                have w36 : 0 ≤ Xi S 876 5 ∧ Xi S 876 5 ≤ 5000 := hH.c _ _
                have w37 : 0 ≤ Xi S 876 7 ∧ Xi S 876 7 ≤ 5130 := hH.c _ _
                refine l_callV rfl rfl rfl (t_to_note hH 106 p 0 ⟨by omega, by omega⟩ ⟨by omega, by omega⟩ (hT) (by first | assumption | omega) _) ?_
                rintro _ T3 ⟨hHT3, w41, rfl, w38, w39⟩
                have hFT3 : FR md_to_scan S T3 := FR.tr hF w41 rfl
                show Rl _ _ _ _ _ [] _ _
                refine l_iload_n rfl rfl ?_
                refine l_iconst rfl ?_
                refine l_iadd rfl ?_
                refine l_ireturn rfl rfl ?_
                have w42 : 0 ≤ Xi T3 876 7 ∧ Xi T3 876 7 ≤ 5130 := hHT3.c _ _
                exact ⟨hHT3, hFT3, _, rfl, ⟨by omega, by omega⟩, (by first | exact hT | assumption), (by omega), (by omega), (by omega)⟩
              · refine l_bipush rfl rfl ?_
                refine l_goto rfl rfl ?_
                refine l_iload_n rfl rfl ?_
                refine l_lconst (z := 0) rfl rfl ?_
                have w43 : 0 ≤ Xi S 876 5 ∧ Xi S 876 5 ≤ 5000 := hH.c _ _
                have w44 : 0 ≤ Xi S 876 7 ∧ Xi S 876 7 ≤ 5130 := hH.c _ _
                refine l_callV rfl rfl rfl (t_to_note hH 105 p 0 ⟨by omega, by omega⟩ ⟨by omega, by omega⟩ (hT) (by first | assumption | omega) _) ?_
                rintro _ T4 ⟨hHT4, w48, rfl, w45, w46⟩
                have hFT4 : FR md_to_scan S T4 := FR.tr hF w48 rfl
                show Rl _ _ _ _ _ [] _ _
                refine l_iload_n rfl rfl ?_
                refine l_iconst rfl ?_
                refine l_iadd rfl ?_
                refine l_ireturn rfl rfl ?_
                have w49 : 0 ≤ Xi T4 876 7 ∧ Xi T4 876 7 ≤ 5130 := hHT4.c _ _
                exact ⟨hHT4, hFT4, _, rfl, ⟨by omega, by omega⟩, (by first | exact hT | assumption), (by omega), (by omega), (by omega)⟩
            · refine l_iload_n rfl rfl ?_
              refine l_bipush rfl rfl ?_
              refine l_icmp_ne rfl rfl (by unfold rg; omega) (by unfold rg; omega) (fun w50 => ?_) (fun w51 => ?_)
              · refine l_iconst rfl ?_
                refine l_ireturn rfl rfl ?_
                have w52 : 0 ≤ Xi S 876 7 ∧ Xi S 876 7 ≤ 5130 := hH.c _ _
                exact ⟨hH, hF, _, rfl, ⟨by omega, by omega⟩, (by first | exact hT | assumption), (by omega), (by omega), (by omega)⟩
              · refine l_aload_n rfl rfl ?_
                refine l_iload_n rfl rfl ?_
                refine l_bipush rfl rfl ?_
                refine l_icmp_ne rfl rfl (by unfold rg; omega) (by unfold rg; omega) (fun w53 => ?_) (fun w54 => ?_)
                · refine l_bipush rfl rfl ?_
                  refine l_iload_n rfl rfl ?_
                  refine l_lconst (z := 0) rfl rfl ?_
                  have w55 : 0 ≤ Xi S 876 5 ∧ Xi S 876 5 ≤ 5000 := hH.c _ _
                  have w56 : 0 ≤ Xi S 876 7 ∧ Xi S 876 7 ≤ 5130 := hH.c _ _
                  refine l_callV rfl rfl rfl (t_to_note hH 106 p 0 ⟨by omega, by omega⟩ ⟨by omega, by omega⟩ (hT) (by first | assumption | omega) _) ?_
                  rintro _ T5 ⟨hHT5, w60, rfl, w57, w58⟩
                  have hFT5 : FR md_to_scan S T5 := FR.tr hF w60 rfl
                  show Rl _ _ _ _ _ [] _ _
                  refine l_iload_n rfl rfl ?_
                  refine l_iconst rfl ?_
                  refine l_iadd rfl ?_
                  refine l_ireturn rfl rfl ?_
                  have w61 : 0 ≤ Xi T5 876 7 ∧ Xi T5 876 7 ≤ 5130 := hHT5.c _ _
                  exact ⟨hHT5, hFT5, _, rfl, ⟨by omega, by omega⟩, (by first | exact hT | assumption), (by omega), (by omega), (by omega)⟩
                · refine l_bipush rfl rfl ?_
                  refine l_goto rfl rfl ?_
                  refine l_iload_n rfl rfl ?_
                  refine l_lconst (z := 0) rfl rfl ?_
                  have w62 : 0 ≤ Xi S 876 5 ∧ Xi S 876 5 ≤ 5000 := hH.c _ _
                  have w63 : 0 ≤ Xi S 876 7 ∧ Xi S 876 7 ≤ 5130 := hH.c _ _
                  refine l_callV rfl rfl rfl (t_to_note hH 105 p 0 ⟨by omega, by omega⟩ ⟨by omega, by omega⟩ (hT) (by first | assumption | omega) _) ?_
                  rintro _ T6 ⟨hHT6, w67, rfl, w64, w65⟩
                  have hFT6 : FR md_to_scan S T6 := FR.tr hF w67 rfl
                  show Rl _ _ _ _ _ [] _ _
                  refine l_iload_n rfl rfl ?_
                  refine l_iconst rfl ?_
                  refine l_iadd rfl ?_
                  refine l_ireturn rfl rfl ?_
                  have w68 : 0 ≤ Xi T6 876 7 ∧ Xi T6 876 7 ≤ 5130 := hHT6.c _ _
                  exact ⟨hHT6, hFT6, _, rfl, ⟨by omega, by omega⟩, (by first | exact hT | assumption), (by omega), (by omega), (by omega)⟩
          · refine l_aload_n rfl rfl ?_
            refine l_iload_n rfl rfl ?_
            refine l_bipush rfl rfl ?_
            refine l_icmp_ne rfl rfl (by unfold rg; omega) (by unfold rg; omega) (fun w69 => ?_) (fun w70 => ?_)
            · refine l_bipush rfl rfl ?_
              refine l_iload_n rfl rfl ?_
              refine l_lconst (z := 0) rfl rfl ?_
              have w71 : 0 ≤ Xi S 876 5 ∧ Xi S 876 5 ≤ 5000 := hH.c _ _
              have w72 : 0 ≤ Xi S 876 7 ∧ Xi S 876 7 ≤ 5130 := hH.c _ _
              refine l_callV rfl rfl rfl (t_to_note hH 104 p 0 ⟨by omega, by omega⟩ ⟨by omega, by omega⟩ (hT) (by first | assumption | omega) _) ?_
              rintro _ T7 ⟨hHT7, w76, rfl, w73, w74⟩
              have hFT7 : FR md_to_scan S T7 := FR.tr hF w76 rfl
              show Rl _ _ _ _ _ [] _ _
              refine l_iload_n rfl rfl ?_
              refine l_iconst rfl ?_
              refine l_iadd rfl ?_
              refine l_ireturn rfl rfl ?_
              have w77 : 0 ≤ Xi T7 876 7 ∧ Xi T7 876 7 ≤ 5130 := hHT7.c _ _
              exact ⟨hHT7, hFT7, _, rfl, ⟨by omega, by omega⟩, (by first | exact hT | assumption), (by omega), (by omega), (by omega)⟩
            · refine l_bipush rfl rfl ?_
              refine l_goto rfl rfl ?_
              refine l_iload_n rfl rfl ?_
              refine l_lconst (z := 0) rfl rfl ?_
              have w78 : 0 ≤ Xi S 876 5 ∧ Xi S 876 5 ≤ 5000 := hH.c _ _
              have w79 : 0 ≤ Xi S 876 7 ∧ Xi S 876 7 ≤ 5130 := hH.c _ _
              refine l_callV rfl rfl rfl (t_to_note hH 103 p 0 ⟨by omega, by omega⟩ ⟨by omega, by omega⟩ (hT) (by first | assumption | omega) _) ?_
              rintro _ T8 ⟨hHT8, w83, rfl, w80, w81⟩
              have hFT8 : FR md_to_scan S T8 := FR.tr hF w83 rfl
              show Rl _ _ _ _ _ [] _ _
              refine l_iload_n rfl rfl ?_
              refine l_iconst rfl ?_
              refine l_iadd rfl ?_
              refine l_ireturn rfl rfl ?_
              have w84 : 0 ≤ Xi T8 876 7 ∧ Xi T8 876 7 ≤ 5130 := hHT8.c _ _
              exact ⟨hHT8, hFT8, _, rfl, ⟨by omega, by omega⟩, (by first | exact hT | assumption), (by omega), (by omega), (by omega)⟩
      · refine l_aload_n rfl rfl ?_
        refine l_iload_n rfl rfl ?_
        have w85 : 0 ≤ Xi S 876 5 ∧ Xi S 876 5 ≤ 5000 := hH.c _ _
        have w86 : 0 ≤ Xi S 876 7 ∧ Xi S 876 7 ≤ 5130 := hH.c _ _
        refine l_callV rfl rfl rfl (t_to_scanText hH ts p ⟨by omega, by omega⟩ ((hF 876 4 rfl).2.2.trans hts) htp (hT) (by first | assumption | omega) _) ?_
        rintro _ T9 ⟨hHT9, w92, z91, rfl, w91, w87, w88, w89, w90⟩
        have hFT9 : FR md_to_scan S T9 := FR.tr hF w92 rfl
        show Rl _ _ _ _ _ [iv z91] _ _
        refine l_ireturn rfl rfl ?_
        have w93 : 0 ≤ Xi T9 876 7 ∧ Xi T9 876 7 ≤ 5130 := hHT9.c _ _
        exact ⟨hHT9, hFT9, _, rfl, ⟨by omega, by omega⟩, (by first | exact hT | assumption), (by omega), (by omega), (by omega)⟩
    · refine l_iload_n rfl rfl ?_
      refine l_bipush rfl rfl ?_
      refine l_icmp_gt rfl rfl (by unfold rg; omega) (by unfold rg; omega) (fun w94 => ?_) (fun w95 => ?_)
      · refine l_iload_n rfl rfl ?_
        refine l_bipush rfl rfl ?_
        refine l_icmp_ne rfl rfl (by unfold rg; omega) (by unfold rg; omega) (fun w96 => ?_) (fun w97 => ?_)
        · refine l_iload_n rfl rfl ?_
          refine l_bipush rfl rfl ?_
          refine l_icmp_eq rfl rfl (by unfold rg; omega) (by unfold rg; omega) (fun w98 => ?_) (fun w99 => ?_)
          · refine l_aload_n rfl rfl ?_
            refine l_iload_n rfl rfl ?_
            refine l_bipush rfl rfl ?_
            refine l_icmp_ne rfl rfl (by unfold rg; omega) (by unfold rg; omega) (fun w100 => ?_) (fun w101 => ?_)
            · refine l_bipush rfl rfl ?_
              refine l_iload_n rfl rfl ?_
              refine l_lconst (z := 0) rfl rfl ?_
              have w102 : 0 ≤ Xi S 876 5 ∧ Xi S 876 5 ≤ 5000 := hH.c _ _
              have w103 : 0 ≤ Xi S 876 7 ∧ Xi S 876 7 ≤ 5130 := hH.c _ _
              refine l_callV rfl rfl rfl (t_to_note hH 104 p 0 ⟨by omega, by omega⟩ ⟨by omega, by omega⟩ (hT) (by first | assumption | omega) _) ?_
              rintro _ T10 ⟨hHT10, w107, rfl, w104, w105⟩
              have hFT10 : FR md_to_scan S T10 := FR.tr hF w107 rfl
              show Rl _ _ _ _ _ [] _ _
              refine l_iload_n rfl rfl ?_
              refine l_iconst rfl ?_
              refine l_iadd rfl ?_
              refine l_ireturn rfl rfl ?_
              have w108 : 0 ≤ Xi T10 876 7 ∧ Xi T10 876 7 ≤ 5130 := hHT10.c _ _
              exact ⟨hHT10, hFT10, _, rfl, ⟨by omega, by omega⟩, (by first | exact hT | assumption), (by omega), (by omega), (by omega)⟩
            · refine l_bipush rfl rfl ?_
              refine l_goto rfl rfl ?_
              refine l_iload_n rfl rfl ?_
              refine l_lconst (z := 0) rfl rfl ?_
              have w109 : 0 ≤ Xi S 876 5 ∧ Xi S 876 5 ≤ 5000 := hH.c _ _
              have w110 : 0 ≤ Xi S 876 7 ∧ Xi S 876 7 ≤ 5130 := hH.c _ _
              refine l_callV rfl rfl rfl (t_to_note hH 103 p 0 ⟨by omega, by omega⟩ ⟨by omega, by omega⟩ (hT) (by first | assumption | omega) _) ?_
              rintro _ T11 ⟨hHT11, w114, rfl, w111, w112⟩
              have hFT11 : FR md_to_scan S T11 := FR.tr hF w114 rfl
              show Rl _ _ _ _ _ [] _ _
              refine l_iload_n rfl rfl ?_
              refine l_iconst rfl ?_
              refine l_iadd rfl ?_
              refine l_ireturn rfl rfl ?_
              have w115 : 0 ≤ Xi T11 876 7 ∧ Xi T11 876 7 ≤ 5130 := hHT11.c _ _
              exact ⟨hHT11, hFT11, _, rfl, ⟨by omega, by omega⟩, (by first | exact hT | assumption), (by omega), (by omega), (by omega)⟩
          · refine l_iload_n rfl rfl ?_
            refine l_bipush rfl rfl ?_
            refine l_icmp_ne rfl rfl (by unfold rg; omega) (by unfold rg; omega) (fun w116 => ?_) (fun w117 => ?_)
            · refine l_iload_n rfl rfl ?_
              refine l_bipush rfl rfl ?_
              refine l_icmp_eq rfl rfl (by unfold rg; omega) (by unfold rg; omega) (fun w118 => ?_) (fun w119 => ?_)
              · refine l_aload_n rfl rfl ?_
                refine l_iload_n rfl rfl ?_
                refine l_bipush rfl rfl ?_
                refine l_icmp_ne rfl rfl (by unfold rg; omega) (by unfold rg; omega) (fun w120 => ?_) (fun w121 => ?_)
                · refine l_bipush rfl rfl ?_
                  refine l_iload_n rfl rfl ?_
                  refine l_lconst (z := 0) rfl rfl ?_
                  have w122 : 0 ≤ Xi S 876 5 ∧ Xi S 876 5 ≤ 5000 := hH.c _ _
                  have w123 : 0 ≤ Xi S 876 7 ∧ Xi S 876 7 ≤ 5130 := hH.c _ _
                  refine l_callV rfl rfl rfl (t_to_note hH 106 p 0 ⟨by omega, by omega⟩ ⟨by omega, by omega⟩ (hT) (by first | assumption | omega) _) ?_
                  rintro _ T12 ⟨hHT12, w127, rfl, w124, w125⟩
                  have hFT12 : FR md_to_scan S T12 := FR.tr hF w127 rfl
                  show Rl _ _ _ _ _ [] _ _
                  refine l_iload_n rfl rfl ?_
                  refine l_iconst rfl ?_
                  refine l_iadd rfl ?_
                  refine l_ireturn rfl rfl ?_
                  have w128 : 0 ≤ Xi T12 876 7 ∧ Xi T12 876 7 ≤ 5130 := hHT12.c _ _
                  exact ⟨hHT12, hFT12, _, rfl, ⟨by omega, by omega⟩, (by first | exact hT | assumption), (by omega), (by omega), (by omega)⟩
                · refine l_bipush rfl rfl ?_
                  refine l_goto rfl rfl ?_
                  refine l_iload_n rfl rfl ?_
                  refine l_lconst (z := 0) rfl rfl ?_
                  have w129 : 0 ≤ Xi S 876 5 ∧ Xi S 876 5 ≤ 5000 := hH.c _ _
                  have w130 : 0 ≤ Xi S 876 7 ∧ Xi S 876 7 ≤ 5130 := hH.c _ _
                  refine l_callV rfl rfl rfl (t_to_note hH 105 p 0 ⟨by omega, by omega⟩ ⟨by omega, by omega⟩ (hT) (by first | assumption | omega) _) ?_
                  rintro _ T13 ⟨hHT13, w134, rfl, w131, w132⟩
                  have hFT13 : FR md_to_scan S T13 := FR.tr hF w134 rfl
                  show Rl _ _ _ _ _ [] _ _
                  refine l_iload_n rfl rfl ?_
                  refine l_iconst rfl ?_
                  refine l_iadd rfl ?_
                  refine l_ireturn rfl rfl ?_
                  have w135 : 0 ≤ Xi T13 876 7 ∧ Xi T13 876 7 ≤ 5130 := hHT13.c _ _
                  exact ⟨hHT13, hFT13, _, rfl, ⟨by omega, by omega⟩, (by first | exact hT | assumption), (by omega), (by omega), (by omega)⟩
              · refine l_iload_n rfl rfl ?_
                refine l_bipush rfl rfl ?_
                refine l_icmp_ne rfl rfl (by unfold rg; omega) (by unfold rg; omega) (fun w136 => ?_) (fun w137 => ?_)
                · refine l_iconst rfl ?_
                  refine l_ireturn rfl rfl ?_
                  have w138 : 0 ≤ Xi S 876 7 ∧ Xi S 876 7 ≤ 5130 := hH.c _ _
                  exact ⟨hH, hF, _, rfl, ⟨by omega, by omega⟩, (by first | exact hT | assumption), (by omega), (by omega), (by omega)⟩
                · refine l_aload_n rfl rfl ?_
                  refine l_iload_n rfl rfl ?_
                  refine l_bipush rfl rfl ?_
                  refine l_icmp_ne rfl rfl (by unfold rg; omega) (by unfold rg; omega) (fun w139 => ?_) (fun w140 => ?_)
                  · refine l_bipush rfl rfl ?_
                    refine l_iload_n rfl rfl ?_
                    refine l_lconst (z := 0) rfl rfl ?_
                    have w141 : 0 ≤ Xi S 876 5 ∧ Xi S 876 5 ≤ 5000 := hH.c _ _
                    have w142 : 0 ≤ Xi S 876 7 ∧ Xi S 876 7 ≤ 5130 := hH.c _ _
                    refine l_callV rfl rfl rfl (t_to_note hH 106 p 0 ⟨by omega, by omega⟩ ⟨by omega, by omega⟩ (hT) (by first | assumption | omega) _) ?_
                    rintro _ T14 ⟨hHT14, w146, rfl, w143, w144⟩
                    have hFT14 : FR md_to_scan S T14 := FR.tr hF w146 rfl
                    show Rl _ _ _ _ _ [] _ _
                    refine l_iload_n rfl rfl ?_
                    refine l_iconst rfl ?_
                    refine l_iadd rfl ?_
                    refine l_ireturn rfl rfl ?_
                    have w147 : 0 ≤ Xi T14 876 7 ∧ Xi T14 876 7 ≤ 5130 := hHT14.c _ _
                    exact ⟨hHT14, hFT14, _, rfl, ⟨by omega, by omega⟩, (by first | exact hT | assumption), (by omega), (by omega), (by omega)⟩
                  · refine l_bipush rfl rfl ?_
                    refine l_goto rfl rfl ?_
                    refine l_iload_n rfl rfl ?_
                    refine l_lconst (z := 0) rfl rfl ?_
                    have w148 : 0 ≤ Xi S 876 5 ∧ Xi S 876 5 ≤ 5000 := hH.c _ _
                    have w149 : 0 ≤ Xi S 876 7 ∧ Xi S 876 7 ≤ 5130 := hH.c _ _
                    refine l_callV rfl rfl rfl (t_to_note hH 105 p 0 ⟨by omega, by omega⟩ ⟨by omega, by omega⟩ (hT) (by first | assumption | omega) _) ?_
                    rintro _ T15 ⟨hHT15, w153, rfl, w150, w151⟩
                    have hFT15 : FR md_to_scan S T15 := FR.tr hF w153 rfl
                    show Rl _ _ _ _ _ [] _ _
                    refine l_iload_n rfl rfl ?_
                    refine l_iconst rfl ?_
                    refine l_iadd rfl ?_
                    refine l_ireturn rfl rfl ?_
                    have w154 : 0 ≤ Xi T15 876 7 ∧ Xi T15 876 7 ≤ 5130 := hHT15.c _ _
                    exact ⟨hHT15, hFT15, _, rfl, ⟨by omega, by omega⟩, (by first | exact hT | assumption), (by omega), (by omega), (by omega)⟩
            · refine l_aload_n rfl rfl ?_
              refine l_iload_n rfl rfl ?_
              refine l_bipush rfl rfl ?_
              refine l_icmp_ne rfl rfl (by unfold rg; omega) (by unfold rg; omega) (fun w155 => ?_) (fun w156 => ?_)
              · refine l_bipush rfl rfl ?_
                refine l_iload_n rfl rfl ?_
                refine l_lconst (z := 0) rfl rfl ?_
                have w157 : 0 ≤ Xi S 876 5 ∧ Xi S 876 5 ≤ 5000 := hH.c _ _
                have w158 : 0 ≤ Xi S 876 7 ∧ Xi S 876 7 ≤ 5130 := hH.c _ _
                refine l_callV rfl rfl rfl (t_to_note hH 104 p 0 ⟨by omega, by omega⟩ ⟨by omega, by omega⟩ (hT) (by first | assumption | omega) _) ?_
                rintro _ T16 ⟨hHT16, w162, rfl, w159, w160⟩
                have hFT16 : FR md_to_scan S T16 := FR.tr hF w162 rfl
                show Rl _ _ _ _ _ [] _ _
                refine l_iload_n rfl rfl ?_
                refine l_iconst rfl ?_
                refine l_iadd rfl ?_
                refine l_ireturn rfl rfl ?_
                have w163 : 0 ≤ Xi T16 876 7 ∧ Xi T16 876 7 ≤ 5130 := hHT16.c _ _
                exact ⟨hHT16, hFT16, _, rfl, ⟨by omega, by omega⟩, (by first | exact hT | assumption), (by omega), (by omega), (by omega)⟩
              · refine l_bipush rfl rfl ?_
                refine l_goto rfl rfl ?_
                refine l_iload_n rfl rfl ?_
                refine l_lconst (z := 0) rfl rfl ?_
                have w164 : 0 ≤ Xi S 876 5 ∧ Xi S 876 5 ≤ 5000 := hH.c _ _
                have w165 : 0 ≤ Xi S 876 7 ∧ Xi S 876 7 ≤ 5130 := hH.c _ _
                refine l_callV rfl rfl rfl (t_to_note hH 103 p 0 ⟨by omega, by omega⟩ ⟨by omega, by omega⟩ (hT) (by first | assumption | omega) _) ?_
                rintro _ T17 ⟨hHT17, w169, rfl, w166, w167⟩
                have hFT17 : FR md_to_scan S T17 := FR.tr hF w169 rfl
                show Rl _ _ _ _ _ [] _ _
                refine l_iload_n rfl rfl ?_
                refine l_iconst rfl ?_
                refine l_iadd rfl ?_
                refine l_ireturn rfl rfl ?_
                have w170 : 0 ≤ Xi T17 876 7 ∧ Xi T17 876 7 ≤ 5130 := hHT17.c _ _
                exact ⟨hHT17, hFT17, _, rfl, ⟨by omega, by omega⟩, (by first | exact hT | assumption), (by omega), (by omega), (by omega)⟩
        · refine l_aload_n rfl rfl ?_
          refine l_iload_n rfl rfl ?_
          have w171 : 0 ≤ Xi S 876 5 ∧ Xi S 876 5 ≤ 5000 := hH.c _ _
          have w172 : 0 ≤ Xi S 876 7 ∧ Xi S 876 7 ≤ 5130 := hH.c _ _
          refine l_callV rfl rfl rfl (t_to_scanText hH ts p ⟨by omega, by omega⟩ ((hF 876 4 rfl).2.2.trans hts) htp (hT) (by first | assumption | omega) _) ?_
          rintro _ T18 ⟨hHT18, w178, z177, rfl, w177, w173, w174, w175, w176⟩
          have hFT18 : FR md_to_scan S T18 := FR.tr hF w178 rfl
          show Rl _ _ _ _ _ [iv z177] _ _
          refine l_ireturn rfl rfl ?_
          have w179 : 0 ≤ Xi T18 876 7 ∧ Xi T18 876 7 ≤ 5130 := hHT18.c _ _
          exact ⟨hHT18, hFT18, _, rfl, ⟨by omega, by omega⟩, (by first | exact hT | assumption), (by omega), (by omega), (by omega)⟩
      · refine l_aload_n rfl rfl ?_
        refine l_iload_n rfl rfl ?_
        have w180 : 0 ≤ Xi S 876 5 ∧ Xi S 876 5 ≤ 5000 := hH.c _ _
        have w181 : 0 ≤ Xi S 876 7 ∧ Xi S 876 7 ≤ 5130 := hH.c _ _
        refine l_callV rfl rfl rfl (t_to_scanNumber hH ts p ⟨by omega, by omega⟩ ((hF 876 4 rfl).2.2.trans hts) htp (hT) (by omega) (by first | assumption | omega) _) ?_
        rintro _ T19 ⟨hHT19, w187, z186, rfl, w186, w182, w183, w184, w185⟩
        have hFT19 : FR md_to_scan S T19 := FR.tr hF w187 rfl
        show Rl _ _ _ _ _ [iv z186] _ _
        refine l_ireturn rfl rfl ?_
        have w188 : 0 ≤ Xi T19 876 7 ∧ Xi T19 876 7 ≤ 5130 := hHT19.c _ _
        exact ⟨hHT19, hFT19, _, rfl, ⟨by omega, by omega⟩, (by first | exact hT | assumption), (by omega), (by omega), (by omega)⟩
  · refine l_aload_n rfl rfl ?_
    refine l_iload_n rfl rfl ?_
    refine l_aload_n rfl rfl ?_
    refine l_gfi rfl rfl rfl rfl rfl ?_
    have w189 : 0 ≤ (Xi S 876 5) ∧ (Xi S 876 5) ≤ 5000 := hH.c _ _
    have w190 : 0 ≤ Xi S 876 7 ∧ Xi S 876 7 ≤ 5130 := hH.c _ _
    refine l_callV rfl rfl rfl (t_to_scanWord hH ts p (Xi S 876 5) ⟨by omega, by omega⟩ ⟨by omega, by omega⟩ ((hF 876 4 rfl).2.2.trans hts) htp (hT) _) ?_
    rintro _ T20 ⟨hHT20, w196, z195, rfl, w195, w191, w192, w193, w194⟩
    have hFT20 : FR md_to_scan S T20 := FR.tr hF w196 rfl
    show Rl _ _ _ _ _ [iv z195] _ _
    refine l_ireturn rfl rfl ?_
    have w197 : 0 ≤ Xi T20 876 7 ∧ Xi T20 876 7 ≤ 5130 := hHT20.c _ _
    exact ⟨hHT20, hFT20, _, rfl, ⟨by omega, by omega⟩, (by first | exact hT | assumption), (by omega), (by omega), (by omega)⟩
def md_to_takeDotBehindText : List rec := [(876, 877, 7, 8), (877, 878, 0, 100000), (878, 879, 0, 100000), (879, 880, 0, 100000)]
abbrev Q_to_takeDotBehindText (S : sS) (ts : Nat) (from_ : Int) : pst := fun r S1 => HI S1 ∧ FR md_to_takeDotBehindText S S1 ∧ (∃ z : Int, r = some (iv z) ∧ (0 ≤ z ∧ z ≤ 5000) ∧ (TOK S1) ∧ (from_ ≤ z ∧ z ≤ Xi S 876 5) ∧ (Xi S 876 7 ≤ Xi S1 876 7))
set_option maxRecDepth 100000 in
theorem t_to_takeDotBehindText {S : sS} (hH : HI S) (ts : Nat) (from_ : Int) (hfrom_ : 0 ≤ from_ ∧ from_ ≤ 5000) (hts : S.2.2 876 4 = some ts) (htp : tp ts) (hT : TOK S) (he : from_ ≤ Xi S 876 5) (d : Nat) : Mt lay0 (d + 3) m_to_takeDotBehindText [.ref 876, iv from_] S (Q_to_takeDotBehindText S ts from_) := by
  refine Mt_R rfl rfl ?_
  have hF : FR md_to_takeDotBehindText S S := FR.rf
  have w1 : 0 ≤ Xi S 876 5 ∧ Xi S 876 5 ≤ 5000 := hH.c _ _
  have w2 : 0 ≤ Xi S 876 7 ∧ Xi S 876 7 ≤ 5130 := hH.c _ _
  refine l_aload_n rfl rfl ?_
  refine l_iload_n rfl rfl ?_
  have w3 : 0 ≤ Xi S 876 5 ∧ Xi S 876 5 ≤ 5000 := hH.c _ _
  refine l_callV rfl rfl rfl (t_to_skip hH ts from_ ⟨by omega, by omega⟩ ((hF 876 4 rfl).2.2.trans hts) htp (by first | assumption | omega) _) ?_
  rintro _ _ ⟨rfl, z5, rfl, w5, w4⟩
  show Rl _ _ _ _ _ [iv z5] _ _
  refine l_istore_n rfl rfl rfl ?_
  refine l_iload_n rfl rfl ?_
  refine l_aload_n rfl rfl ?_
  refine l_gfi rfl rfl rfl rfl rfl ?_
  have w6 : 0 ≤ (Xi S 876 5) ∧ (Xi S 876 5) ≤ 5000 := hH.c _ _
  refine l_icmp_ge rfl rfl (by unfold rg; omega) (by unfold rg; omega) (fun w7 => ?_) (fun w8 => ?_)
  · refine l_iload_n rfl rfl ?_
    refine l_ireturn rfl rfl ?_
    have w9 : 0 ≤ Xi S 876 7 ∧ Xi S 876 7 ≤ 5130 := hH.c _ _
    exact ⟨hH, hF, _, rfl, ⟨by omega, by omega⟩, (by first | exact hT | assumption), (by omega), (by omega)⟩
  · refine l_aload_n rfl rfl ?_
    refine l_gfr rfl rfl rfl rfl rfl ((hF 876 4 rfl).2.2.trans hts) ?_
    refine l_iload_n rfl rfl ?_
    refine l_baload (n := 5000) rfl (tp_sv (by assumption)) (lay_tp (by assumption)) (by decide) (by omega) (by omega) (by unfold rg; omega) ?_
    have w11 : -2147483648 ≤ (Xi S ts ((z5).toNat)) ∧ (Xi S ts ((z5).toNat)) ≤ 2147483647 := Xi_rgI
    refine l_bipush rfl rfl ?_
    refine l_icmp_ne rfl rfl (by unfold rg; omega) (by unfold rg; omega) (fun w12 => ?_) (fun w13 => ?_)
    · refine l_iload_n rfl rfl ?_
      refine l_ireturn rfl rfl ?_
      have w14 : 0 ≤ Xi S 876 7 ∧ Xi S 876 7 ≤ 5130 := hH.c _ _
      exact ⟨hH, hF, _, rfl, ⟨by omega, by omega⟩, (by first | exact hT | assumption), (by omega), (by omega)⟩
    · refine l_aload_n rfl rfl ?_
      refine l_bipush rfl rfl ?_
      refine l_iload_n rfl rfl ?_
      refine l_lconst (z := 0) rfl rfl ?_
      have w15 : 0 ≤ Xi S 876 5 ∧ Xi S 876 5 ≤ 5000 := hH.c _ _
      have w16 : 0 ≤ Xi S 876 7 ∧ Xi S 876 7 ≤ 5130 := hH.c _ _
      refine l_callV rfl rfl rfl (t_to_note hH 103 z5 0 ⟨by omega, by omega⟩ ⟨by omega, by omega⟩ (hT) (by first | assumption | omega) _) ?_
      rintro _ T1 ⟨hHT1, w20, rfl, w17, w18⟩
      have hFT1 : FR md_to_takeDotBehindText S T1 := FR.tr hF w20 rfl
      show Rl _ _ _ _ _ [] _ _
      refine l_iload_n rfl rfl ?_
      refine l_iconst rfl ?_
      refine l_iadd rfl ?_
      refine l_ireturn rfl rfl ?_
      have w21 : 0 ≤ Xi T1 876 7 ∧ Xi T1 876 7 ≤ 5130 := hHT1.c _ _
      exact ⟨hHT1, hFT1, _, rfl, ⟨by omega, by omega⟩, (by first | exact hT | assumption), (by omega), (by omega)⟩
def md_to_takeSentence : List rec := [(876, 877, 6, 7), (876, 877, 7, 8), (877, 878, 0, 100000), (878, 879, 0, 100000), (879, 880, 0, 100000)]
abbrev Q_to_takeSentence (S : sS) (ts : Nat) (from_ : Int) : pst := fun r S1 => HI S1 ∧ FR md_to_takeSentence S S1 ∧ (∃ z : Int, r = some (iv z) ∧ (0 ≤ z ∧ z ≤ 5000) ∧ (TOK S1) ∧ (from_ ≤ z ∧ z ≤ Xi S 876 5) ∧ (Xi S1 876 6 = Xi S1 876 7))
set_option maxRecDepth 100000 in
theorem t_to_takeSentence {S : sS} (hH : HI S) (ts : Nat) (from_ : Int) (hfrom_ : 0 ≤ from_ ∧ from_ ≤ 5000) (hts : S.2.2 876 4 = some ts) (htp : tp ts) (he : from_ ≤ Xi S 876 5) (d : Nat) : Mt lay0 (d + 4) m_to_takeSentence [.ref 876, iv from_] S (Q_to_takeSentence S ts from_) := by
  refine Mt_R rfl rfl ?_
  have hF : FR md_to_takeSentence S S := FR.rf
  have w1 : 0 ≤ Xi S 876 5 ∧ Xi S 876 5 ≤ 5000 := hH.c _ _
  have w2 : 0 ≤ Xi S 876 7 ∧ Xi S 876 7 ≤ 5130 := hH.c _ _
  have C9 : ∀ (n9 : Nat) (T1 : sS) (_ : HI T1) (_ : FR md_to_takeSentence S T1) (v2 : Int) (v3 : Int), (0 ≤ v2 ∧ v2 ≤ 5000) → (0 ≤ v3 ∧ v3 ≤ 1) → (TOK T1) → (from_ ≤ v2 ∧ v2 ≤ Xi T1 876 5) → (Xi T1 876 5 = Xi S 876 5) → n9 = (5001 - v2).toNat → Rl lay0 (d + 3) m_to_takeSentence 9 [(0, .ref 876), (2, iv v2), (3, iv v3)] [] T1 (Q_to_takeSentence S ts from_) := by
    intro n9
    induction n9 using Nat.strongRecOn with
    | ind n9 ih9 =>
      intro T1 hHT1 hFT1 v2 v3 w3 w4 hT9 w5 w6 hm9
      have w7 : Xi T1 876 5 = Xi S 876 5 := hFT1.x _ _ rfl
      have C48 : ∀  (T2 : sS) (_ : HI T2) (_ : FR md_to_takeSentence S T2) (v4 : Int), (0 ≤ v4 ∧ v4 ≤ 5000) → (TOK T2) → (from_ ≤ v2 ∧ v2 < v4 ∧ v4 ≤ Xi T2 876 5) → (Xi T2 876 5 = Xi S 876 5) → (1 ≤ Xi T2 876 7) → ((5001 - v2).toNat ≤ n9) → Rl lay0 (d + 3) m_to_takeSentence 48 [(0, .ref 876), (4, iv v4)] [] T2 (Q_to_takeSentence S ts from_) := by
        intro T2 hHT2 hFT2 v4 w8 hT48 w9 w10 w11 w12
        have w13 : Xi T2 876 5 = Xi S 876 5 := hFT2.x _ _ rfl
        refine l_aload_n rfl rfl ?_
        refine l_gfr rfl rfl rfl rfl rfl (hHT2.r 876 0 877 rfl) ?_
        refine l_aload_n rfl rfl ?_
        refine l_gfi rfl rfl rfl rfl rfl ?_
        have w14 : 0 ≤ (Xi T2 876 7) ∧ (Xi T2 876 7) ≤ 5130 := hHT2.c _ _
        refine l_iconst rfl ?_
        refine l_isub rfl ?_
        refine l_iaload (n := 5130) rfl rfl (by omega) (by omega) (by unfold rg; omega) ?_
        have w15 : 0 ≤ (Xi T2 877 ((((Xi T2 876 7) - 1)).toNat)) ∧ (Xi T2 877 ((((Xi T2 876 7) - 1)).toNat)) ≤ 108 := hHT2.c _ _
        refine l_istore rfl rfl rfl ?_
        refine l_iload rfl rfl ?_
        refine l_istore_n rfl rfl rfl ?_
        refine l_iload rfl rfl ?_
        refine l_bipush rfl rfl ?_
        refine l_icmp_eq rfl rfl (by unfold rg; omega) (by unfold rg; omega) (fun w16 => ?_) (fun w17 => ?_)
        · refine l_iconst rfl ?_
          refine l_istore_n rfl rfl rfl ?_
          refine l_iload_n rfl rfl ?_
          refine l_if_eq rfl rfl (by unfold rg; omega) (fun w18 => ?_) (fun w19 => absurd w19 (by omega))
          · refine l_goto rfl rfl ?_
            have w20 : 0 ≤ Xi T2 876 5 ∧ Xi T2 876 5 ≤ 5000 := hHT2.c _ _
            exact Rl_weak (ih9 _ (by omega) T2 hHT2 hFT2 (v4) (0) (by omega) (by omega) (by first | assumption | omega) (by omega) (by omega) rfl) (And.intro rfl (And.intro rfl (And.intro rfl (True.intro))))
        · refine l_iload rfl rfl ?_
          refine l_bipush rfl rfl ?_
          refine l_icmp_eq rfl rfl (by unfold rg; omega) (by unfold rg; omega) (fun w21 => ?_) (fun w22 => ?_)
          · refine l_iconst rfl ?_
            refine l_istore_n rfl rfl rfl ?_
            refine l_iload_n rfl rfl ?_
            refine l_if_eq rfl rfl (by unfold rg; omega) (fun w23 => ?_) (fun w24 => absurd w24 (by omega))
            · refine l_goto rfl rfl ?_
              have w25 : 0 ≤ Xi T2 876 5 ∧ Xi T2 876 5 ≤ 5000 := hHT2.c _ _
              exact Rl_weak (ih9 _ (by omega) T2 hHT2 hFT2 (v4) (0) (by omega) (by omega) (by first | assumption | omega) (by omega) (by omega) rfl) (And.intro rfl (And.intro rfl (And.intro rfl (True.intro))))
          · refine l_iload rfl rfl ?_
            refine l_bipush rfl rfl ?_
            refine l_icmp_ne rfl rfl (by unfold rg; omega) (by unfold rg; omega) (fun w26 => ?_) (fun w27 => ?_)
            · refine l_iconst rfl ?_
              refine l_goto rfl rfl ?_
              refine l_istore_n rfl rfl rfl ?_
              refine l_iload_n rfl rfl ?_
              refine l_if_eq rfl rfl (by unfold rg; omega) (fun w28 => absurd w28 (by omega)) (fun w29 => ?_)
              · refine l_aload_n rfl rfl ?_
                refine l_iload_n rfl rfl ?_
                have w30 : 0 ≤ Xi T2 876 5 ∧ Xi T2 876 5 ≤ 5000 := hHT2.c _ _
                refine l_callV rfl rfl rfl (t_to_skip hHT2 ts v4 ⟨by omega, by omega⟩ ((hFT2 876 4 rfl).2.2.trans hts) htp (by first | assumption | omega) _) ?_
                rintro _ _ ⟨rfl, z32, rfl, w32, w31⟩
                show Rl _ _ _ _ _ [iv z32] _ _
                refine l_istore_n rfl rfl rfl ?_
                refine l_goto rfl rfl ?_
                have w33 : 0 ≤ Xi T2 876 5 ∧ Xi T2 876 5 ≤ 5000 := hHT2.c _ _
                exact Rl_weak (ih9 _ (by omega) T2 hHT2 hFT2 (z32) (1) (by omega) (by omega) (by first | assumption | omega) (by omega) (by omega) rfl) (And.intro rfl (And.intro rfl (And.intro rfl (True.intro))))
            · refine l_aload_n rfl rfl ?_
              refine l_gfi rfl rfl rfl rfl rfl ?_
              refine l_iconst rfl ?_
              refine l_icmp_eq rfl rfl (by unfold rg; omega) (by unfold rg; omega) (fun w34 => ?_) (fun w35 => ?_)
              · refine l_iconst rfl ?_
                refine l_istore_n rfl rfl rfl ?_
                refine l_iload_n rfl rfl ?_
                refine l_if_eq rfl rfl (by unfold rg; omega) (fun w36 => ?_) (fun w37 => absurd w37 (by omega))
                · refine l_goto rfl rfl ?_
                  have w38 : 0 ≤ Xi T2 876 5 ∧ Xi T2 876 5 ≤ 5000 := hHT2.c _ _
                  exact Rl_weak (ih9 _ (by omega) T2 hHT2 hFT2 (v4) (0) (by omega) (by omega) (by first | assumption | omega) (by omega) (by omega) rfl) (And.intro rfl (And.intro rfl (And.intro rfl (True.intro))))
              · refine l_iconst rfl ?_
                refine l_goto rfl rfl ?_
                refine l_istore_n rfl rfl rfl ?_
                refine l_iload_n rfl rfl ?_
                refine l_if_eq rfl rfl (by unfold rg; omega) (fun w39 => absurd w39 (by omega)) (fun w40 => ?_)
                · refine l_aload_n rfl rfl ?_
                  refine l_iload_n rfl rfl ?_
                  have w41 : 0 ≤ Xi T2 876 5 ∧ Xi T2 876 5 ≤ 5000 := hHT2.c _ _
                  refine l_callV rfl rfl rfl (t_to_skip hHT2 ts v4 ⟨by omega, by omega⟩ ((hFT2 876 4 rfl).2.2.trans hts) htp (by first | assumption | omega) _) ?_
                  rintro _ _ ⟨rfl, z43, rfl, w43, w42⟩
                  show Rl _ _ _ _ _ [iv z43] _ _
                  refine l_istore_n rfl rfl rfl ?_
                  refine l_goto rfl rfl ?_
                  have w44 : 0 ≤ Xi T2 876 5 ∧ Xi T2 876 5 ≤ 5000 := hHT2.c _ _
                  exact Rl_weak (ih9 _ (by omega) T2 hHT2 hFT2 (z43) (1) (by omega) (by omega) (by first | assumption | omega) (by omega) (by omega) rfl) (And.intro rfl (And.intro rfl (And.intro rfl (True.intro))))
      refine l_iload_n rfl rfl ?_
      refine l_aload_n rfl rfl ?_
      refine l_gfi rfl rfl rfl rfl rfl ?_
      have w45 : 0 ≤ (Xi T1 876 5) ∧ (Xi T1 876 5) ≤ 5000 := hHT1.c _ _
      refine l_icmp_ge rfl rfl (by unfold rg; omega) (by unfold rg; omega) (fun w46 => ?_) (fun w47 => ?_)
      · refine l_iload_n rfl rfl ?_
        refine l_if_eq rfl rfl (by unfold rg; omega) (fun w48 => ?_) (fun w49 => ?_)
        · refine l_aload_n rfl rfl ?_
          refine l_gfr rfl rfl rfl rfl rfl (hHT1.r 876 0 877 rfl) ?_
          refine l_iconst rfl ?_
          refine l_iaload (n := 5130) rfl rfl (by omega) (by omega) (by unfold rg; omega) ?_
          have w50 : 0 ≤ (Xi T1 877 ((0 : Int).toNat)) ∧ (Xi T1 877 ((0 : Int).toNat)) ≤ 108 := hHT1.c _ _
          refine l_bipush rfl rfl ?_
          refine l_icmp_ne rfl rfl (by unfold rg; omega) (by unfold rg; omega) (fun w51 => ?_) (fun w52 => ?_)
          · refine l_aload_n rfl rfl ?_
            refine l_aload_n rfl rfl ?_
            refine l_gfi rfl rfl rfl rfl rfl ?_
            have w53 : 0 ≤ (Xi T1 876 7) ∧ (Xi T1 876 7) ≤ 5130 := hHT1.c _ _
            refine l_pfi rfl rfl rfl rfl ?_
            obtain ⟨U3, eU3⟩ : ∃ T : sS, T = uI T1 876 6 (Int32.ofInt (Xi T1 876 7)) := ⟨_, rfl⟩
            rw [← eU3]
            have hHU3 : HI U3 := by rw [eU3]; exact HI_w hHT1 (show 0 ≤ (Xi T1 876 7) by omega) (show (Xi T1 876 7) ≤ 5130 by omega)
            have hFU3 : FR md_to_takeSentence S U3 := by rw [eU3]; exact FR.wI hFT1 (mdf_i (r := (876, 877, 6, 7)) (List.mem_of_getElem? (i := 0) rfl) (inR_i (by omega) (by omega) (by omega) (by omega)))
            have w54 : Xi U3 876 6 = (Xi T1 876 7) := by rw [eU3]; exact Xi_same (by unfold rg; omega)
            refine l_iload_n rfl rfl ?_
            refine l_ireturn rfl rfl ?_
            have w55 : 0 ≤ Xi U3 876 6 ∧ Xi U3 876 6 ≤ 5130 := hHU3.c _ _
            have w56 : Xi U3 876 7 = Xi T1 876 7 := (show Xi U3 876 7 = Xi T1 876 7 from by rw [eU3]; exact Xi_ne (by omega))
            have w57 : 0 ≤ Xi T1 876 7 ∧ Xi T1 876 7 ≤ 5130 := hHT1.c _ _
            exact ⟨hHU3, hFU3, _, rfl, ⟨by omega, by omega⟩, (TOK_w6 eU3 (by assumption)), (by omega), (by omega)⟩
          · refine l_aload_n rfl rfl ?_
            refine l_gfi rfl rfl rfl rfl rfl ?_
            have w58 : 0 ≤ (Xi T1 876 7) ∧ (Xi T1 876 7) ≤ 5130 := hHT1.c _ _
            refine l_iconst rfl ?_
            refine l_icmp_ne rfl rfl (by unfold rg; omega) (by unfold rg; omega) (fun w59 => ?_) (fun w60 => ?_)
            · refine l_aload_n rfl rfl ?_
              refine l_aload_n rfl rfl ?_
              refine l_gfi rfl rfl rfl rfl rfl ?_
              refine l_pfi rfl rfl rfl rfl ?_
              obtain ⟨U4, eU4⟩ : ∃ T : sS, T = uI T1 876 6 (Int32.ofInt (Xi T1 876 7)) := ⟨_, rfl⟩
              rw [← eU4]
              have hHU4 : HI U4 := by rw [eU4]; exact HI_w hHT1 (show 0 ≤ (Xi T1 876 7) by omega) (show (Xi T1 876 7) ≤ 5130 by omega)
              have hFU4 : FR md_to_takeSentence S U4 := by rw [eU4]; exact FR.wI hFT1 (mdf_i (r := (876, 877, 6, 7)) (List.mem_of_getElem? (i := 0) rfl) (inR_i (by omega) (by omega) (by omega) (by omega)))
              have w61 : Xi U4 876 6 = (Xi T1 876 7) := by rw [eU4]; exact Xi_same (by unfold rg; omega)
              refine l_iload_n rfl rfl ?_
              refine l_ireturn rfl rfl ?_
              have w62 : 0 ≤ Xi U4 876 6 ∧ Xi U4 876 6 ≤ 5130 := hHU4.c _ _
              have w63 : Xi U4 876 7 = Xi T1 876 7 := (show Xi U4 876 7 = Xi T1 876 7 from by rw [eU4]; exact Xi_ne (by omega))
              have w64 : 0 ≤ Xi T1 876 7 ∧ Xi T1 876 7 ≤ 5130 := hHT1.c _ _
              exact ⟨hHU4, hFU4, _, rfl, ⟨by omega, by omega⟩, (TOK_w6 eU4 (by assumption)), (by omega), (by omega)⟩
            · refine l_aload_n rfl rfl ?_
              refine l_iload_n rfl rfl ?_
              have w65 : 0 ≤ Xi T1 876 5 ∧ Xi T1 876 5 ≤ 5000 := hHT1.c _ _
              have w66 : 0 ≤ Xi T1 876 7 ∧ Xi T1 876 7 ≤ 5130 := hHT1.c _ _
              refine l_callV rfl rfl rfl (t_to_takeDotBehindText hHT1 ts v2 ⟨by omega, by omega⟩ ((hFT1 876 4 rfl).2.2.trans hts) htp (by first | assumption | omega) (by first | assumption | omega) _) ?_
              rintro _ T5 ⟨hHT5, w71, z70, rfl, w70, w67, w68, w69⟩
              have hFT5 : FR md_to_takeSentence S T5 := FR.tr hFT1 w71 rfl
              show Rl _ _ _ _ _ [iv z70] _ _
              refine l_istore_n rfl rfl rfl ?_
              refine l_aload_n rfl rfl ?_
              refine l_aload_n rfl rfl ?_
              refine l_gfi rfl rfl rfl rfl rfl ?_
              have w72 : 0 ≤ (Xi T5 876 7) ∧ (Xi T5 876 7) ≤ 5130 := hHT5.c _ _
              refine l_pfi rfl rfl rfl rfl ?_
              obtain ⟨U6, eU6⟩ : ∃ T : sS, T = uI T5 876 6 (Int32.ofInt (Xi T5 876 7)) := ⟨_, rfl⟩
              rw [← eU6]
              have hHU6 : HI U6 := by rw [eU6]; exact HI_w hHT5 (show 0 ≤ (Xi T5 876 7) by omega) (show (Xi T5 876 7) ≤ 5130 by omega)
              have hFU6 : FR md_to_takeSentence S U6 := by rw [eU6]; exact FR.wI hFT5 (mdf_i (r := (876, 877, 6, 7)) (List.mem_of_getElem? (i := 0) rfl) (inR_i (by omega) (by omega) (by omega) (by omega)))
              have w73 : Xi U6 876 6 = (Xi T5 876 7) := by rw [eU6]; exact Xi_same (by unfold rg; omega)
              refine l_iload_n rfl rfl ?_
              refine l_ireturn rfl rfl ?_
              have w74 : 0 ≤ Xi U6 876 6 ∧ Xi U6 876 6 ≤ 5130 := hHU6.c _ _
              have w75 : Xi U6 876 7 = Xi T5 876 7 := (show Xi U6 876 7 = Xi T5 876 7 from by rw [eU6]; exact Xi_ne (by omega))
              have w76 : 0 ≤ Xi T5 876 7 ∧ Xi T5 876 7 ≤ 5130 := hHT5.c _ _
              exact ⟨hHU6, hFU6, _, rfl, ⟨by omega, by omega⟩, (TOK_w6 eU6 (by assumption)), (by omega), (by omega)⟩
        · refine l_aload_n rfl rfl ?_
          refine l_bipush rfl rfl ?_
          refine l_aload_n rfl rfl ?_
          refine l_gfi rfl rfl rfl rfl rfl ?_
          refine l_lconst (z := 0) rfl rfl ?_
          have w77 : 0 ≤ Xi T1 876 5 ∧ Xi T1 876 5 ≤ 5000 := hHT1.c _ _
          have w78 : 0 ≤ Xi T1 876 7 ∧ Xi T1 876 7 ≤ 5130 := hHT1.c _ _
          refine l_callV rfl rfl rfl (t_to_note hHT1 107 (Xi T1 876 5) 0 ⟨by omega, by omega⟩ ⟨by omega, by omega⟩ (by first | assumption | omega) (by first | assumption | omega) _) ?_
          rintro _ T7 ⟨hHT7, w82, rfl, w79, w80⟩
          have hFT7 : FR md_to_takeSentence S T7 := FR.tr hFT1 w82 rfl
          show Rl _ _ _ _ _ [] _ _
          refine l_aload_n rfl rfl ?_
          refine l_gfr rfl rfl rfl rfl rfl (hHT7.r 876 0 877 rfl) ?_
          refine l_iconst rfl ?_
          refine l_iaload (n := 5130) rfl rfl (by omega) (by omega) (by unfold rg; omega) ?_
          have w83 : 0 ≤ (Xi T7 877 ((0 : Int).toNat)) ∧ (Xi T7 877 ((0 : Int).toNat)) ≤ 108 := hHT7.c _ _
          refine l_bipush rfl rfl ?_
          refine l_icmp_ne rfl rfl (by unfold rg; omega) (by unfold rg; omega) (fun w84 => ?_) (fun w85 => ?_)
          · refine l_aload_n rfl rfl ?_
            refine l_aload_n rfl rfl ?_
            refine l_gfi rfl rfl rfl rfl rfl ?_
            have w86 : 0 ≤ (Xi T7 876 7) ∧ (Xi T7 876 7) ≤ 5130 := hHT7.c _ _
            refine l_pfi rfl rfl rfl rfl ?_
            obtain ⟨U8, eU8⟩ : ∃ T : sS, T = uI T7 876 6 (Int32.ofInt (Xi T7 876 7)) := ⟨_, rfl⟩
            rw [← eU8]
            have hHU8 : HI U8 := by rw [eU8]; exact HI_w hHT7 (show 0 ≤ (Xi T7 876 7) by omega) (show (Xi T7 876 7) ≤ 5130 by omega)
            have hFU8 : FR md_to_takeSentence S U8 := by rw [eU8]; exact FR.wI hFT7 (mdf_i (r := (876, 877, 6, 7)) (List.mem_of_getElem? (i := 0) rfl) (inR_i (by omega) (by omega) (by omega) (by omega)))
            have w87 : Xi U8 876 6 = (Xi T7 876 7) := by rw [eU8]; exact Xi_same (by unfold rg; omega)
            refine l_iload_n rfl rfl ?_
            refine l_ireturn rfl rfl ?_
            have w88 : 0 ≤ Xi U8 876 6 ∧ Xi U8 876 6 ≤ 5130 := hHU8.c _ _
            have w89 : Xi U8 876 7 = Xi T7 876 7 := (show Xi U8 876 7 = Xi T7 876 7 from by rw [eU8]; exact Xi_ne (by omega))
            have w90 : 0 ≤ Xi T7 876 7 ∧ Xi T7 876 7 ≤ 5130 := hHT7.c _ _
            exact ⟨hHU8, hFU8, _, rfl, ⟨by omega, by omega⟩, (TOK_w6 eU8 (by assumption)), (by omega), (by omega)⟩
          · refine l_aload_n rfl rfl ?_
            refine l_gfi rfl rfl rfl rfl rfl ?_
            have w91 : 0 ≤ (Xi T7 876 7) ∧ (Xi T7 876 7) ≤ 5130 := hHT7.c _ _
            refine l_iconst rfl ?_
            refine l_icmp_ne rfl rfl (by unfold rg; omega) (by unfold rg; omega) (fun w92 => ?_) (fun w93 => ?_)
            · refine l_aload_n rfl rfl ?_
              refine l_aload_n rfl rfl ?_
              refine l_gfi rfl rfl rfl rfl rfl ?_
              refine l_pfi rfl rfl rfl rfl ?_
              obtain ⟨U9, eU9⟩ : ∃ T : sS, T = uI T7 876 6 (Int32.ofInt (Xi T7 876 7)) := ⟨_, rfl⟩
              rw [← eU9]
              have hHU9 : HI U9 := by rw [eU9]; exact HI_w hHT7 (show 0 ≤ (Xi T7 876 7) by omega) (show (Xi T7 876 7) ≤ 5130 by omega)
              have hFU9 : FR md_to_takeSentence S U9 := by rw [eU9]; exact FR.wI hFT7 (mdf_i (r := (876, 877, 6, 7)) (List.mem_of_getElem? (i := 0) rfl) (inR_i (by omega) (by omega) (by omega) (by omega)))
              have w94 : Xi U9 876 6 = (Xi T7 876 7) := by rw [eU9]; exact Xi_same (by unfold rg; omega)
              refine l_iload_n rfl rfl ?_
              refine l_ireturn rfl rfl ?_
              have w95 : 0 ≤ Xi U9 876 6 ∧ Xi U9 876 6 ≤ 5130 := hHU9.c _ _
              have w96 : Xi U9 876 7 = Xi T7 876 7 := (show Xi U9 876 7 = Xi T7 876 7 from by rw [eU9]; exact Xi_ne (by omega))
              have w97 : 0 ≤ Xi T7 876 7 ∧ Xi T7 876 7 ≤ 5130 := hHT7.c _ _
              exact ⟨hHU9, hFU9, _, rfl, ⟨by omega, by omega⟩, (TOK_w6 eU9 (by assumption)), (by omega), (by omega)⟩
            · refine l_aload_n rfl rfl ?_
              refine l_iload_n rfl rfl ?_
              have w98 : Xi T7 876 5 = Xi T1 876 5 := (show Xi T7 876 5 = Xi T1 876 5 from w82.x _ _ rfl)
              have w99 : 0 ≤ Xi T1 876 5 ∧ Xi T1 876 5 ≤ 5000 := hHT1.c _ _
              have w100 : 0 ≤ Xi T7 876 7 ∧ Xi T7 876 7 ≤ 5130 := hHT7.c _ _
              refine l_callV rfl rfl rfl (t_to_takeDotBehindText hHT7 ts v2 ⟨by omega, by omega⟩ ((hFT7 876 4 rfl).2.2.trans hts) htp (by first | assumption | omega) (by first | assumption | omega) _) ?_
              rintro _ T10 ⟨hHT10, w105, z104, rfl, w104, w101, w102, w103⟩
              have hFT10 : FR md_to_takeSentence S T10 := FR.tr hFT7 w105 rfl
              show Rl _ _ _ _ _ [iv z104] _ _
              refine l_istore_n rfl rfl rfl ?_
              refine l_aload_n rfl rfl ?_
              refine l_aload_n rfl rfl ?_
              refine l_gfi rfl rfl rfl rfl rfl ?_
              have w106 : 0 ≤ (Xi T10 876 7) ∧ (Xi T10 876 7) ≤ 5130 := hHT10.c _ _
              refine l_pfi rfl rfl rfl rfl ?_
              obtain ⟨U11, eU11⟩ : ∃ T : sS, T = uI T10 876 6 (Int32.ofInt (Xi T10 876 7)) := ⟨_, rfl⟩
              rw [← eU11]
              have hHU11 : HI U11 := by rw [eU11]; exact HI_w hHT10 (show 0 ≤ (Xi T10 876 7) by omega) (show (Xi T10 876 7) ≤ 5130 by omega)
              have hFU11 : FR md_to_takeSentence S U11 := by rw [eU11]; exact FR.wI hFT10 (mdf_i (r := (876, 877, 6, 7)) (List.mem_of_getElem? (i := 0) rfl) (inR_i (by omega) (by omega) (by omega) (by omega)))
              have w107 : Xi U11 876 6 = (Xi T10 876 7) := by rw [eU11]; exact Xi_same (by unfold rg; omega)
              refine l_iload_n rfl rfl ?_
              refine l_ireturn rfl rfl ?_
              have w108 : 0 ≤ Xi U11 876 6 ∧ Xi U11 876 6 ≤ 5130 := hHU11.c _ _
              have w109 : Xi U11 876 7 = Xi T10 876 7 := (show Xi U11 876 7 = Xi T10 876 7 from by rw [eU11]; exact Xi_ne (by omega))
              have w110 : 0 ≤ Xi T10 876 7 ∧ Xi T10 876 7 ≤ 5130 := hHT10.c _ _
              exact ⟨hHU11, hFU11, _, rfl, ⟨by omega, by omega⟩, (TOK_w6 eU11 (by assumption)), (by omega), (by omega)⟩
      · refine l_iload_n rfl rfl ?_
        refine l_if_eq rfl rfl (by unfold rg; omega) (fun w111 => ?_) (fun w112 => ?_)
        · refine l_iload_n rfl rfl ?_
          refine l_if_eq rfl rfl (by unfold rg; omega) (fun w113 => ?_) (fun w114 => ?_)
          · refine l_aload_n rfl rfl ?_
            refine l_gfr rfl rfl rfl rfl rfl (hHT1.r 876 0 877 rfl) ?_
            refine l_iconst rfl ?_
            refine l_iaload (n := 5130) rfl rfl (by omega) (by omega) (by unfold rg; omega) ?_
            have w115 : 0 ≤ (Xi T1 877 ((0 : Int).toNat)) ∧ (Xi T1 877 ((0 : Int).toNat)) ≤ 108 := hHT1.c _ _
            refine l_bipush rfl rfl ?_
            refine l_icmp_ne rfl rfl (by unfold rg; omega) (by unfold rg; omega) (fun w116 => ?_) (fun w117 => ?_)
            · refine l_aload_n rfl rfl ?_
              refine l_aload_n rfl rfl ?_
              refine l_gfi rfl rfl rfl rfl rfl ?_
              have w118 : 0 ≤ (Xi T1 876 7) ∧ (Xi T1 876 7) ≤ 5130 := hHT1.c _ _
              refine l_pfi rfl rfl rfl rfl ?_
              obtain ⟨U12, eU12⟩ : ∃ T : sS, T = uI T1 876 6 (Int32.ofInt (Xi T1 876 7)) := ⟨_, rfl⟩
              rw [← eU12]
              have hHU12 : HI U12 := by rw [eU12]; exact HI_w hHT1 (show 0 ≤ (Xi T1 876 7) by omega) (show (Xi T1 876 7) ≤ 5130 by omega)
              have hFU12 : FR md_to_takeSentence S U12 := by rw [eU12]; exact FR.wI hFT1 (mdf_i (r := (876, 877, 6, 7)) (List.mem_of_getElem? (i := 0) rfl) (inR_i (by omega) (by omega) (by omega) (by omega)))
              have w119 : Xi U12 876 6 = (Xi T1 876 7) := by rw [eU12]; exact Xi_same (by unfold rg; omega)
              refine l_iload_n rfl rfl ?_
              refine l_ireturn rfl rfl ?_
              have w120 : 0 ≤ Xi U12 876 6 ∧ Xi U12 876 6 ≤ 5130 := hHU12.c _ _
              have w121 : Xi U12 876 7 = Xi T1 876 7 := (show Xi U12 876 7 = Xi T1 876 7 from by rw [eU12]; exact Xi_ne (by omega))
              have w122 : 0 ≤ Xi T1 876 7 ∧ Xi T1 876 7 ≤ 5130 := hHT1.c _ _
              exact ⟨hHU12, hFU12, _, rfl, ⟨by omega, by omega⟩, (TOK_w6 eU12 (by assumption)), (by omega), (by omega)⟩
            · refine l_aload_n rfl rfl ?_
              refine l_gfi rfl rfl rfl rfl rfl ?_
              have w123 : 0 ≤ (Xi T1 876 7) ∧ (Xi T1 876 7) ≤ 5130 := hHT1.c _ _
              refine l_iconst rfl ?_
              refine l_icmp_ne rfl rfl (by unfold rg; omega) (by unfold rg; omega) (fun w124 => ?_) (fun w125 => ?_)
              · refine l_aload_n rfl rfl ?_
                refine l_aload_n rfl rfl ?_
                refine l_gfi rfl rfl rfl rfl rfl ?_
                refine l_pfi rfl rfl rfl rfl ?_
                obtain ⟨U13, eU13⟩ : ∃ T : sS, T = uI T1 876 6 (Int32.ofInt (Xi T1 876 7)) := ⟨_, rfl⟩
                rw [← eU13]
                have hHU13 : HI U13 := by rw [eU13]; exact HI_w hHT1 (show 0 ≤ (Xi T1 876 7) by omega) (show (Xi T1 876 7) ≤ 5130 by omega)
                have hFU13 : FR md_to_takeSentence S U13 := by rw [eU13]; exact FR.wI hFT1 (mdf_i (r := (876, 877, 6, 7)) (List.mem_of_getElem? (i := 0) rfl) (inR_i (by omega) (by omega) (by omega) (by omega)))
                have w126 : Xi U13 876 6 = (Xi T1 876 7) := by rw [eU13]; exact Xi_same (by unfold rg; omega)
                refine l_iload_n rfl rfl ?_
                refine l_ireturn rfl rfl ?_
                have w127 : 0 ≤ Xi U13 876 6 ∧ Xi U13 876 6 ≤ 5130 := hHU13.c _ _
                have w128 : Xi U13 876 7 = Xi T1 876 7 := (show Xi U13 876 7 = Xi T1 876 7 from by rw [eU13]; exact Xi_ne (by omega))
                have w129 : 0 ≤ Xi T1 876 7 ∧ Xi T1 876 7 ≤ 5130 := hHT1.c _ _
                exact ⟨hHU13, hFU13, _, rfl, ⟨by omega, by omega⟩, (TOK_w6 eU13 (by assumption)), (by omega), (by omega)⟩
              · refine l_aload_n rfl rfl ?_
                refine l_iload_n rfl rfl ?_
                have w130 : 0 ≤ Xi T1 876 5 ∧ Xi T1 876 5 ≤ 5000 := hHT1.c _ _
                have w131 : 0 ≤ Xi T1 876 7 ∧ Xi T1 876 7 ≤ 5130 := hHT1.c _ _
                refine l_callV rfl rfl rfl (t_to_takeDotBehindText hHT1 ts v2 ⟨by omega, by omega⟩ ((hFT1 876 4 rfl).2.2.trans hts) htp (by first | assumption | omega) (by first | assumption | omega) _) ?_
                rintro _ T14 ⟨hHT14, w136, z135, rfl, w135, w132, w133, w134⟩
                have hFT14 : FR md_to_takeSentence S T14 := FR.tr hFT1 w136 rfl
                show Rl _ _ _ _ _ [iv z135] _ _
                refine l_istore_n rfl rfl rfl ?_
                refine l_aload_n rfl rfl ?_
                refine l_aload_n rfl rfl ?_
                refine l_gfi rfl rfl rfl rfl rfl ?_
                have w137 : 0 ≤ (Xi T14 876 7) ∧ (Xi T14 876 7) ≤ 5130 := hHT14.c _ _
                refine l_pfi rfl rfl rfl rfl ?_
                obtain ⟨U15, eU15⟩ : ∃ T : sS, T = uI T14 876 6 (Int32.ofInt (Xi T14 876 7)) := ⟨_, rfl⟩
                rw [← eU15]
                have hHU15 : HI U15 := by rw [eU15]; exact HI_w hHT14 (show 0 ≤ (Xi T14 876 7) by omega) (show (Xi T14 876 7) ≤ 5130 by omega)
                have hFU15 : FR md_to_takeSentence S U15 := by rw [eU15]; exact FR.wI hFT14 (mdf_i (r := (876, 877, 6, 7)) (List.mem_of_getElem? (i := 0) rfl) (inR_i (by omega) (by omega) (by omega) (by omega)))
                have w138 : Xi U15 876 6 = (Xi T14 876 7) := by rw [eU15]; exact Xi_same (by unfold rg; omega)
                refine l_iload_n rfl rfl ?_
                refine l_ireturn rfl rfl ?_
                have w139 : 0 ≤ Xi U15 876 6 ∧ Xi U15 876 6 ≤ 5130 := hHU15.c _ _
                have w140 : Xi U15 876 7 = Xi T14 876 7 := (show Xi U15 876 7 = Xi T14 876 7 from by rw [eU15]; exact Xi_ne (by omega))
                have w141 : 0 ≤ Xi T14 876 7 ∧ Xi T14 876 7 ≤ 5130 := hHT14.c _ _
                exact ⟨hHU15, hFU15, _, rfl, ⟨by omega, by omega⟩, (TOK_w6 eU15 (by assumption)), (by omega), (by omega)⟩
          · refine l_aload_n rfl rfl ?_
            refine l_bipush rfl rfl ?_
            refine l_aload_n rfl rfl ?_
            refine l_gfi rfl rfl rfl rfl rfl ?_
            refine l_lconst (z := 0) rfl rfl ?_
            have w142 : 0 ≤ Xi T1 876 5 ∧ Xi T1 876 5 ≤ 5000 := hHT1.c _ _
            have w143 : 0 ≤ Xi T1 876 7 ∧ Xi T1 876 7 ≤ 5130 := hHT1.c _ _
            refine l_callV rfl rfl rfl (t_to_note hHT1 107 (Xi T1 876 5) 0 ⟨by omega, by omega⟩ ⟨by omega, by omega⟩ (by first | assumption | omega) (by first | assumption | omega) _) ?_
            rintro _ T16 ⟨hHT16, w147, rfl, w144, w145⟩
            have hFT16 : FR md_to_takeSentence S T16 := FR.tr hFT1 w147 rfl
            show Rl _ _ _ _ _ [] _ _
            refine l_aload_n rfl rfl ?_
            refine l_gfr rfl rfl rfl rfl rfl (hHT16.r 876 0 877 rfl) ?_
            refine l_iconst rfl ?_
            refine l_iaload (n := 5130) rfl rfl (by omega) (by omega) (by unfold rg; omega) ?_
            have w148 : 0 ≤ (Xi T16 877 ((0 : Int).toNat)) ∧ (Xi T16 877 ((0 : Int).toNat)) ≤ 108 := hHT16.c _ _
            refine l_bipush rfl rfl ?_
            refine l_icmp_ne rfl rfl (by unfold rg; omega) (by unfold rg; omega) (fun w149 => ?_) (fun w150 => ?_)
            · refine l_aload_n rfl rfl ?_
              refine l_aload_n rfl rfl ?_
              refine l_gfi rfl rfl rfl rfl rfl ?_
              have w151 : 0 ≤ (Xi T16 876 7) ∧ (Xi T16 876 7) ≤ 5130 := hHT16.c _ _
              refine l_pfi rfl rfl rfl rfl ?_
              obtain ⟨U17, eU17⟩ : ∃ T : sS, T = uI T16 876 6 (Int32.ofInt (Xi T16 876 7)) := ⟨_, rfl⟩
              rw [← eU17]
              have hHU17 : HI U17 := by rw [eU17]; exact HI_w hHT16 (show 0 ≤ (Xi T16 876 7) by omega) (show (Xi T16 876 7) ≤ 5130 by omega)
              have hFU17 : FR md_to_takeSentence S U17 := by rw [eU17]; exact FR.wI hFT16 (mdf_i (r := (876, 877, 6, 7)) (List.mem_of_getElem? (i := 0) rfl) (inR_i (by omega) (by omega) (by omega) (by omega)))
              have w152 : Xi U17 876 6 = (Xi T16 876 7) := by rw [eU17]; exact Xi_same (by unfold rg; omega)
              refine l_iload_n rfl rfl ?_
              refine l_ireturn rfl rfl ?_
              have w153 : 0 ≤ Xi U17 876 6 ∧ Xi U17 876 6 ≤ 5130 := hHU17.c _ _
              have w154 : Xi U17 876 7 = Xi T16 876 7 := (show Xi U17 876 7 = Xi T16 876 7 from by rw [eU17]; exact Xi_ne (by omega))
              have w155 : 0 ≤ Xi T16 876 7 ∧ Xi T16 876 7 ≤ 5130 := hHT16.c _ _
              exact ⟨hHU17, hFU17, _, rfl, ⟨by omega, by omega⟩, (TOK_w6 eU17 (by assumption)), (by omega), (by omega)⟩
            · refine l_aload_n rfl rfl ?_
              refine l_gfi rfl rfl rfl rfl rfl ?_
              have w156 : 0 ≤ (Xi T16 876 7) ∧ (Xi T16 876 7) ≤ 5130 := hHT16.c _ _
              refine l_iconst rfl ?_
              refine l_icmp_ne rfl rfl (by unfold rg; omega) (by unfold rg; omega) (fun w157 => ?_) (fun w158 => ?_)
              · refine l_aload_n rfl rfl ?_
                refine l_aload_n rfl rfl ?_
                refine l_gfi rfl rfl rfl rfl rfl ?_
                refine l_pfi rfl rfl rfl rfl ?_
                obtain ⟨U18, eU18⟩ : ∃ T : sS, T = uI T16 876 6 (Int32.ofInt (Xi T16 876 7)) := ⟨_, rfl⟩
                rw [← eU18]
                have hHU18 : HI U18 := by rw [eU18]; exact HI_w hHT16 (show 0 ≤ (Xi T16 876 7) by omega) (show (Xi T16 876 7) ≤ 5130 by omega)
                have hFU18 : FR md_to_takeSentence S U18 := by rw [eU18]; exact FR.wI hFT16 (mdf_i (r := (876, 877, 6, 7)) (List.mem_of_getElem? (i := 0) rfl) (inR_i (by omega) (by omega) (by omega) (by omega)))
                have w159 : Xi U18 876 6 = (Xi T16 876 7) := by rw [eU18]; exact Xi_same (by unfold rg; omega)
                refine l_iload_n rfl rfl ?_
                refine l_ireturn rfl rfl ?_
                have w160 : 0 ≤ Xi U18 876 6 ∧ Xi U18 876 6 ≤ 5130 := hHU18.c _ _
                have w161 : Xi U18 876 7 = Xi T16 876 7 := (show Xi U18 876 7 = Xi T16 876 7 from by rw [eU18]; exact Xi_ne (by omega))
                have w162 : 0 ≤ Xi T16 876 7 ∧ Xi T16 876 7 ≤ 5130 := hHT16.c _ _
                exact ⟨hHU18, hFU18, _, rfl, ⟨by omega, by omega⟩, (TOK_w6 eU18 (by assumption)), (by omega), (by omega)⟩
              · refine l_aload_n rfl rfl ?_
                refine l_iload_n rfl rfl ?_
                have w163 : Xi T16 876 5 = Xi T1 876 5 := (show Xi T16 876 5 = Xi T1 876 5 from w147.x _ _ rfl)
                have w164 : 0 ≤ Xi T1 876 5 ∧ Xi T1 876 5 ≤ 5000 := hHT1.c _ _
                have w165 : 0 ≤ Xi T16 876 7 ∧ Xi T16 876 7 ≤ 5130 := hHT16.c _ _
                refine l_callV rfl rfl rfl (t_to_takeDotBehindText hHT16 ts v2 ⟨by omega, by omega⟩ ((hFT16 876 4 rfl).2.2.trans hts) htp (by first | assumption | omega) (by first | assumption | omega) _) ?_
                rintro _ T19 ⟨hHT19, w170, z169, rfl, w169, w166, w167, w168⟩
                have hFT19 : FR md_to_takeSentence S T19 := FR.tr hFT16 w170 rfl
                show Rl _ _ _ _ _ [iv z169] _ _
                refine l_istore_n rfl rfl rfl ?_
                refine l_aload_n rfl rfl ?_
                refine l_aload_n rfl rfl ?_
                refine l_gfi rfl rfl rfl rfl rfl ?_
                have w171 : 0 ≤ (Xi T19 876 7) ∧ (Xi T19 876 7) ≤ 5130 := hHT19.c _ _
                refine l_pfi rfl rfl rfl rfl ?_
                obtain ⟨U20, eU20⟩ : ∃ T : sS, T = uI T19 876 6 (Int32.ofInt (Xi T19 876 7)) := ⟨_, rfl⟩
                rw [← eU20]
                have hHU20 : HI U20 := by rw [eU20]; exact HI_w hHT19 (show 0 ≤ (Xi T19 876 7) by omega) (show (Xi T19 876 7) ≤ 5130 by omega)
                have hFU20 : FR md_to_takeSentence S U20 := by rw [eU20]; exact FR.wI hFT19 (mdf_i (r := (876, 877, 6, 7)) (List.mem_of_getElem? (i := 0) rfl) (inR_i (by omega) (by omega) (by omega) (by omega)))
                have w172 : Xi U20 876 6 = (Xi T19 876 7) := by rw [eU20]; exact Xi_same (by unfold rg; omega)
                refine l_iload_n rfl rfl ?_
                refine l_ireturn rfl rfl ?_
                have w173 : 0 ≤ Xi U20 876 6 ∧ Xi U20 876 6 ≤ 5130 := hHU20.c _ _
                have w174 : Xi U20 876 7 = Xi T19 876 7 := (show Xi U20 876 7 = Xi T19 876 7 from by rw [eU20]; exact Xi_ne (by omega))
                have w175 : 0 ≤ Xi T19 876 7 ∧ Xi T19 876 7 ≤ 5130 := hHT19.c _ _
                exact ⟨hHU20, hFU20, _, rfl, ⟨by omega, by omega⟩, (TOK_w6 eU20 (by assumption)), (by omega), (by omega)⟩
        · refine l_aload_n rfl rfl ?_
          refine l_iload_n rfl rfl ?_
          have w176 : 0 ≤ Xi T1 876 5 ∧ Xi T1 876 5 ≤ 5000 := hHT1.c _ _
          have w177 : 0 ≤ Xi T1 876 7 ∧ Xi T1 876 7 ≤ 5130 := hHT1.c _ _
          refine l_callV rfl rfl rfl (t_to_scan hHT1 ts v2 ⟨by omega, by omega⟩ ((hFT1 876 4 rfl).2.2.trans hts) htp (by first | assumption | omega) (by first | assumption | omega) _) ?_
          rintro _ T21 ⟨hHT21, w183, z182, rfl, w182, w178, w179, w180, w181⟩
          have hFT21 : FR md_to_takeSentence S T21 := FR.tr hFT1 w183 rfl
          show Rl _ _ _ _ _ [iv z182] _ _
          refine l_istore rfl rfl rfl ?_
          refine l_iload rfl rfl ?_
          refine l_iconst rfl ?_
          refine l_icmp_ne rfl rfl (by unfold rg; omega) (by unfold rg; omega) (fun w184 => ?_) (fun w185 => ?_)
          · have w186 : Xi T21 876 5 = Xi T1 876 5 := (show Xi T21 876 5 = Xi T1 876 5 from w183.x _ _ rfl)
            have w187 : 0 ≤ Xi T1 876 5 ∧ Xi T1 876 5 ≤ 5000 := hHT1.c _ _
            have w188 : 0 ≤ Xi T21 876 7 ∧ Xi T21 876 7 ≤ 5130 := hHT21.c _ _
            exact Rl_weak (C48 T21 hHT21 hFT21 (z182) (by omega) (by first | assumption | omega) (by omega) (by omega) (by omega) (by omega)) (And.intro rfl (And.intro rfl (True.intro)))
          · refine l_aload_n rfl rfl ?_
            refine l_bipush rfl rfl ?_
            refine l_iload_n rfl rfl ?_
            refine l_lconst (z := 0) rfl rfl ?_
            have w189 : Xi T21 876 5 = Xi T1 876 5 := (show Xi T21 876 5 = Xi T1 876 5 from w183.x _ _ rfl)
            have w190 : 0 ≤ Xi T1 876 5 ∧ Xi T1 876 5 ≤ 5000 := hHT1.c _ _
            have w191 : 0 ≤ Xi T21 876 7 ∧ Xi T21 876 7 ≤ 5130 := hHT21.c _ _
            refine l_callV rfl rfl rfl (t_to_note hHT21 108 v2 0 ⟨by omega, by omega⟩ ⟨by omega, by omega⟩ (by first | assumption | omega) (by first | assumption | omega) _) ?_
            rintro _ T22 ⟨hHT22, w195, rfl, w192, w193⟩
            have hFT22 : FR md_to_takeSentence S T22 := FR.tr hFT21 w195 rfl
            show Rl _ _ _ _ _ [] _ _
            refine l_aload_n rfl rfl ?_
            refine l_gfi rfl rfl rfl rfl rfl ?_
            have w196 : (Xi T22 876 5) = (Xi T1 876 5) := (show Xi T22 876 5 = Xi T21 876 5 from w195.x _ _ rfl).trans ((show Xi T21 876 5 = Xi T1 876 5 from w183.x _ _ rfl))
            rw [w196]
            refine l_istore rfl rfl rfl ?_
            have w197 : Xi T22 876 5 = Xi T1 876 5 := (show Xi T22 876 5 = Xi T21 876 5 from w195.x _ _ rfl).trans ((show Xi T21 876 5 = Xi T1 876 5 from w183.x _ _ rfl))
            have w198 : 0 ≤ Xi T1 876 5 ∧ Xi T1 876 5 ≤ 5000 := hHT1.c _ _
            have w199 : 0 ≤ Xi T22 876 7 ∧ Xi T22 876 7 ≤ 5130 := hHT22.c _ _
            exact Rl_weak (C48 T22 hHT22 hFT22 ((Xi T1 876 5)) (by omega) (by first | assumption | omega) (by omega) (by omega) (by omega) (by omega)) (And.intro rfl (And.intro rfl (True.intro)))
  refine l_iload_n rfl rfl ?_
  refine l_istore_n rfl rfl rfl ?_
  refine l_iconst rfl ?_
  refine l_istore_n rfl rfl rfl ?_
  refine l_aload_n rfl rfl ?_
  refine l_iconst rfl ?_
  refine l_pfi rfl rfl rfl rfl ?_
  obtain ⟨U23, eU23⟩ : ∃ T : sS, T = uI S 876 7 (Int32.ofInt 0) := ⟨_, rfl⟩
  rw [← eU23]
  have hHU23 : HI U23 := by rw [eU23]; exact HI_w hH (show 0 ≤ 0 by omega) (show 0 ≤ 5130 by omega)
  have hFU23 : FR md_to_takeSentence S U23 := by rw [eU23]; exact FR.wI hF (mdf_i (r := (876, 877, 7, 8)) (List.mem_of_getElem? (i := 1) rfl) (inR_i (by omega) (by omega) (by omega) (by omega)))
  have w200 : Xi U23 876 7 = 0 := by rw [eU23]; exact Xi_same (by unfold rg; omega)
  have hT : TOK U23 := tok0 (by omega)
  have w201 : Xi U23 876 5 = Xi S 876 5 := (show Xi U23 876 5 = Xi S 876 5 from by rw [eU23]; exact Xi_ne (by omega))
  have w202 : 0 ≤ Xi S 876 5 ∧ Xi S 876 5 ≤ 5000 := hH.c _ _
  exact Rl_weak (C9 _ U23 hHU23 hFU23 (from_) (1) (by omega) (by omega) (by first | assumption | omega) (by omega) (by omega) rfl) (And.intro rfl (And.intro rfl (And.intro rfl (True.intro))))
abbrev Q_to_endsBadly (S : sS) : pst := fun r S1 => S = S1 ∧ (∃ z : Int, r = some (iv z) ∧ (0 ≤ z ∧ z ≤ 1))
set_option maxRecDepth 100000 in
theorem t_to_endsBadly {S : sS} (hH : HI S) (d : Nat) : Mt lay0 (d + 2) m_to_endsBadly [.ref 876] S (Q_to_endsBadly S) := by
  refine Mt_R rfl rfl ?_
  refine l_aload_n rfl rfl ?_
  refine l_aload_n rfl rfl ?_
  refine l_gfi rfl rfl rfl rfl rfl ?_
  have w1 : 0 ≤ (Xi S 876 6) ∧ (Xi S 876 6) ≤ 5130 := hH.c _ _
  refine l_iconst rfl ?_
  refine l_isub rfl ?_
  have w2 : 0 ≤ Xi S 876 7 ∧ Xi S 876 7 ≤ 5130 := hH.c _ _
  refine l_callV rfl rfl rfl (t_to_typeAt hH ((Xi S 876 6) - 1) ⟨by omega, by omega⟩ _) ?_
  rintro _ _ ⟨rfl, z4, rfl, w4, w3⟩
  show Rl _ _ _ _ _ [iv z4] _ _
  refine l_bipush rfl rfl ?_
  refine l_icmp_ne rfl rfl (by unfold rg; omega) (by unfold rg; omega) (fun w5 => ?_) (fun w6 => ?_)
  · refine l_iconst rfl ?_
    refine l_ireturn rfl rfl ?_
    exact ⟨rfl, _, rfl, ⟨by omega, by omega⟩⟩
  · refine l_iconst rfl ?_
    refine l_goto rfl rfl ?_
    refine l_ireturn rfl rfl ?_
    exact ⟨rfl, _, rfl, ⟨by omega, by omega⟩⟩
abbrev Q_to_lastRow (S : sS) : pst := fun r S1 => S = S1 ∧ (∃ z : Int, r = some (iv z) ∧ (-1 ≤ z ∧ z ≤ 5129) ∧ (z = Xi S 876 7 - 1))
set_option maxRecDepth 100000 in
theorem t_to_lastRow {S : sS} (hH : HI S) (d : Nat) : Mt lay0 (d + 1) m_to_lastRow [.ref 876] S (Q_to_lastRow S) := by
  refine Mt_R rfl rfl ?_
  have w1 : 0 ≤ Xi S 876 7 ∧ Xi S 876 7 ≤ 5130 := hH.c _ _
  refine l_aload_n rfl rfl ?_
  refine l_gfi rfl rfl rfl rfl rfl ?_
  have w2 : 0 ≤ (Xi S 876 7) ∧ (Xi S 876 7) ≤ 5130 := hH.c _ _
  refine l_iconst rfl ?_
  refine l_isub rfl ?_
  refine l_ireturn rfl rfl ?_
  exact ⟨rfl, _, rfl, ⟨by omega, by omega⟩, (by first | assumption | omega)⟩
def md_to_wrong : List rec := [(876, 877, 8, 9), (876, 877, 9, 10)]
abbrev Q_to_wrong (S : sS) (code : Int) (row : Int) : pst := fun r S1 => HI S1 ∧ FR md_to_wrong S S1 ∧ (∃ z : Int, r = some (iv z) ∧ (0 ≤ z ∧ z ≤ 1) ∧ (z = 0) ∧ (TOK S1 ∨ True))
set_option maxRecDepth 100000 in
theorem t_to_wrong {S : sS} (hH : HI S) (code : Int) (row : Int) (hcode : 0 ≤ code ∧ code ≤ 9) (hrow : -2147483648 ≤ row ∧ row ≤ 2147483647) (d : Nat) : Mt lay0 (d + 1) m_to_wrong [.ref 876, iv code, iv row] S (Q_to_wrong S code row) := by
  refine Mt_R rfl rfl ?_
  have hF : FR md_to_wrong S S := FR.rf
  refine l_aload_n rfl rfl ?_
  refine l_gfi rfl rfl rfl rfl rfl ?_
  have w1 : 0 ≤ (Xi S 876 8) ∧ (Xi S 876 8) ≤ 9 := hH.c _ _
  refine l_if_ne rfl rfl (by unfold rg; omega) (fun w2 => ?_) (fun w3 => ?_)
  · refine l_iconst rfl ?_
    refine l_ireturn rfl rfl ?_
    exact ⟨hH, hF, _, rfl, ⟨by omega, by omega⟩, (by omega), (Or.inr trivial)⟩
  · refine l_aload_n rfl rfl ?_
    refine l_iload_n rfl rfl ?_
    refine l_pfi rfl rfl rfl rfl ?_
    obtain ⟨U1, eU1⟩ : ∃ T : sS, T = uI S 876 8 (Int32.ofInt code) := ⟨_, rfl⟩
    rw [← eU1]
    have hHU1 : HI U1 := by rw [eU1]; exact HI_w hH (show 0 ≤ code by omega) (show code ≤ 9 by omega)
    have hFU1 : FR md_to_wrong S U1 := by rw [eU1]; exact FR.wI hF (mdf_i (r := (876, 877, 8, 9)) (List.mem_of_getElem? (i := 0) rfl) (inR_i (by omega) (by omega) (by omega) (by omega)))
    have w4 : Xi U1 876 8 = code := by rw [eU1]; exact Xi_same (by unfold rg; omega)
    refine l_aload_n rfl rfl ?_
    refine l_iload_n rfl rfl ?_
    refine l_if_lt rfl rfl (by unfold rg; omega) (fun w5 => ?_) (fun w6 => ?_)
    · refine l_aload_n rfl rfl ?_
      refine l_gfi rfl rfl rfl rfl rfl ?_
      have w7 : 0 ≤ (Xi U1 876 5) ∧ (Xi U1 876 5) ≤ 5000 := hHU1.c _ _
      refine l_pfi rfl rfl rfl rfl ?_
      obtain ⟨U2, eU2⟩ : ∃ T : sS, T = uI U1 876 9 (Int32.ofInt (Xi U1 876 5)) := ⟨_, rfl⟩
      rw [← eU2]
      have hHU2 : HI U2 := by rw [eU2]; exact HI_w hHU1 (show 0 ≤ (Xi U1 876 5) by omega) (show (Xi U1 876 5) ≤ 5000 by omega)
      have hFU2 : FR md_to_wrong S U2 := by rw [eU2]; exact FR.wI hFU1 (mdf_i (r := (876, 877, 9, 10)) (List.mem_of_getElem? (i := 1) rfl) (inR_i (by omega) (by omega) (by omega) (by omega)))
      have w8 : Xi U2 876 9 = (Xi U1 876 5) := by rw [eU2]; exact Xi_same (by unfold rg; omega)
      refine l_iconst rfl ?_
      refine l_ireturn rfl rfl ?_
      exact ⟨hHU2, hFU2, _, rfl, ⟨by omega, by omega⟩, (by omega), (Or.inr trivial)⟩
    · refine l_iload_n rfl rfl ?_
      refine l_aload_n rfl rfl ?_
      refine l_gfi rfl rfl rfl rfl rfl ?_
      have w9 : 0 ≤ (Xi U1 876 7) ∧ (Xi U1 876 7) ≤ 5130 := hHU1.c _ _
      refine l_icmp_ge rfl rfl (by unfold rg; omega) (by unfold rg; omega) (fun w10 => ?_) (fun w11 => ?_)
      · refine l_aload_n rfl rfl ?_
        refine l_gfi rfl rfl rfl rfl rfl ?_
        have w12 : 0 ≤ (Xi U1 876 5) ∧ (Xi U1 876 5) ≤ 5000 := hHU1.c _ _
        refine l_pfi rfl rfl rfl rfl ?_
        obtain ⟨U3, eU3⟩ : ∃ T : sS, T = uI U1 876 9 (Int32.ofInt (Xi U1 876 5)) := ⟨_, rfl⟩
        rw [← eU3]
        have hHU3 : HI U3 := by rw [eU3]; exact HI_w hHU1 (show 0 ≤ (Xi U1 876 5) by omega) (show (Xi U1 876 5) ≤ 5000 by omega)
        have hFU3 : FR md_to_wrong S U3 := by rw [eU3]; exact FR.wI hFU1 (mdf_i (r := (876, 877, 9, 10)) (List.mem_of_getElem? (i := 1) rfl) (inR_i (by omega) (by omega) (by omega) (by omega)))
        have w13 : Xi U3 876 9 = (Xi U1 876 5) := by rw [eU3]; exact Xi_same (by unfold rg; omega)
        refine l_iconst rfl ?_
        refine l_ireturn rfl rfl ?_
        exact ⟨hHU3, hFU3, _, rfl, ⟨by omega, by omega⟩, (by omega), (Or.inr trivial)⟩
      · refine l_aload_n rfl rfl ?_
        refine l_gfr rfl rfl rfl rfl rfl (hHU1.r 876 1 878 rfl) ?_
        refine l_iload_n rfl rfl ?_
        refine l_iaload (n := 5130) rfl rfl (by omega) (by omega) (by unfold rg; omega) ?_
        have w14 : 0 ≤ (Xi U1 878 ((row).toNat)) ∧ (Xi U1 878 ((row).toNat)) ≤ 5000 := hHU1.c _ _
        refine l_goto rfl rfl ?_
        refine l_pfi rfl rfl rfl rfl ?_
        obtain ⟨U4, eU4⟩ : ∃ T : sS, T = uI U1 876 9 (Int32.ofInt (Xi U1 878 ((row).toNat))) := ⟨_, rfl⟩
        rw [← eU4]
        have hHU4 : HI U4 := by rw [eU4]; exact HI_w hHU1 (show 0 ≤ (Xi U1 878 ((row).toNat)) by omega) (show (Xi U1 878 ((row).toNat)) ≤ 5000 by omega)
        have hFU4 : FR md_to_wrong S U4 := by rw [eU4]; exact FR.wI hFU1 (mdf_i (r := (876, 877, 9, 10)) (List.mem_of_getElem? (i := 1) rfl) (inR_i (by omega) (by omega) (by omega) (by omega)))
        have w15 : Xi U4 876 9 = (Xi U1 878 ((row).toNat)) := by rw [eU4]; exact Xi_same (by unfold rg; omega)
        refine l_iconst rfl ?_
        refine l_ireturn rfl rfl ?_
        exact ⟨hHU4, hFU4, _, rfl, ⟨by omega, by omega⟩, (by omega), (Or.inr trivial)⟩
abbrev Q_to_runEndUpTo (S : sS) (from_ : Int) (limit : Int) : pst := fun r S1 => S = S1 ∧ (∃ z : Int, r = some (iv z) ∧ (-2147483648 ≤ z ∧ z ≤ 2147483647) ∧ (from_ ≤ z) ∧ (from_ < z → 0 ≤ from_ ∧ z ≤ limit ∧ z ≤ Xi S 876 7) ∧ (from_ < z → Xi S 877 from_.toNat = 100) ∧ (0 ≤ from_ → from_ < limit → from_ < Xi S 876 7 → Xi S 877 from_.toNat = 100 → from_ < z) ∧ (∀ r : Nat, from_ ≤ r → (r : Int) < z → Xi S 877 r = 100) ∧ (z < limit → z < Xi S 876 7 → 0 ≤ z → Xi S 877 z.toNat ≠ 100))
set_option maxRecDepth 100000 in
theorem t_to_runEndUpTo {S : sS} (hH : HI S) (from_ : Int) (limit : Int) (hfrom_ : -2147483648 ≤ from_ ∧ from_ ≤ 2147483647) (hlimit : -2147483648 ≤ limit ∧ limit ≤ 2147483647) (d : Nat) : Mt lay0 (d + 1) m_to_runEndUpTo [.ref 876, iv from_, iv limit] S (Q_to_runEndUpTo S from_ limit) := by
  refine Mt_R rfl rfl ?_
  have w1 : 0 ≤ Xi S 876 7 ∧ Xi S 876 7 ≤ 5130 := hH.c _ _
  have C2 : ∀ (n2 : Nat) (v3 : Int), (-2147483648 ≤ v3 ∧ v3 ≤ 2147483647) → (∀ r : Nat, from_ ≤ r → (r : Int) < v3 → Xi S 877 r = 100) → (from_ ≤ v3) → (from_ < v3 → 0 ≤ from_ ∧ v3 ≤ limit ∧ v3 ≤ Xi S 876 7 ∧ Xi S 877 from_.toNat = 100) → (v3 = from_ → Xi S 877 v3.toNat = Xi S 877 from_.toNat) → n2 = (5131 - v3).toNat → Rl lay0 (d + 0) m_to_runEndUpTo 2 [(0, .ref 876), (2, iv limit), (3, iv v3)] [] S (Q_to_runEndUpTo S from_ limit) := by
    intro n2
    induction n2 using Nat.strongRecOn with
    | ind n2 ih2 =>
      intro v3 w2 hq w3 w4 w5 hm2
      have C36 : ∀  (v3 : Int), (-2147483648 ≤ v3 ∧ v3 ≤ 2147483647) → (∀ r : Nat, from_ ≤ r → (r : Int) < v3 → Xi S 877 r = 100) → (from_ ≤ v3) → (from_ < v3 → 0 ≤ from_ ∧ v3 ≤ limit ∧ v3 ≤ Xi S 876 7 ∧ Xi S 877 from_.toNat = 100) → (0 ≤ from_ → from_ < limit → from_ < Xi S 876 7 → Xi S 877 from_.toNat = 100 → from_ < v3) → (v3 < limit → v3 < Xi S 876 7 → 0 ≤ v3 → Xi S 877 v3.toNat ≠ 100) → Rl lay0 (d + 0) m_to_runEndUpTo 36 [(3, iv v3)] [] S (Q_to_runEndUpTo S from_ limit) := by
        intro v3 w6 hq36 w7 w8 w9 w10
        refine l_iload_n rfl rfl ?_
        refine l_ireturn rfl rfl ?_
        exact ⟨rfl, _, rfl, ⟨by omega, by omega⟩, (by omega), (by omega), (by omega), (by omega), (by assumption), (by omega)⟩
      refine l_iload_n rfl rfl ?_
      refine l_if_lt rfl rfl (by unfold rg; omega) (fun w11 => ?_) (fun w12 => ?_)
      · exact Rl_weak (C36 (v3) (by omega) (by first | assumption | omega) (by omega) (by omega) (by omega) (by omega)) (And.intro rfl (True.intro))
      · refine l_iload_n rfl rfl ?_
        refine l_iload_n rfl rfl ?_
        refine l_icmp_ge rfl rfl (by unfold rg; omega) (by unfold rg; omega) (fun w13 => ?_) (fun w14 => ?_)
        · exact Rl_weak (C36 (v3) (by omega) (by first | assumption | omega) (by omega) (by omega) (by omega) (by omega)) (And.intro rfl (True.intro))
        · refine l_iload_n rfl rfl ?_
          refine l_aload_n rfl rfl ?_
          refine l_gfi rfl rfl rfl rfl rfl ?_
          have w15 : 0 ≤ (Xi S 876 7) ∧ (Xi S 876 7) ≤ 5130 := hH.c _ _
          refine l_icmp_ge rfl rfl (by unfold rg; omega) (by unfold rg; omega) (fun w16 => ?_) (fun w17 => ?_)
          · exact Rl_weak (C36 (v3) (by omega) (by first | assumption | omega) (by omega) (by omega) (by omega) (by omega)) (And.intro rfl (True.intro))
          · refine l_aload_n rfl rfl ?_
            refine l_gfr rfl rfl rfl rfl rfl (hH.r 876 0 877 rfl) ?_
            refine l_iload_n rfl rfl ?_
            refine l_iaload (n := 5130) rfl rfl (by omega) (by omega) (by unfold rg; omega) ?_
            have w18 : 0 ≤ (Xi S 877 ((v3).toNat)) ∧ (Xi S 877 ((v3).toNat)) ≤ 108 := hH.c _ _
            refine l_bipush rfl rfl ?_
            refine l_icmp_ne rfl rfl (by unfold rg; omega) (by unfold rg; omega) (fun w19 => ?_) (fun w20 => ?_)
            · exact Rl_weak (C36 (v3) (by omega) (by first | assumption | omega) (by omega) (by omega) (by omega) (by omega)) (And.intro rfl (True.intro))
            · refine l_iinc rfl rfl rfl rfl ?_
              refine l_goto rfl rfl ?_
              exact Rl_weak (ih2 _ (by omega) ((v3 + 1)) (by omega) (by first | exact run_step hq (by omega) (by omega) | (intro r a b; omega)) (by omega) (by omega) (by omega) rfl) (And.intro rfl (And.intro rfl (And.intro rfl (True.intro))))
  refine l_iload_n rfl rfl ?_
  refine l_istore_n rfl rfl rfl ?_
  exact Rl_weak (C2 _ (from_) (by omega) (by first | exact run_step hq (by omega) (by omega) | (intro r a b; omega)) (by omega) (by omega) (by omega) rfl) (And.intro rfl (And.intro rfl (And.intro rfl (True.intro))))
abbrev Q_to_runEnd (S : sS) (from_ : Int) : pst := fun r S1 => S = S1 ∧ (∃ z : Int, r = some (iv z) ∧ (-2147483648 ≤ z ∧ z ≤ 2147483647) ∧ (from_ ≤ z) ∧ (from_ < z → 0 ≤ from_ ∧ z ≤ Xi S 876 7) ∧ (from_ < z → Xi S 877 from_.toNat = 100) ∧ (0 ≤ from_ → from_ < Xi S 876 7 → Xi S 877 from_.toNat = 100 → from_ < z) ∧ (∀ r : Nat, from_ ≤ r → (r : Int) < z → Xi S 877 r = 100) ∧ (z < Xi S 876 7 → 0 ≤ z → Xi S 877 z.toNat ≠ 100))
set_option maxRecDepth 100000 in
theorem t_to_runEnd {S : sS} (hH : HI S) (from_ : Int) (hfrom_ : -2147483648 ≤ from_ ∧ from_ ≤ 2147483647) (d : Nat) : Mt lay0 (d + 2) m_to_runEnd [.ref 876, iv from_] S (Q_to_runEnd S from_) := by
  refine Mt_R rfl rfl ?_
  have w1 : 0 ≤ Xi S 876 7 ∧ Xi S 876 7 ≤ 5130 := hH.c _ _
  refine l_aload_n rfl rfl ?_
  refine l_iload_n rfl rfl ?_
  refine l_aload_n rfl rfl ?_
  refine l_gfi rfl rfl rfl rfl rfl ?_
  have w2 : 0 ≤ (Xi S 876 7) ∧ (Xi S 876 7) ≤ 5130 := hH.c _ _
  have w3 : 0 ≤ Xi S 876 7 ∧ Xi S 876 7 ≤ 5130 := hH.c _ _
  refine l_callV rfl rfl rfl (t_to_runEndUpTo hH from_ (Xi S 876 7) ⟨by omega, by omega⟩ ⟨by omega, by omega⟩ _) ?_
  rintro _ _ ⟨rfl, z10, rfl, w10, w4, w5, w6, w7, w8, w9⟩
  show Rl _ _ _ _ _ [iv z10] _ _
  refine l_ireturn rfl rfl ?_
  exact ⟨rfl, _, rfl, ⟨by omega, by omega⟩, (by first | assumption | omega), (by first | assumption | omega), (by first | assumption | omega), (by first | assumption | omega), (by first | assumption | omega), (by first | assumption | omega)⟩
abbrev Q_to_behindArt (S : sS) (row : Int) : pst := fun r S1 => S = S1 ∧ (∃ z : Int, r = some (iv z) ∧ (-2147483648 ≤ z ∧ z ≤ 2147483647) ∧ ((z = row ∨ (z = row + 1 ∧ 0 ≤ row ∧ row < Xi S 876 7 ∧ Xi S 877 row.toNat ≤ 3))))
set_option maxRecDepth 100000 in
theorem t_to_behindArt {S : sS} (hH : HI S) (row : Int) (hrow : -2147483648 ≤ row ∧ row ≤ 2147483646) (d : Nat) : Mt lay0 (d + 2) m_to_behindArt [.ref 876, iv row] S (Q_to_behindArt S row) := by
  refine Mt_R rfl rfl ?_
  have w1 : 0 ≤ Xi S 876 7 ∧ Xi S 876 7 ≤ 5130 := hH.c _ _
  refine l_aload_n rfl rfl ?_
  refine l_iload_n rfl rfl ?_
  have w2 : 0 ≤ Xi S 876 7 ∧ Xi S 876 7 ≤ 5130 := hH.c _ _
  refine l_callV rfl rfl rfl (t_to_typeAt hH row ⟨by omega, by omega⟩ _) ?_
  rintro _ _ ⟨rfl, z4, rfl, w4, w3⟩
  show Rl _ _ _ _ _ [iv z4] _ _
  refine l_callS rfl rfl (by decide) rfl (t_rs_isArt hH z4 ⟨by omega, by omega⟩ _) ?_
  rintro _ _ ⟨rfl, z6, rfl, w6, w5⟩
  show Rl _ _ _ _ _ [iv z6] _ _
  refine l_if_eq rfl rfl (by unfold rg; omega) (fun w7 => ?_) (fun w8 => ?_)
  · refine l_iload_n rfl rfl ?_
    refine l_ireturn rfl rfl ?_
    exact ⟨rfl, _, rfl, ⟨by omega, by omega⟩, (by first | assumption | omega)⟩
  · refine l_iload_n rfl rfl ?_
    refine l_iconst rfl ?_
    refine l_iadd rfl ?_
    refine l_goto rfl rfl ?_
    refine l_ireturn rfl rfl ?_
    exact ⟨rfl, _, rfl, ⟨by omega, by omega⟩, (by first | assumption | omega)⟩
abbrev Q_to_beginsProperty (S : sS) (row : Int) : pst := fun r S1 => S = S1 ∧ (∃ z : Int, r = some (iv z) ∧ (0 ≤ z ∧ z ≤ 1) ∧ (z = 1 → PROP S row))
set_option maxRecDepth 100000 in
theorem t_to_beginsProperty {S : sS} (hH : HI S) (row : Int) (hrow : -2147483647 ≤ row ∧ row ≤ 2147483645) (d : Nat) : Mt lay0 (d + 2) m_to_beginsProperty [.ref 876, iv row] S (Q_to_beginsProperty S row) := by
  refine Mt_R rfl rfl ?_
  refine l_aload_n rfl rfl ?_
  refine l_iload_n rfl rfl ?_
  have w1 : 0 ≤ Xi S 876 7 ∧ Xi S 876 7 ≤ 5130 := hH.c _ _
  refine l_callV rfl rfl rfl (t_to_typeAt hH row ⟨by omega, by omega⟩ _) ?_
  rintro _ _ ⟨rfl, z3, rfl, w3, w2⟩
  show Rl _ _ _ _ _ [iv z3] _ _
  refine l_iconst rfl ?_
  refine l_icmp_ne rfl rfl (by unfold rg; omega) (by unfold rg; omega) (fun w4 => ?_) (fun w5 => ?_)
  · refine l_iconst rfl ?_
    refine l_ireturn rfl rfl ?_
    exact ⟨rfl, _, rfl, ⟨by omega, by omega⟩, (by first | (intro hz; omega) | (intro _; exact PROP_of (by assumption) (by omega) (by omega) (by omega) (by omega) (by omega)))⟩
  · refine l_aload_n rfl rfl ?_
    refine l_iload_n rfl rfl ?_
    refine l_iconst rfl ?_
    refine l_iadd rfl ?_
    have w6 : 0 ≤ Xi S 876 7 ∧ Xi S 876 7 ≤ 5130 := hH.c _ _
    refine l_callV rfl rfl rfl (t_to_typeAt hH (row + 1) ⟨by omega, by omega⟩ _) ?_
    rintro _ _ ⟨rfl, z8, rfl, w8, w7⟩
    show Rl _ _ _ _ _ [iv z8] _ _
    refine l_bipush rfl rfl ?_
    refine l_icmp_ne rfl rfl (by unfold rg; omega) (by unfold rg; omega) (fun w9 => ?_) (fun w10 => ?_)
    · refine l_iconst rfl ?_
      refine l_ireturn rfl rfl ?_
      exact ⟨rfl, _, rfl, ⟨by omega, by omega⟩, (by first | (intro hz; omega) | (intro _; exact PROP_of (by assumption) (by omega) (by omega) (by omega) (by omega) (by omega)))⟩
    · refine l_aload_n rfl rfl ?_
      refine l_aload_n rfl rfl ?_
      refine l_iload_n rfl rfl ?_
      refine l_iconst rfl ?_
      refine l_iadd rfl ?_
      refine l_aload_n rfl rfl ?_
      refine l_gfi rfl rfl rfl rfl rfl ?_
      have w11 : 0 ≤ (Xi S 876 7) ∧ (Xi S 876 7) ≤ 5130 := hH.c _ _
      have w12 : 0 ≤ Xi S 876 7 ∧ Xi S 876 7 ≤ 5130 := hH.c _ _
      refine l_callV rfl rfl rfl (t_to_runEndUpTo hH (row + 1) (Xi S 876 7) ⟨by omega, by omega⟩ ⟨by omega, by omega⟩ _) ?_
      rintro _ _ ⟨rfl, z19, rfl, w19, w13, w14, w15, w16, w17, w18⟩
      show Rl _ _ _ _ _ [iv z19, .ref 876] _ _
      have w20 : 0 ≤ Xi S 876 7 ∧ Xi S 876 7 ≤ 5130 := hH.c _ _
      refine l_callV rfl rfl rfl (t_to_typeAt hH z19 ⟨by omega, by omega⟩ _) ?_
      rintro _ _ ⟨rfl, z22, rfl, w22, w21⟩
      show Rl _ _ _ _ _ [iv z22] _ _
      refine l_bipush rfl rfl ?_
      refine l_icmp_ne rfl rfl (by unfold rg; omega) (by unfold rg; omega) (fun w23 => ?_) (fun w24 => ?_)
      · refine l_iconst rfl ?_
        refine l_ireturn rfl rfl ?_
        exact ⟨rfl, _, rfl, ⟨by omega, by omega⟩, (by first | (intro hz; omega) | (intro _; exact PROP_of (by assumption) (by omega) (by omega) (by omega) (by omega) (by omega)))⟩
      · refine l_iconst rfl ?_
        refine l_goto rfl rfl ?_
        refine l_ireturn rfl rfl ?_
        exact ⟨rfl, _, rfl, ⟨by omega, by omega⟩, (by first | (intro hz; omega) | (intro _; exact PROP_of (by assumption) (by omega) (by omega) (by omega) (by omega) (by omega)))⟩
abbrev Q_to_firstOf (S : sS) (type : Int) (from_ : Int) (to : Int) : pst := fun r S1 => S = S1 ∧ (∃ z : Int, r = some (iv z) ∧ (-2147483648 ≤ z ∧ z ≤ 2147483647) ∧ (z = -1 ∨ (from_ ≤ z ∧ z < to)))
set_option maxRecDepth 100000 in
theorem t_to_firstOf {S : sS} (hH : HI S) (type : Int) (from_ : Int) (to : Int) (htype : -2147483648 ≤ type ∧ type ≤ 2147483647) (hfrom_ : -2147483648 ≤ from_ ∧ from_ ≤ 2147483647) (hto : -2147483648 ≤ to ∧ to ≤ 5131) (d : Nat) : Mt lay0 (d + 2) m_to_firstOf [.ref 876, iv type, iv from_, iv to] S (Q_to_firstOf S type from_ to) := by
  refine Mt_R rfl rfl ?_
  have C3 : ∀ (n3 : Nat) (v4 : Int), (-2147483648 ≤ v4 ∧ v4 ≤ 2147483647) → (from_ ≤ v4) → n3 = (to - v4).toNat → Rl lay0 (d + 1) m_to_firstOf 3 [(0, .ref 876), (1, iv type), (3, iv to), (4, iv v4)] [] S (Q_to_firstOf S type from_ to) := by
    intro n3
    induction n3 using Nat.strongRecOn with
    | ind n3 ih3 =>
      intro v4 w1 w2 hm3
      refine l_iload rfl rfl ?_
      refine l_iload_n rfl rfl ?_
      refine l_icmp_ge rfl rfl (by unfold rg; omega) (by unfold rg; omega) (fun w3 => ?_) (fun w4 => ?_)
      · refine l_iconst rfl ?_
        refine l_ireturn rfl rfl ?_
        exact ⟨rfl, _, rfl, ⟨by omega, by omega⟩, (by first | assumption | omega)⟩
      · refine l_aload_n rfl rfl ?_
        refine l_iload rfl rfl ?_
        have w5 : 0 ≤ Xi S 876 7 ∧ Xi S 876 7 ≤ 5130 := hH.c _ _
        refine l_callV rfl rfl rfl (t_to_typeAt hH v4 ⟨by omega, by omega⟩ _) ?_
        rintro _ _ ⟨rfl, z7, rfl, w7, w6⟩
        show Rl _ _ _ _ _ [iv z7] _ _
        refine l_iload_n rfl rfl ?_
        refine l_icmp_ne rfl rfl (by unfold rg; omega) (by unfold rg; omega) (fun w8 => ?_) (fun w9 => ?_)
        · refine l_iinc rfl rfl rfl rfl ?_
          refine l_goto rfl rfl ?_
          exact Rl_weak (ih3 _ (by omega) ((v4 + 1)) (by omega) (by omega) rfl) (And.intro rfl (And.intro rfl (And.intro rfl (And.intro rfl (True.intro)))))
        · refine l_iload rfl rfl ?_
          refine l_ireturn rfl rfl ?_
          exact ⟨rfl, _, rfl, ⟨by omega, by omega⟩, (by first | assumption | omega)⟩
  refine l_iload_n rfl rfl ?_
  refine l_istore rfl rfl rfl ?_
  exact Rl_weak (C3 _ (from_) (by omega) (by omega) rfl) (And.intro rfl (And.intro rfl (And.intro rfl (And.intro rfl (True.intro)))))
abbrev Q_to_tellingKey (S : sS) : pst := fun r S1 => S = S1 ∧ (∃ z : Int, r = some (iv z) ∧ (-1 ≤ z ∧ z ≤ 5129) ∧ (z = -1 ∨ (0 ≤ z ∧ z < Xi S 876 7)))
set_option maxRecDepth 100000 in
theorem t_to_tellingKey {S : sS} (hH : HI S) (d : Nat) : Mt lay0 (d + 1) m_to_tellingKey [.ref 876] S (Q_to_tellingKey S) := by
  refine Mt_R rfl rfl ?_
  have w1 : 0 ≤ Xi S 876 7 ∧ Xi S 876 7 ≤ 5130 := hH.c _ _
  have C2 : ∀ (n2 : Nat) (v1 : Int), (0 ≤ v1 ∧ v1 ≤ 5130) → n2 = (5131 - v1).toNat → Rl lay0 (d + 0) m_to_tellingKey 2 [(0, .ref 876), (1, iv v1)] [] S (Q_to_tellingKey S) := by
    intro n2
    induction n2 using Nat.strongRecOn with
    | ind n2 ih2 =>
      intro v1 w2 hm2
      refine l_iload_n rfl rfl ?_
      refine l_aload_n rfl rfl ?_
      refine l_gfi rfl rfl rfl rfl rfl ?_
      have w3 : 0 ≤ (Xi S 876 7) ∧ (Xi S 876 7) ≤ 5130 := hH.c _ _
      refine l_icmp_ge rfl rfl (by unfold rg; omega) (by unfold rg; omega) (fun w4 => ?_) (fun w5 => ?_)
      · refine l_iconst rfl ?_
        refine l_ireturn rfl rfl ?_
        exact ⟨rfl, _, rfl, ⟨by omega, by omega⟩, (by first | assumption | omega)⟩
      · refine l_aload_n rfl rfl ?_
        refine l_gfr rfl rfl rfl rfl rfl (hH.r 876 0 877 rfl) ?_
        refine l_iload_n rfl rfl ?_
        refine l_iaload (n := 5130) rfl rfl (by omega) (by omega) (by unfold rg; omega) ?_
        have w6 : 0 ≤ (Xi S 877 ((v1).toNat)) ∧ (Xi S 877 ((v1).toNat)) ≤ 108 := hH.c _ _
        refine l_istore_n rfl rfl rfl ?_
        refine l_iload_n rfl rfl ?_
        refine l_iconst rfl ?_
        refine l_icmp_eq rfl rfl (by unfold rg; omega) (by unfold rg; omega) (fun w7 => ?_) (fun w8 => ?_)
        · refine l_iload_n rfl rfl ?_
          refine l_ireturn rfl rfl ?_
          exact ⟨rfl, _, rfl, ⟨by omega, by omega⟩, (by first | assumption | omega)⟩
        · refine l_iload_n rfl rfl ?_
          refine l_iconst rfl ?_
          refine l_icmp_eq rfl rfl (by unfold rg; omega) (by unfold rg; omega) (fun w9 => ?_) (fun w10 => ?_)
          · refine l_iload_n rfl rfl ?_
            refine l_ireturn rfl rfl ?_
            exact ⟨rfl, _, rfl, ⟨by omega, by omega⟩, (by first | assumption | omega)⟩
          · refine l_iload_n rfl rfl ?_
            refine l_bipush rfl rfl ?_
            refine l_icmp_eq rfl rfl (by unfold rg; omega) (by unfold rg; omega) (fun w11 => ?_) (fun w12 => ?_)
            · refine l_iload_n rfl rfl ?_
              refine l_ireturn rfl rfl ?_
              exact ⟨rfl, _, rfl, ⟨by omega, by omega⟩, (by first | assumption | omega)⟩
            · refine l_iload_n rfl rfl ?_
              refine l_bipush rfl rfl ?_
              refine l_icmp_eq rfl rfl (by unfold rg; omega) (by unfold rg; omega) (fun w13 => ?_) (fun w14 => ?_)
              · refine l_iload_n rfl rfl ?_
                refine l_ireturn rfl rfl ?_
                exact ⟨rfl, _, rfl, ⟨by omega, by omega⟩, (by first | assumption | omega)⟩
              · refine l_iload_n rfl rfl ?_
                refine l_bipush rfl rfl ?_
                refine l_icmp_ne rfl rfl (by unfold rg; omega) (by unfold rg; omega) (fun w15 => ?_) (fun w16 => ?_)
                · refine l_iinc rfl rfl rfl rfl ?_
                  refine l_goto rfl rfl ?_
                  exact Rl_weak (ih2 _ (by omega) ((v1 + 1)) (by omega) rfl) (And.intro rfl (And.intro rfl (True.intro)))
                · refine l_iload_n rfl rfl ?_
                  refine l_ireturn rfl rfl ?_
                  exact ⟨rfl, _, rfl, ⟨by omega, by omega⟩, (by first | assumption | omega)⟩
  refine l_iconst rfl ?_
  refine l_istore_n rfl rfl rfl ?_
  exact Rl_weak (C2 _ (0) (by omega) rfl) (And.intro rfl (And.intro rfl (True.intro)))
abbrev Q_to_testEnd (S : sS) (from_ : Int) (now : Int) : pst := fun r S1 => S = S1 ∧ (∃ z : Int, r = some (iv z) ∧ (0 ≤ z ∧ z ≤ 5131) ∧ (from_ ≤ z ∨ z = Xi S 876 7) ∧ (from_ ≤ Xi S 876 7 → from_ ≤ z ∧ z ≤ Xi S 876 7))
set_option maxRecDepth 100000 in
theorem t_to_testEnd {S : sS} (hH : HI S) (from_ : Int) (now : Int) (hfrom_ : 0 ≤ from_ ∧ from_ ≤ 5131) (hnow : 0 ≤ now ∧ now ≤ 1) (d : Nat) : Mt lay0 (d + 1) m_to_testEnd [.ref 876, iv from_, iv now] S (Q_to_testEnd S from_ now) := by
  refine Mt_R rfl rfl ?_
  have w1 : 0 ≤ Xi S 876 7 ∧ Xi S 876 7 ≤ 5130 := hH.c _ _
  have C2 : ∀ (n2 : Nat) (v3 : Int), (0 ≤ v3 ∧ v3 ≤ 5131) → (from_ ≤ v3) → n2 = (5132 - v3).toNat → Rl lay0 (d + 0) m_to_testEnd 2 [(0, .ref 876), (2, iv now), (3, iv v3)] [] S (Q_to_testEnd S from_ now) := by
    intro n2
    induction n2 using Nat.strongRecOn with
    | ind n2 ih2 =>
      intro v3 w2 w3 hm2
      have C59 : ∀  (v3 : Int), (0 ≤ v3 ∧ v3 ≤ 5129) → (from_ ≤ v3) → (v3 < Xi S 876 7) → ((5132 - v3).toNat ≤ n2) → Rl lay0 (d + 0) m_to_testEnd 59 [(0, .ref 876), (2, iv now), (3, iv v3)] [] S (Q_to_testEnd S from_ now) := by
        intro v3 w4 w5 w6 w7
        refine l_iinc rfl rfl rfl rfl ?_
        refine l_goto rfl rfl ?_
        exact Rl_weak (ih2 _ (by omega) ((v3 + 1)) (by omega) (by omega) rfl) (And.intro rfl (And.intro rfl (And.intro rfl (True.intro))))
      refine l_iload_n rfl rfl ?_
      refine l_aload_n rfl rfl ?_
      refine l_gfi rfl rfl rfl rfl rfl ?_
      have w8 : 0 ≤ (Xi S 876 7) ∧ (Xi S 876 7) ≤ 5130 := hH.c _ _
      refine l_icmp_ge rfl rfl (by unfold rg; omega) (by unfold rg; omega) (fun w9 => ?_) (fun w10 => ?_)
      · refine l_aload_n rfl rfl ?_
        refine l_gfi rfl rfl rfl rfl rfl ?_
        refine l_ireturn rfl rfl ?_
        exact ⟨rfl, _, rfl, ⟨by omega, by omega⟩, (by first | assumption | omega), (by first | assumption | omega)⟩
      · refine l_aload_n rfl rfl ?_
        refine l_gfr rfl rfl rfl rfl rfl (hH.r 876 0 877 rfl) ?_
        refine l_iload_n rfl rfl ?_
        refine l_iaload (n := 5130) rfl rfl (by omega) (by omega) (by unfold rg; omega) ?_
        have w11 : 0 ≤ (Xi S 877 ((v3).toNat)) ∧ (Xi S 877 ((v3).toNat)) ≤ 108 := hH.c _ _
        refine l_istore rfl rfl rfl ?_
        refine l_iload rfl rfl ?_
        refine l_bipush rfl rfl ?_
        refine l_icmp_eq rfl rfl (by unfold rg; omega) (by unfold rg; omega) (fun w12 => ?_) (fun w13 => ?_)
        · refine l_iload_n rfl rfl ?_
          refine l_ireturn rfl rfl ?_
          exact ⟨rfl, _, rfl, ⟨by omega, by omega⟩, (by first | assumption | omega), (by first | assumption | omega)⟩
        · refine l_iload rfl rfl ?_
          refine l_bipush rfl rfl ?_
          refine l_icmp_eq rfl rfl (by unfold rg; omega) (by unfold rg; omega) (fun w14 => ?_) (fun w15 => ?_)
          · refine l_iload_n rfl rfl ?_
            refine l_ireturn rfl rfl ?_
            exact ⟨rfl, _, rfl, ⟨by omega, by omega⟩, (by first | assumption | omega), (by first | assumption | omega)⟩
          · refine l_iload rfl rfl ?_
            refine l_bipush rfl rfl ?_
            refine l_icmp_eq rfl rfl (by unfold rg; omega) (by unfold rg; omega) (fun w16 => ?_) (fun w17 => ?_)
            · refine l_iload_n rfl rfl ?_
              refine l_ireturn rfl rfl ?_
              exact ⟨rfl, _, rfl, ⟨by omega, by omega⟩, (by first | assumption | omega), (by first | assumption | omega)⟩
            · refine l_iload_n rfl rfl ?_
              refine l_if_ne rfl rfl (by unfold rg; omega) (fun w18 => ?_) (fun w19 => ?_)
              · exact Rl_weak (C59 (v3) (by omega) (by omega) (by omega) (by omega)) (And.intro rfl (And.intro rfl (And.intro rfl (True.intro))))
              · refine l_iload rfl rfl ?_
                refine l_bipush rfl rfl ?_
                refine l_icmp_eq rfl rfl (by unfold rg; omega) (by unfold rg; omega) (fun w20 => ?_) (fun w21 => ?_)
                · refine l_iload_n rfl rfl ?_
                  refine l_ireturn rfl rfl ?_
                  exact ⟨rfl, _, rfl, ⟨by omega, by omega⟩, (by first | assumption | omega), (by first | assumption | omega)⟩
                · refine l_iload rfl rfl ?_
                  refine l_bipush rfl rfl ?_
                  refine l_icmp_ne rfl rfl (by unfold rg; omega) (by unfold rg; omega) (fun w22 => ?_) (fun w23 => ?_)
                  · exact Rl_weak (C59 (v3) (by omega) (by omega) (by omega) (by omega)) (And.intro rfl (And.intro rfl (And.intro rfl (True.intro))))
                  · refine l_iload_n rfl rfl ?_
                    refine l_ireturn rfl rfl ?_
                    exact ⟨rfl, _, rfl, ⟨by omega, by omega⟩, (by first | assumption | omega), (by first | assumption | omega)⟩
  refine l_iload_n rfl rfl ?_
  refine l_istore_n rfl rfl rfl ?_
  exact Rl_weak (C2 _ (from_) (by omega) (by omega) rfl) (And.intro rfl (And.intro rfl (And.intro rfl (True.intro))))
abbrev Q_to_placeAt (S : sS) (row : Int) : pst := fun r S1 => S = S1 ∧ (∃ z : Int, r = some (iv z) ∧ (0 ≤ z ∧ z ≤ 5000) ∧ (0 ≤ row → row < Xi S 876 7 → z = Xi S 878 row.toNat))
set_option maxRecDepth 100000 in
theorem t_to_placeAt {S : sS} (hH : HI S) (row : Int) (hrow : -2147483648 ≤ row ∧ row ≤ 2147483647) (d : Nat) : Mt lay0 (d + 1) m_to_placeAt [.ref 876, iv row] S (Q_to_placeAt S row) := by
  refine Mt_R rfl rfl ?_
  have w1 : 0 ≤ Xi S 876 7 ∧ Xi S 876 7 ≤ 5130 := hH.c _ _
  refine l_iload_n rfl rfl ?_
  refine l_if_lt rfl rfl (by unfold rg; omega) (fun w2 => ?_) (fun w3 => ?_)
  · refine l_aload_n rfl rfl ?_
    refine l_gfi rfl rfl rfl rfl rfl ?_
    have w4 : 0 ≤ (Xi S 876 5) ∧ (Xi S 876 5) ≤ 5000 := hH.c _ _
    refine l_ireturn rfl rfl ?_
    exact ⟨rfl, _, rfl, ⟨by omega, by omega⟩, (by first | assumption | omega)⟩
  · refine l_iload_n rfl rfl ?_
    refine l_aload_n rfl rfl ?_
    refine l_gfi rfl rfl rfl rfl rfl ?_
    have w5 : 0 ≤ (Xi S 876 7) ∧ (Xi S 876 7) ≤ 5130 := hH.c _ _
    refine l_icmp_ge rfl rfl (by unfold rg; omega) (by unfold rg; omega) (fun w6 => ?_) (fun w7 => ?_)
    · refine l_aload_n rfl rfl ?_
      refine l_gfi rfl rfl rfl rfl rfl ?_
      have w8 : 0 ≤ (Xi S 876 5) ∧ (Xi S 876 5) ≤ 5000 := hH.c _ _
      refine l_ireturn rfl rfl ?_
      exact ⟨rfl, _, rfl, ⟨by omega, by omega⟩, (by first | assumption | omega)⟩
    · refine l_aload_n rfl rfl ?_
      refine l_gfr rfl rfl rfl rfl rfl (hH.r 876 1 878 rfl) ?_
      refine l_iload_n rfl rfl ?_
      refine l_iaload (n := 5130) rfl rfl (by omega) (by omega) (by unfold rg; omega) ?_
      have w9 : 0 ≤ (Xi S 878 ((row).toNat)) ∧ (Xi S 878 ((row).toNat)) ≤ 5000 := hH.c _ _
      refine l_goto rfl rfl ?_
      refine l_ireturn rfl rfl ?_
      exact ⟨rfl, _, rfl, ⟨by omega, by omega⟩, (by first | assumption | omega)⟩
abbrev Q_to_valueAt (S : sS) (row : Int) : pst := fun r S1 => S = S1 ∧ (∃ z : Int, r = some (iv z) ∧ (-2147483648 ≤ z ∧ z ≤ 2147483647) ∧ (0 ≤ row → row < Xi S 876 7 → 0 ≤ Xj S 879 row.toNat → Xj S 879 row.toNat ≤ 2147483647 → z = Xj S 879 row.toNat))
set_option maxRecDepth 100000 in
theorem t_to_valueAt {S : sS} (hH : HI S) (row : Int) (hrow : -2147483648 ≤ row ∧ row ≤ 2147483647) (d : Nat) : Mt lay0 (d + 1) m_to_valueAt [.ref 876, iv row] S (Q_to_valueAt S row) := by
  refine Mt_R rfl rfl ?_
  have w1 : 0 ≤ Xi S 876 7 ∧ Xi S 876 7 ≤ 5130 := hH.c _ _
  refine l_iload_n rfl rfl ?_
  refine l_if_lt rfl rfl (by unfold rg; omega) (fun w2 => ?_) (fun w3 => ?_)
  · refine l_iconst rfl ?_
    refine l_ireturn rfl rfl ?_
    exact ⟨rfl, _, rfl, ⟨by omega, by omega⟩, (by first | assumption | omega)⟩
  · refine l_iload_n rfl rfl ?_
    refine l_aload_n rfl rfl ?_
    refine l_gfi rfl rfl rfl rfl rfl ?_
    have w4 : 0 ≤ (Xi S 876 7) ∧ (Xi S 876 7) ≤ 5130 := hH.c _ _
    refine l_icmp_ge rfl rfl (by unfold rg; omega) (by unfold rg; omega) (fun w5 => ?_) (fun w6 => ?_)
    · refine l_iconst rfl ?_
      refine l_ireturn rfl rfl ?_
      exact ⟨rfl, _, rfl, ⟨by omega, by omega⟩, (by first | assumption | omega)⟩
    · refine l_aload_n rfl rfl ?_
      refine l_gfr rfl rfl rfl rfl rfl (hH.r 876 2 879 rfl) ?_
      refine l_iload_n rfl rfl ?_
      refine l_laload (n := 5130) rfl rfl (by omega) (by omega) (by unfold rg; omega) ?_
      have w7 : -9223372036854775808 ≤ (Xj S 879 ((row).toNat)) ∧ (Xj S 879 ((row).toNat)) < 9223372036854775808 := Xj_rg
      refine l_l2i rfl (fun c8 w8r w8 => ?_)
      unfold rg rgL at *
      refine l_goto rfl rfl ?_
      refine l_ireturn rfl rfl ?_
      exact ⟨rfl, _, rfl, ⟨by omega, by omega⟩, (by first | assumption | omega)⟩
abbrev Q_to_beginsRun (S : sS) (row : Int) (from_ : Int) : pst := fun r S1 => S = S1 ∧ (∃ z : Int, r = some (iv z) ∧ (0 ≤ z ∧ z ≤ 1) ∧ (z = 1 → from_ ≤ row ∧ row < Xi S 876 7 ∧ (0 ≤ row → Xi S 877 row.toNat = 100)))
set_option maxRecDepth 100000 in
theorem t_to_beginsRun {S : sS} (hH : HI S) (row : Int) (from_ : Int) (hrow : -2147483648 ≤ row ∧ row ≤ 2147483647) (hfrom_ : 0 ≤ from_ ∧ from_ ≤ 5131) (d : Nat) : Mt lay0 (d + 1) m_to_beginsRun [.ref 876, iv row, iv from_] S (Q_to_beginsRun S row from_) := by
  refine Mt_R rfl rfl ?_
  have w1 : 0 ≤ Xi S 876 7 ∧ Xi S 876 7 ≤ 5130 := hH.c _ _
  refine l_iload_n rfl rfl ?_
  refine l_iload_n rfl rfl ?_
  refine l_icmp_lt rfl rfl (by unfold rg; omega) (by unfold rg; omega) (fun w2 => ?_) (fun w3 => ?_)
  · refine l_iconst rfl ?_
    refine l_ireturn rfl rfl ?_
    exact ⟨rfl, _, rfl, ⟨by omega, by omega⟩, (by first | assumption | omega)⟩
  · refine l_iload_n rfl rfl ?_
    refine l_aload_n rfl rfl ?_
    refine l_gfi rfl rfl rfl rfl rfl ?_
    have w4 : 0 ≤ (Xi S 876 7) ∧ (Xi S 876 7) ≤ 5130 := hH.c _ _
    refine l_icmp_ge rfl rfl (by unfold rg; omega) (by unfold rg; omega) (fun w5 => ?_) (fun w6 => ?_)
    · refine l_iconst rfl ?_
      refine l_ireturn rfl rfl ?_
      exact ⟨rfl, _, rfl, ⟨by omega, by omega⟩, (by first | assumption | omega)⟩
    · refine l_aload_n rfl rfl ?_
      refine l_gfr rfl rfl rfl rfl rfl (hH.r 876 0 877 rfl) ?_
      refine l_iload_n rfl rfl ?_
      refine l_iaload (n := 5130) rfl rfl (by omega) (by omega) (by unfold rg; omega) ?_
      have w7 : 0 ≤ (Xi S 877 ((row).toNat)) ∧ (Xi S 877 ((row).toNat)) ≤ 108 := hH.c _ _
      refine l_bipush rfl rfl ?_
      refine l_icmp_ne rfl rfl (by unfold rg; omega) (by unfold rg; omega) (fun w8 => ?_) (fun w9 => ?_)
      · refine l_iconst rfl ?_
        refine l_ireturn rfl rfl ?_
        exact ⟨rfl, _, rfl, ⟨by omega, by omega⟩, (by first | assumption | omega)⟩
      · refine l_iload_n rfl rfl ?_
        refine l_iload_n rfl rfl ?_
        refine l_icmp_eq rfl rfl (by unfold rg; omega) (by unfold rg; omega) (fun w10 => ?_) (fun w11 => ?_)
        · refine l_iconst rfl ?_
          refine l_goto rfl rfl ?_
          refine l_ireturn rfl rfl ?_
          exact ⟨rfl, _, rfl, ⟨by omega, by omega⟩, (by first | assumption | omega)⟩
        · refine l_aload_n rfl rfl ?_
          refine l_gfr rfl rfl rfl rfl rfl (hH.r 876 0 877 rfl) ?_
          refine l_iload_n rfl rfl ?_
          refine l_iconst rfl ?_
          refine l_isub rfl ?_
          refine l_iaload (n := 5130) rfl rfl (by omega) (by omega) (by unfold rg; omega) ?_
          have w12 : 0 ≤ (Xi S 877 (((row - 1)).toNat)) ∧ (Xi S 877 (((row - 1)).toNat)) ≤ 108 := hH.c _ _
          refine l_bipush rfl rfl ?_
          refine l_icmp_eq rfl rfl (by unfold rg; omega) (by unfold rg; omega) (fun w13 => ?_) (fun w14 => ?_)
          · refine l_iconst rfl ?_
            refine l_ireturn rfl rfl ?_
            exact ⟨rfl, _, rfl, ⟨by omega, by omega⟩, (by first | assumption | omega)⟩
          · refine l_iconst rfl ?_
            refine l_goto rfl rfl ?_
            refine l_ireturn rfl rfl ?_
            exact ⟨rfl, _, rfl, ⟨by omega, by omega⟩, (by first | assumption | omega)⟩
def md_gr_take : List rec := [(890, 891, 1, 2)]
abbrev Q_gr_take (S : sS) (ty : Int) : pst := fun r S1 => HI S1 ∧ FR md_gr_take S S1 ∧ (∃ z : Int, r = some (iv z) ∧ (0 ≤ z ∧ z ≤ 1) ∧ (Xi S 890 1 ≤ Xi S1 890 1 ∧ Xi S1 890 1 ≤ Xi S 876 7) ∧ (SAY S1 (Xi S1 890 1)) ∧ (z = 1 → Xi S1 890 1 = Xi S 890 1 + 1 ∧ Xi S 890 1 < Xi S 876 7 ∧ Xi S 877 (Xi S 890 1).toNat = ty) ∧ (z = 0 → Xi S1 890 1 = Xi S 890 1))
set_option maxRecDepth 100000 in
theorem t_gr_take {S : sS} (hH : HI S) (ty : Int) (hty : 0 ≤ ty ∧ ty ≤ 106) (ha : Xi S 890 1 ≤ Xi S 876 7) (hs : SAY S (Xi S 890 1)) (hn : ty ≠ 43) (d : Nat) : Mt lay0 (d + 2) m_gr_take [.ref 890, iv ty] S (Q_gr_take S ty) := by
  refine Mt_R rfl rfl ?_
  have hF : FR md_gr_take S S := FR.rf
  have w1 : 0 ≤ Xi S 876 7 ∧ Xi S 876 7 ≤ 5130 := hH.c _ _
  have w2 : 0 ≤ Xi S 890 1 ∧ Xi S 890 1 ≤ 5130 := hH.c _ _
  refine l_aload_n rfl rfl ?_
  refine l_gfr rfl rfl rfl rfl rfl (hH.r 890 0 876 rfl) ?_
  refine l_aload_n rfl rfl ?_
  refine l_gfi rfl rfl rfl rfl rfl ?_
  have w3 : 0 ≤ (Xi S 890 1) ∧ (Xi S 890 1) ≤ 5130 := hH.c _ _
  have w4 : 0 ≤ Xi S 876 7 ∧ Xi S 876 7 ≤ 5130 := hH.c _ _
  refine l_callV rfl rfl rfl (t_to_typeAt hH (Xi S 890 1) ⟨by omega, by omega⟩ _) ?_
  rintro _ _ ⟨rfl, z6, rfl, w6, w5⟩
  show Rl _ _ _ _ _ [iv z6] _ _
  refine l_iload_n rfl rfl ?_
  refine l_icmp_eq rfl rfl (by unfold rg; omega) (by unfold rg; omega) (fun w7 => ?_) (fun w8 => ?_)
  · refine l_aload_n rfl rfl ?_
    refine l_dup rfl rfl ?_
    refine l_gfi rfl rfl rfl rfl rfl ?_
    refine l_iconst rfl ?_
    refine l_iadd rfl ?_
    refine l_pfi rfl rfl rfl rfl ?_
    obtain ⟨U1, eU1⟩ : ∃ T : sS, T = uI S 890 1 (Int32.ofInt ((Xi S 890 1) + 1)) := ⟨_, rfl⟩
    rw [← eU1]
    have hHU1 : HI U1 := by rw [eU1]; exact HI_w hH (show 0 ≤ ((Xi S 890 1) + 1) by omega) (show ((Xi S 890 1) + 1) ≤ 5130 by omega)
    have hFU1 : FR md_gr_take S U1 := by rw [eU1]; exact FR.wI hF (mdf_i (r := (890, 891, 1, 2)) (List.mem_of_getElem? (i := 0) rfl) (inR_i (by omega) (by omega) (by omega) (by omega)))
    have w9 : Xi U1 890 1 = ((Xi S 890 1) + 1) := by rw [eU1]; exact Xi_same (by unfold rg; omega)
    refine l_iconst rfl ?_
    refine l_ireturn rfl rfl ?_
    have w10 : 0 ≤ Xi U1 890 1 ∧ Xi U1 890 1 ≤ 5130 := hHU1.c _ _
    exact ⟨hHU1, hFU1, _, rfl, ⟨by omega, by omega⟩, (by omega), (by first | assumption | (rw [show Xi U1 890 1 = Xi S 890 1 + 1 by omega]; exact SAY_w eU1 (SAY_1 hs (by omega) (by omega)))), (by omega), (by omega)⟩
  · refine l_iconst rfl ?_
    refine l_ireturn rfl rfl ?_
    have w11 : 0 ≤ Xi S 890 1 ∧ Xi S 890 1 ≤ 5130 := hH.c _ _
    exact ⟨hH, hF, _, rfl, ⟨by omega, by omega⟩, (by omega), (by first | assumption | (rw [show Xi S 890 1 = Xi S 890 1 + 1 by omega]; exact SAY_w rfl (SAY_1 hs (by omega) (by omega)))), (by omega), (by omega)⟩
def md_gr_take__2 : List rec := [(890, 891, 1, 2)]
abbrev Q_gr_take__2 (S : sS) (ty : Int) : pst := fun r S1 => HI S1 ∧ FR md_gr_take__2 S S1 ∧ (∃ z : Int, r = some (iv z) ∧ (0 ≤ z ∧ z ≤ 1) ∧ (Xi S 890 1 ≤ Xi S1 890 1 ∧ Xi S1 890 1 ≤ Xi S 876 7) ∧ (z = 1 → Xi S1 890 1 = Xi S 890 1 + 1 ∧ Xi S 890 1 < Xi S 876 7 ∧ Xi S 877 (Xi S 890 1).toNat = ty) ∧ (z = 0 → Xi S1 890 1 = Xi S 890 1))
set_option maxRecDepth 100000 in
theorem t_gr_take__2 {S : sS} (hH : HI S) (ty : Int) (hty : 0 ≤ ty ∧ ty ≤ 106) (ha : Xi S 890 1 ≤ Xi S 876 7) (d : Nat) : Mt lay0 (d + 2) m_gr_take [.ref 890, iv ty] S (Q_gr_take__2 S ty) := by
  refine Mt_R rfl rfl ?_
  have hF : FR md_gr_take__2 S S := FR.rf
  have w1 : 0 ≤ Xi S 876 7 ∧ Xi S 876 7 ≤ 5130 := hH.c _ _
  have w2 : 0 ≤ Xi S 890 1 ∧ Xi S 890 1 ≤ 5130 := hH.c _ _
  refine l_aload_n rfl rfl ?_
  refine l_gfr rfl rfl rfl rfl rfl (hH.r 890 0 876 rfl) ?_
  refine l_aload_n rfl rfl ?_
  refine l_gfi rfl rfl rfl rfl rfl ?_
  have w3 : 0 ≤ (Xi S 890 1) ∧ (Xi S 890 1) ≤ 5130 := hH.c _ _
  have w4 : 0 ≤ Xi S 876 7 ∧ Xi S 876 7 ≤ 5130 := hH.c _ _
  refine l_callV rfl rfl rfl (t_to_typeAt hH (Xi S 890 1) ⟨by omega, by omega⟩ _) ?_
  rintro _ _ ⟨rfl, z6, rfl, w6, w5⟩
  show Rl _ _ _ _ _ [iv z6] _ _
  refine l_iload_n rfl rfl ?_
  refine l_icmp_eq rfl rfl (by unfold rg; omega) (by unfold rg; omega) (fun w7 => ?_) (fun w8 => ?_)
  · refine l_aload_n rfl rfl ?_
    refine l_dup rfl rfl ?_
    refine l_gfi rfl rfl rfl rfl rfl ?_
    refine l_iconst rfl ?_
    refine l_iadd rfl ?_
    refine l_pfi rfl rfl rfl rfl ?_
    obtain ⟨U1, eU1⟩ : ∃ T : sS, T = uI S 890 1 (Int32.ofInt ((Xi S 890 1) + 1)) := ⟨_, rfl⟩
    rw [← eU1]
    have hHU1 : HI U1 := by rw [eU1]; exact HI_w hH (show 0 ≤ ((Xi S 890 1) + 1) by omega) (show ((Xi S 890 1) + 1) ≤ 5130 by omega)
    have hFU1 : FR md_gr_take__2 S U1 := by rw [eU1]; exact FR.wI hF (mdf_i (r := (890, 891, 1, 2)) (List.mem_of_getElem? (i := 0) rfl) (inR_i (by omega) (by omega) (by omega) (by omega)))
    have w9 : Xi U1 890 1 = ((Xi S 890 1) + 1) := by rw [eU1]; exact Xi_same (by unfold rg; omega)
    refine l_iconst rfl ?_
    refine l_ireturn rfl rfl ?_
    have w10 : 0 ≤ Xi U1 890 1 ∧ Xi U1 890 1 ≤ 5130 := hHU1.c _ _
    exact ⟨hHU1, hFU1, _, rfl, ⟨by omega, by omega⟩, (by first | assumption | omega), (by first | assumption | omega), (by first | assumption | omega)⟩
  · refine l_iconst rfl ?_
    refine l_ireturn rfl rfl ?_
    have w11 : 0 ≤ Xi S 890 1 ∧ Xi S 890 1 ≤ 5130 := hH.c _ _
    exact ⟨hH, hF, _, rfl, ⟨by omega, by omega⟩, (by first | assumption | omega), (by first | assumption | omega), (by first | assumption | omega)⟩
def md_gr_takeRun : List rec := [(890, 891, 1, 2)]
abbrev Q_gr_takeRun (S : sS) : pst := fun r S1 => HI S1 ∧ FR md_gr_takeRun S S1 ∧ (∃ z : Int, r = some (iv z) ∧ (0 ≤ z ∧ z ≤ 1) ∧ (Xi S 890 1 ≤ Xi S1 890 1 ∧ Xi S1 890 1 ≤ Xi S 876 7) ∧ (SAY S1 (Xi S1 890 1)) ∧ (z = 1 → Xi S 890 1 < Xi S1 890 1))
set_option maxRecDepth 100000 in
theorem t_gr_takeRun {S : sS} (hH : HI S) (ha : Xi S 890 1 ≤ Xi S 876 7) (hs : SAY S (Xi S 890 1)) (d : Nat) : Mt lay0 (d + 2) m_gr_takeRun [.ref 890] S (Q_gr_takeRun S) := by
  refine Mt_R rfl rfl ?_
  have hF : FR md_gr_takeRun S S := FR.rf
  have w1 : 0 ≤ Xi S 876 7 ∧ Xi S 876 7 ≤ 5130 := hH.c _ _
  have w2 : 0 ≤ Xi S 890 1 ∧ Xi S 890 1 ≤ 5130 := hH.c _ _
  refine l_aload_n rfl rfl ?_
  refine l_gfi rfl rfl rfl rfl rfl ?_
  have w3 : 0 ≤ (Xi S 890 1) ∧ (Xi S 890 1) ≤ 5130 := hH.c _ _
  refine l_istore_n rfl rfl rfl ?_
  refine l_aload_n rfl rfl ?_
  refine l_aload_n rfl rfl ?_
  refine l_gfr rfl rfl rfl rfl rfl (hH.r 890 0 876 rfl) ?_
  refine l_iload_n rfl rfl ?_
  refine l_sipush rfl rfl ?_
  have w4 : 0 ≤ Xi S 876 7 ∧ Xi S 876 7 ≤ 5130 := hH.c _ _
  refine l_callV rfl rfl rfl (t_to_runEndUpTo hH (Xi S 890 1) 5000 ⟨by omega, by omega⟩ ⟨by omega, by omega⟩ _) ?_
  rintro _ _ ⟨rfl, z11, rfl, w11, w5, w6, w7, w8, w9, w10⟩
  show Rl _ _ _ _ _ [iv z11, .ref 890] _ _
  refine l_pfi rfl rfl rfl rfl ?_
  obtain ⟨U1, eU1⟩ : ∃ T : sS, T = uI S 890 1 (Int32.ofInt z11) := ⟨_, rfl⟩
  rw [← eU1]
  have hHU1 : HI U1 := by rw [eU1]; exact HI_w hH (show 0 ≤ z11 by omega) (show z11 ≤ 5130 by omega)
  have hFU1 : FR md_gr_takeRun S U1 := by rw [eU1]; exact FR.wI hF (mdf_i (r := (890, 891, 1, 2)) (List.mem_of_getElem? (i := 0) rfl) (inR_i (by omega) (by omega) (by omega) (by omega)))
  have w12 : Xi U1 890 1 = z11 := by rw [eU1]; exact Xi_same (by unfold rg; omega)
  refine l_aload_n rfl rfl ?_
  refine l_gfi rfl rfl rfl rfl rfl ?_
  refine l_iload_n rfl rfl ?_
  refine l_icmp_le rfl rfl (by unfold rg; omega) (by unfold rg; omega) (fun w13 => ?_) (fun w14 => ?_)
  · refine l_iconst rfl ?_
    refine l_ireturn rfl rfl ?_
    have w15 : 0 ≤ Xi U1 890 1 ∧ Xi U1 890 1 ≤ 5130 := hHU1.c _ _
    exact ⟨hHU1, hFU1, _, rfl, ⟨by omega, by omega⟩, (by omega), (SAY_runw eU1 (by assumption) hs (by omega) (by assumption)), (by omega)⟩
  · refine l_iconst rfl ?_
    refine l_goto rfl rfl ?_
    refine l_ireturn rfl rfl ?_
    have w16 : 0 ≤ Xi U1 890 1 ∧ Xi U1 890 1 ≤ 5130 := hHU1.c _ _
    exact ⟨hHU1, hFU1, _, rfl, ⟨by omega, by omega⟩, (by omega), (SAY_runw eU1 (by assumption) hs (by omega) (by assumption)), (by omega)⟩
def md_gr_takeArt : List rec := [(890, 891, 1, 2)]
abbrev Q_gr_takeArt (S : sS) : pst := fun r S1 => HI S1 ∧ FR md_gr_takeArt S S1 ∧ (∃ z : Int, r = some (iv z) ∧ (0 ≤ z ∧ z ≤ 1) ∧ (Xi S 890 1 ≤ Xi S1 890 1 ∧ Xi S1 890 1 ≤ Xi S 876 7) ∧ (SAY S1 (Xi S1 890 1)) ∧ (z = 1 → Xi S1 890 1 = Xi S 890 1 + 1))
set_option maxRecDepth 100000 in
theorem t_gr_takeArt {S : sS} (hH : HI S) (ha : Xi S 890 1 ≤ Xi S 876 7) (hs : SAY S (Xi S 890 1)) (d : Nat) : Mt lay0 (d + 2) m_gr_takeArt [.ref 890] S (Q_gr_takeArt S) := by
  refine Mt_R rfl rfl ?_
  have hF : FR md_gr_takeArt S S := FR.rf
  have w1 : 0 ≤ Xi S 876 7 ∧ Xi S 876 7 ≤ 5130 := hH.c _ _
  have w2 : 0 ≤ Xi S 890 1 ∧ Xi S 890 1 ≤ 5130 := hH.c _ _
  refine l_aload_n rfl rfl ?_
  refine l_gfr rfl rfl rfl rfl rfl (hH.r 890 0 876 rfl) ?_
  refine l_aload_n rfl rfl ?_
  refine l_gfi rfl rfl rfl rfl rfl ?_
  have w3 : 0 ≤ (Xi S 890 1) ∧ (Xi S 890 1) ≤ 5130 := hH.c _ _
  have w4 : 0 ≤ Xi S 876 7 ∧ Xi S 876 7 ≤ 5130 := hH.c _ _
  refine l_callV rfl rfl rfl (t_to_typeAt hH (Xi S 890 1) ⟨by omega, by omega⟩ _) ?_
  rintro _ _ ⟨rfl, z6, rfl, w6, w5⟩
  show Rl _ _ _ _ _ [iv z6] _ _
  refine l_callS rfl rfl (by decide) rfl (t_rs_isArt hH z6 ⟨by omega, by omega⟩ _) ?_
  rintro _ _ ⟨rfl, z8, rfl, w8, w7⟩
  show Rl _ _ _ _ _ [iv z8] _ _
  refine l_if_ne rfl rfl (by unfold rg; omega) (fun w9 => ?_) (fun w10 => ?_)
  · refine l_aload_n rfl rfl ?_
    refine l_dup rfl rfl ?_
    refine l_gfi rfl rfl rfl rfl rfl ?_
    refine l_iconst rfl ?_
    refine l_iadd rfl ?_
    refine l_pfi rfl rfl rfl rfl ?_
    obtain ⟨U1, eU1⟩ : ∃ T : sS, T = uI S 890 1 (Int32.ofInt ((Xi S 890 1) + 1)) := ⟨_, rfl⟩
    rw [← eU1]
    have hHU1 : HI U1 := by rw [eU1]; exact HI_w hH (show 0 ≤ ((Xi S 890 1) + 1) by omega) (show ((Xi S 890 1) + 1) ≤ 5130 by omega)
    have hFU1 : FR md_gr_takeArt S U1 := by rw [eU1]; exact FR.wI hF (mdf_i (r := (890, 891, 1, 2)) (List.mem_of_getElem? (i := 0) rfl) (inR_i (by omega) (by omega) (by omega) (by omega)))
    have w11 : Xi U1 890 1 = ((Xi S 890 1) + 1) := by rw [eU1]; exact Xi_same (by unfold rg; omega)
    refine l_iconst rfl ?_
    refine l_ireturn rfl rfl ?_
    have w12 : 0 ≤ Xi U1 890 1 ∧ Xi U1 890 1 ≤ 5130 := hHU1.c _ _
    exact ⟨hHU1, hFU1, _, rfl, ⟨by omega, by omega⟩, (by omega), (by first | assumption | (rw [show Xi U1 890 1 = Xi S 890 1 + 1 by omega]; exact SAY_w eU1 (SAY_1 hs (by omega) (by omega)))), (by omega)⟩
  · refine l_iconst rfl ?_
    refine l_ireturn rfl rfl ?_
    have w13 : 0 ≤ Xi S 890 1 ∧ Xi S 890 1 ≤ 5130 := hH.c _ _
    exact ⟨hH, hF, _, rfl, ⟨by omega, by omega⟩, (by omega), (by first | assumption | (rw [show Xi S 890 1 = Xi S 890 1 + 1 by omega]; exact SAY_w rfl (SAY_1 hs (by omega) (by omega)))), (by omega)⟩
def md_gr_takeBe : List rec := [(890, 891, 1, 2)]
abbrev Q_gr_takeBe (S : sS) : pst := fun r S1 => HI S1 ∧ FR md_gr_takeBe S S1 ∧ (∃ z : Int, r = some (iv z) ∧ (0 ≤ z ∧ z ≤ 1) ∧ (Xi S 890 1 ≤ Xi S1 890 1 ∧ Xi S1 890 1 ≤ Xi S 876 7) ∧ (SAY S1 (Xi S1 890 1)))
set_option maxRecDepth 100000 in
theorem t_gr_takeBe {S : sS} (hH : HI S) (ha : Xi S 890 1 ≤ Xi S 876 7) (hs : SAY S (Xi S 890 1)) (d : Nat) : Mt lay0 (d + 3) m_gr_takeBe [.ref 890] S (Q_gr_takeBe S) := by
  refine Mt_R rfl rfl ?_
  have hF : FR md_gr_takeBe S S := FR.rf
  have w1 : 0 ≤ Xi S 876 7 ∧ Xi S 876 7 ≤ 5130 := hH.c _ _
  have w2 : 0 ≤ Xi S 890 1 ∧ Xi S 890 1 ≤ 5130 := hH.c _ _
  refine l_aload_n rfl rfl ?_
  refine l_iconst rfl ?_
  have w3 : 0 ≤ Xi S 876 7 ∧ Xi S 876 7 ≤ 5130 := hH.c _ _
  have w4 : 0 ≤ Xi S 890 1 ∧ Xi S 890 1 ≤ 5130 := hH.c _ _
  refine l_callV rfl rfl rfl (t_gr_take hH 4 ⟨by omega, by omega⟩ (by first | assumption | omega) (by first | assumption | omega) (by first | assumption | omega) _) ?_
  rintro _ T1 ⟨hHT1, w10, z9, rfl, w9, w5, w6, w7, w8⟩
  have hFT1 : FR md_gr_takeBe S T1 := FR.tr hF w10 rfl
  show Rl _ _ _ _ _ [iv z9] _ _
  refine l_if_ne rfl rfl (by unfold rg; omega) (fun w11 => ?_) (fun w12 => ?_)
  · refine l_iconst rfl ?_
    refine l_goto rfl rfl ?_
    refine l_ireturn rfl rfl ?_
    have w13 : 0 ≤ Xi T1 890 1 ∧ Xi T1 890 1 ≤ 5130 := hHT1.c _ _
    exact ⟨hHT1, hFT1, _, rfl, ⟨by omega, by omega⟩, (by first | assumption | omega), (by first | assumption | omega)⟩
  · refine l_aload_n rfl rfl ?_
    refine l_iconst rfl ?_
    have w14 : Xi T1 876 7 = Xi S 876 7 := (show Xi T1 876 7 = Xi S 876 7 from w10.x _ _ rfl)
    have w15 : 0 ≤ Xi S 876 7 ∧ Xi S 876 7 ≤ 5130 := hH.c _ _
    have w16 : 0 ≤ Xi T1 890 1 ∧ Xi T1 890 1 ≤ 5130 := hHT1.c _ _
    refine l_callV rfl rfl rfl (t_gr_take hHT1 5 ⟨by omega, by omega⟩ (by first | assumption | omega) (by first | assumption | omega) (by first | assumption | omega) _) ?_
    rintro _ T2 ⟨hHT2, w22, z21, rfl, w21, w17, w18, w19, w20⟩
    have hFT2 : FR md_gr_takeBe S T2 := FR.tr hFT1 w22 rfl
    show Rl _ _ _ _ _ [iv z21] _ _
    refine l_if_eq rfl rfl (by unfold rg; omega) (fun w23 => ?_) (fun w24 => ?_)
    · refine l_iconst rfl ?_
      refine l_ireturn rfl rfl ?_
      have w25 : 0 ≤ Xi T2 890 1 ∧ Xi T2 890 1 ≤ 5130 := hHT2.c _ _
      exact ⟨hHT2, hFT2, _, rfl, ⟨by omega, by omega⟩, (by first | assumption | omega), (by first | assumption | omega)⟩
    · refine l_iconst rfl ?_
      refine l_goto rfl rfl ?_
      refine l_ireturn rfl rfl ?_
      have w26 : 0 ≤ Xi T2 890 1 ∧ Xi T2 890 1 ≤ 5130 := hHT2.c _ _
      exact ⟨hHT2, hFT2, _, rfl, ⟨by omega, by omega⟩, (by first | assumption | omega), (by first | assumption | omega)⟩
def md_gr_takeHowMany : List rec := [(890, 891, 1, 2)]
abbrev Q_gr_takeHowMany (S : sS) : pst := fun r S1 => HI S1 ∧ FR md_gr_takeHowMany S S1 ∧ (∃ z : Int, r = some (iv z) ∧ (0 ≤ z ∧ z ≤ 1) ∧ (Xi S 890 1 ≤ Xi S1 890 1 ∧ Xi S1 890 1 ≤ Xi S 876 7) ∧ (SAY S1 (Xi S1 890 1)))
set_option maxRecDepth 100000 in
theorem t_gr_takeHowMany {S : sS} (hH : HI S) (ha : Xi S 890 1 ≤ Xi S 876 7) (hs : SAY S (Xi S 890 1)) (d : Nat) : Mt lay0 (d + 3) m_gr_takeHowMany [.ref 890] S (Q_gr_takeHowMany S) := by
  refine Mt_R rfl rfl ?_
  have hF : FR md_gr_takeHowMany S S := FR.rf
  have w1 : 0 ≤ Xi S 876 7 ∧ Xi S 876 7 ≤ 5130 := hH.c _ _
  have w2 : 0 ≤ Xi S 890 1 ∧ Xi S 890 1 ≤ 5130 := hH.c _ _
  refine l_aload_n rfl rfl ?_
  refine l_bipush rfl rfl ?_
  have w3 : 0 ≤ Xi S 876 7 ∧ Xi S 876 7 ≤ 5130 := hH.c _ _
  have w4 : 0 ≤ Xi S 890 1 ∧ Xi S 890 1 ≤ 5130 := hH.c _ _
  refine l_callV rfl rfl rfl (t_gr_take hH 22 ⟨by omega, by omega⟩ (by first | assumption | omega) (by first | assumption | omega) (by first | assumption | omega) _) ?_
  rintro _ T1 ⟨hHT1, w10, z9, rfl, w9, w5, w6, w7, w8⟩
  have hFT1 : FR md_gr_takeHowMany S T1 := FR.tr hF w10 rfl
  show Rl _ _ _ _ _ [iv z9] _ _
  refine l_if_ne rfl rfl (by unfold rg; omega) (fun w11 => ?_) (fun w12 => ?_)
  · refine l_iconst rfl ?_
    refine l_goto rfl rfl ?_
    refine l_ireturn rfl rfl ?_
    have w13 : 0 ≤ Xi T1 890 1 ∧ Xi T1 890 1 ≤ 5130 := hHT1.c _ _
    exact ⟨hHT1, hFT1, _, rfl, ⟨by omega, by omega⟩, (by first | assumption | omega), (by first | assumption | omega)⟩
  · refine l_aload_n rfl rfl ?_
    refine l_bipush rfl rfl ?_
    have w14 : Xi T1 876 7 = Xi S 876 7 := (show Xi T1 876 7 = Xi S 876 7 from w10.x _ _ rfl)
    have w15 : 0 ≤ Xi S 876 7 ∧ Xi S 876 7 ≤ 5130 := hH.c _ _
    have w16 : 0 ≤ Xi T1 890 1 ∧ Xi T1 890 1 ≤ 5130 := hHT1.c _ _
    refine l_callV rfl rfl rfl (t_gr_take hHT1 23 ⟨by omega, by omega⟩ (by first | assumption | omega) (by first | assumption | omega) (by first | assumption | omega) _) ?_
    rintro _ T2 ⟨hHT2, w22, z21, rfl, w21, w17, w18, w19, w20⟩
    have hFT2 : FR md_gr_takeHowMany S T2 := FR.tr hFT1 w22 rfl
    show Rl _ _ _ _ _ [iv z21] _ _
    refine l_if_eq rfl rfl (by unfold rg; omega) (fun w23 => ?_) (fun w24 => ?_)
    · refine l_iconst rfl ?_
      refine l_ireturn rfl rfl ?_
      have w25 : 0 ≤ Xi T2 890 1 ∧ Xi T2 890 1 ≤ 5130 := hHT2.c _ _
      exact ⟨hHT2, hFT2, _, rfl, ⟨by omega, by omega⟩, (by first | assumption | omega), (by first | assumption | omega)⟩
    · refine l_iconst rfl ?_
      refine l_goto rfl rfl ?_
      refine l_ireturn rfl rfl ?_
      have w26 : 0 ≤ Xi T2 890 1 ∧ Xi T2 890 1 ≤ 5130 := hHT2.c _ _
      exact ⟨hHT2, hFT2, _, rfl, ⟨by omega, by omega⟩, (by first | assumption | omega), (by first | assumption | omega)⟩
def md_gr_takeName : List rec := [(890, 891, 1, 2)]
abbrev Q_gr_takeName (S : sS) : pst := fun r S1 => HI S1 ∧ FR md_gr_takeName S S1 ∧ (∃ z : Int, r = some (iv z) ∧ (0 ≤ z ∧ z ≤ 1) ∧ (Xi S 890 1 ≤ Xi S1 890 1 ∧ Xi S1 890 1 ≤ Xi S 876 7) ∧ (SAY S1 (Xi S1 890 1)))
set_option maxRecDepth 100000 in
theorem t_gr_takeName {S : sS} (hH : HI S) (ha : Xi S 890 1 ≤ Xi S 876 7) (hs : SAY S (Xi S 890 1)) (d : Nat) : Mt lay0 (d + 3) m_gr_takeName [.ref 890] S (Q_gr_takeName S) := by
  refine Mt_R rfl rfl ?_
  have hF : FR md_gr_takeName S S := FR.rf
  have w1 : 0 ≤ Xi S 876 7 ∧ Xi S 876 7 ≤ 5130 := hH.c _ _
  have w2 : 0 ≤ Xi S 890 1 ∧ Xi S 890 1 ≤ 5130 := hH.c _ _
  refine l_aload_n rfl rfl ?_
  refine l_aload_n rfl rfl ?_
  refine l_gfr rfl rfl rfl rfl rfl (hH.r 890 0 876 rfl) ?_
  refine l_aload_n rfl rfl ?_
  refine l_gfi rfl rfl rfl rfl rfl ?_
  have w3 : 0 ≤ (Xi S 890 1) ∧ (Xi S 890 1) ≤ 5130 := hH.c _ _
  have w4 : 0 ≤ Xi S 876 7 ∧ Xi S 876 7 ≤ 5130 := hH.c _ _
  refine l_callV rfl rfl rfl (t_to_behindArt hH (Xi S 890 1) ⟨by omega, by omega⟩ _) ?_
  rintro _ _ ⟨rfl, z6, rfl, w6, w5⟩
  show Rl _ _ _ _ _ [iv z6, .ref 890] _ _
  refine l_pfi rfl rfl rfl rfl ?_
  obtain ⟨U1, eU1⟩ : ∃ T : sS, T = uI S 890 1 (Int32.ofInt z6) := ⟨_, rfl⟩
  rw [← eU1]
  have hHU1 : HI U1 := by rw [eU1]; exact HI_w hH (show 0 ≤ z6 by omega) (show z6 ≤ 5130 by omega)
  have hFU1 : FR md_gr_takeName S U1 := by rw [eU1]; exact FR.wI hF (mdf_i (r := (890, 891, 1, 2)) (List.mem_of_getElem? (i := 0) rfl) (inR_i (by omega) (by omega) (by omega) (by omega)))
  have w7 : Xi U1 890 1 = z6 := by rw [eU1]; exact Xi_same (by unfold rg; omega)
  have hs2 : SAY U1 (Xi U1 890 1) := SAY_artw eU1 (by assumption) hs (by omega) (by omega)
  refine l_aload_n rfl rfl ?_
  have w8 : Xi U1 876 7 = Xi S 876 7 := (show Xi U1 876 7 = Xi S 876 7 from by rw [eU1]; exact Xi_ne (by omega))
  have w9 : 0 ≤ Xi S 876 7 ∧ Xi S 876 7 ≤ 5130 := hH.c _ _
  have w10 : 0 ≤ Xi U1 890 1 ∧ Xi U1 890 1 ≤ 5130 := hHU1.c _ _
  refine l_callV rfl rfl rfl (t_gr_takeRun hHU1 (by first | assumption | omega) (by first | assumption | omega) _) ?_
  rintro _ T2 ⟨hHT2, w15, z14, rfl, w14, w11, w12, w13⟩
  have hFT2 : FR md_gr_takeName S T2 := FR.tr hFU1 w15 rfl
  show Rl _ _ _ _ _ [iv z14] _ _
  refine l_ireturn rfl (retI_z (by omega)) ?_
  have w16 : 0 ≤ Xi T2 890 1 ∧ Xi T2 890 1 ≤ 5130 := hHT2.c _ _
  exact ⟨hHT2, hFT2, _, rfl, ⟨by omega, by omega⟩, (by first | assumption | omega), (by first | assumption | omega)⟩
def md_gr_takeBetween : List rec := [(890, 891, 1, 2)]
abbrev Q_gr_takeBetween (S : sS) : pst := fun r S1 => HI S1 ∧ FR md_gr_takeBetween S S1 ∧ (∃ z : Int, r = some (iv z) ∧ (0 ≤ z ∧ z ≤ 1) ∧ (Xi S 890 1 ≤ Xi S1 890 1 ∧ Xi S1 890 1 ≤ Xi S 876 7) ∧ (SAY S1 (Xi S1 890 1)))
set_option maxRecDepth 100000 in
theorem t_gr_takeBetween {S : sS} (hH : HI S) (ha : Xi S 890 1 ≤ Xi S 876 7) (hs : SAY S (Xi S 890 1)) (d : Nat) : Mt lay0 (d + 3) m_gr_takeBetween [.ref 890] S (Q_gr_takeBetween S) := by
  refine Mt_R rfl rfl ?_
  have hF : FR md_gr_takeBetween S S := FR.rf
  have w1 : 0 ≤ Xi S 876 7 ∧ Xi S 876 7 ≤ 5130 := hH.c _ _
  have w2 : 0 ≤ Xi S 890 1 ∧ Xi S 890 1 ≤ 5130 := hH.c _ _
  refine l_aload_n rfl rfl ?_
  refine l_bipush rfl rfl ?_
  have w3 : 0 ≤ Xi S 876 7 ∧ Xi S 876 7 ≤ 5130 := hH.c _ _
  have w4 : 0 ≤ Xi S 890 1 ∧ Xi S 890 1 ≤ 5130 := hH.c _ _
  refine l_callV rfl rfl rfl (t_gr_take hH 104 ⟨by omega, by omega⟩ (by first | assumption | omega) (by first | assumption | omega) (by first | assumption | omega) _) ?_
  rintro _ T1 ⟨hHT1, w10, z9, rfl, w9, w5, w6, w7, w8⟩
  have hFT1 : FR md_gr_takeBetween S T1 := FR.tr hF w10 rfl
  show Rl _ _ _ _ _ [iv z9] _ _
  refine l_if_eq rfl rfl (by unfold rg; omega) (fun w11 => ?_) (fun w12 => ?_)
  · refine l_aload_n rfl rfl ?_
    refine l_bipush rfl rfl ?_
    have w13 : Xi T1 876 7 = Xi S 876 7 := (show Xi T1 876 7 = Xi S 876 7 from w10.x _ _ rfl)
    have w14 : 0 ≤ Xi S 876 7 ∧ Xi S 876 7 ≤ 5130 := hH.c _ _
    have w15 : 0 ≤ Xi T1 890 1 ∧ Xi T1 890 1 ≤ 5130 := hHT1.c _ _
    refine l_callV rfl rfl rfl (t_gr_take hHT1 16 ⟨by omega, by omega⟩ (by first | assumption | omega) (by first | assumption | omega) (by first | assumption | omega) _) ?_
    rintro _ T2 ⟨hHT2, w21, z20, rfl, w20, w16, w17, w18, w19⟩
    have hFT2 : FR md_gr_takeBetween S T2 := FR.tr hFT1 w21 rfl
    show Rl _ _ _ _ _ [iv z20] _ _
    refine l_ireturn rfl (retI_z (by omega)) ?_
    have w22 : 0 ≤ Xi T2 890 1 ∧ Xi T2 890 1 ≤ 5130 := hHT2.c _ _
    exact ⟨hHT2, hFT2, _, rfl, ⟨by omega, by omega⟩, (by first | assumption | omega), (by first | assumption | omega)⟩
  · refine l_aload_n rfl rfl ?_
    refine l_bipush rfl rfl ?_
    have w23 : Xi T1 876 7 = Xi S 876 7 := (show Xi T1 876 7 = Xi S 876 7 from w10.x _ _ rfl)
    have w24 : 0 ≤ Xi S 876 7 ∧ Xi S 876 7 ≤ 5130 := hH.c _ _
    have w25 : 0 ≤ Xi T1 890 1 ∧ Xi T1 890 1 ≤ 5130 := hHT1.c _ _
    refine l_callV rfl rfl rfl (t_gr_take hHT1 16 ⟨by omega, by omega⟩ (by first | assumption | omega) (by first | assumption | omega) (by first | assumption | omega) _) ?_
    rintro _ T3 ⟨hHT3, w31, z30, rfl, w30, w26, w27, w28, w29⟩
    have hFT3 : FR md_gr_takeBetween S T3 := FR.tr hFT1 w31 rfl
    show Rl _ _ _ _ _ [iv z30] _ _
    refine l_pop rfl rfl ?_
    refine l_iconst rfl ?_
    refine l_ireturn rfl rfl ?_
    have w32 : 0 ≤ Xi T3 890 1 ∧ Xi T3 890 1 ≤ 5130 := hHT3.c _ _
    exact ⟨hHT3, hFT3, _, rfl, ⟨by omega, by omega⟩, (by first | assumption | omega), (by first | assumption | omega)⟩
abbrev Q_gr_atPlace (S : sS) : pst := fun r S1 => S = S1 ∧ (∃ z : Int, r = some (iv z) ∧ (0 ≤ z ∧ z ≤ 1) ∧ (z = 1 → 0 ≤ Xi S 890 1 ∧ Xi S 890 1 < Xi S 876 7 ∧ Xi S 877 (Xi S 890 1).toNat ≠ 43))
set_option maxRecDepth 100000 in
theorem t_gr_atPlace {S : sS} (hH : HI S) (d : Nat) : Mt lay0 (d + 2) m_gr_atPlace [.ref 890] S (Q_gr_atPlace S) := by
  refine Mt_R rfl rfl ?_
  have w1 : 0 ≤ Xi S 876 7 ∧ Xi S 876 7 ≤ 5130 := hH.c _ _
  have w2 : 0 ≤ Xi S 890 1 ∧ Xi S 890 1 ≤ 5130 := hH.c _ _
  refine l_aload_n rfl rfl ?_
  refine l_gfr rfl rfl rfl rfl rfl (hH.r 890 0 876 rfl) ?_
  refine l_aload_n rfl rfl ?_
  refine l_gfi rfl rfl rfl rfl rfl ?_
  have w3 : 0 ≤ (Xi S 890 1) ∧ (Xi S 890 1) ≤ 5130 := hH.c _ _
  have w4 : 0 ≤ Xi S 876 7 ∧ Xi S 876 7 ≤ 5130 := hH.c _ _
  refine l_callV rfl rfl rfl (t_to_typeAt hH (Xi S 890 1) ⟨by omega, by omega⟩ _) ?_
  rintro _ _ ⟨rfl, z6, rfl, w6, w5⟩
  show Rl _ _ _ _ _ [iv z6] _ _
  refine l_istore_n rfl rfl rfl ?_
  refine l_iload_n rfl rfl ?_
  refine l_bipush rfl rfl ?_
  refine l_icmp_eq rfl rfl (by unfold rg; omega) (by unfold rg; omega) (fun w7 => ?_) (fun w8 => ?_)
  · refine l_iconst rfl ?_
    refine l_goto rfl rfl ?_
    refine l_ireturn rfl rfl ?_
    exact ⟨rfl, _, rfl, ⟨by omega, by omega⟩, (by first | assumption | omega)⟩
  · refine l_iload_n rfl rfl ?_
    refine l_bipush rfl rfl ?_
    refine l_icmp_eq rfl rfl (by unfold rg; omega) (by unfold rg; omega) (fun w9 => ?_) (fun w10 => ?_)
    · refine l_iconst rfl ?_
      refine l_goto rfl rfl ?_
      refine l_ireturn rfl rfl ?_
      exact ⟨rfl, _, rfl, ⟨by omega, by omega⟩, (by first | assumption | omega)⟩
    · refine l_iload_n rfl rfl ?_
      refine l_bipush rfl rfl ?_
      refine l_icmp_eq rfl rfl (by unfold rg; omega) (by unfold rg; omega) (fun w11 => ?_) (fun w12 => ?_)
      · refine l_iconst rfl ?_
        refine l_goto rfl rfl ?_
        refine l_ireturn rfl rfl ?_
        exact ⟨rfl, _, rfl, ⟨by omega, by omega⟩, (by first | assumption | omega)⟩
      · refine l_iload_n rfl rfl ?_
        refine l_bipush rfl rfl ?_
        refine l_icmp_eq rfl rfl (by unfold rg; omega) (by unfold rg; omega) (fun w13 => ?_) (fun w14 => ?_)
        · refine l_iconst rfl ?_
          refine l_goto rfl rfl ?_
          refine l_ireturn rfl rfl ?_
          exact ⟨rfl, _, rfl, ⟨by omega, by omega⟩, (by first | assumption | omega)⟩
        · refine l_iload_n rfl rfl ?_
          refine l_bipush rfl rfl ?_
          refine l_icmp_ne rfl rfl (by unfold rg; omega) (by unfold rg; omega) (fun w15 => ?_) (fun w16 => ?_)
          · refine l_iconst rfl ?_
            refine l_ireturn rfl rfl ?_
            exact ⟨rfl, _, rfl, ⟨by omega, by omega⟩, (by first | assumption | omega)⟩
          · refine l_iconst rfl ?_
            refine l_goto rfl rfl ?_
            refine l_ireturn rfl rfl ?_
            exact ⟨rfl, _, rfl, ⟨by omega, by omega⟩, (by first | assumption | omega)⟩
def md_gr_takeThing : List rec := [(890, 891, 1, 2)]
abbrev Q_gr_takeThing (S : sS) : pst := fun r S1 => HI S1 ∧ FR md_gr_takeThing S S1 ∧ (∃ z : Int, r = some (iv z) ∧ (0 ≤ z ∧ z ≤ 1) ∧ (Xi S 890 1 ≤ Xi S1 890 1 ∧ Xi S1 890 1 ≤ Xi S 876 7) ∧ (SAY S1 (Xi S1 890 1)))
set_option maxRecDepth 100000 in
theorem t_gr_takeThing {S : sS} (hH : HI S) (ha : Xi S 890 1 ≤ Xi S 876 7) (hs : SAY S (Xi S 890 1)) (d : Nat) : Mt lay0 (d + 3) m_gr_takeThing [.ref 890] S (Q_gr_takeThing S) := by
  refine Mt_R rfl rfl ?_
  have hF : FR md_gr_takeThing S S := FR.rf
  have w1 : 0 ≤ Xi S 876 7 ∧ Xi S 876 7 ≤ 5130 := hH.c _ _
  have w2 : 0 ≤ Xi S 890 1 ∧ Xi S 890 1 ≤ 5130 := hH.c _ _
  refine l_aload_n rfl rfl ?_
  refine l_bipush rfl rfl ?_
  have w3 : 0 ≤ Xi S 876 7 ∧ Xi S 876 7 ≤ 5130 := hH.c _ _
  have w4 : 0 ≤ Xi S 890 1 ∧ Xi S 890 1 ≤ 5130 := hH.c _ _
  refine l_callV rfl rfl rfl (t_gr_take hH 54 ⟨by omega, by omega⟩ (by first | assumption | omega) (by first | assumption | omega) (by first | assumption | omega) _) ?_
  rintro _ T1 ⟨hHT1, w10, z9, rfl, w9, w5, w6, w7, w8⟩
  have hFT1 : FR md_gr_takeThing S T1 := FR.tr hF w10 rfl
  show Rl _ _ _ _ _ [iv z9] _ _
  refine l_if_ne rfl rfl (by unfold rg; omega) (fun w11 => ?_) (fun w12 => ?_)
  · refine l_iconst rfl ?_
    refine l_ireturn rfl rfl ?_
    have w13 : 0 ≤ Xi T1 890 1 ∧ Xi T1 890 1 ≤ 5130 := hHT1.c _ _
    exact ⟨hHT1, hFT1, _, rfl, ⟨by omega, by omega⟩, (by first | assumption | omega), (by first | assumption | omega)⟩
  · refine l_aload_n rfl rfl ?_
    refine l_bipush rfl rfl ?_
    have w14 : Xi T1 876 7 = Xi S 876 7 := (show Xi T1 876 7 = Xi S 876 7 from w10.x _ _ rfl)
    have w15 : 0 ≤ Xi S 876 7 ∧ Xi S 876 7 ≤ 5130 := hH.c _ _
    have w16 : 0 ≤ Xi T1 890 1 ∧ Xi T1 890 1 ≤ 5130 := hHT1.c _ _
    refine l_callV rfl rfl rfl (t_gr_take hHT1 53 ⟨by omega, by omega⟩ (by first | assumption | omega) (by first | assumption | omega) (by first | assumption | omega) _) ?_
    rintro _ T2 ⟨hHT2, w22, z21, rfl, w21, w17, w18, w19, w20⟩
    have hFT2 : FR md_gr_takeThing S T2 := FR.tr hFT1 w22 rfl
    show Rl _ _ _ _ _ [iv z21] _ _
    refine l_if_eq rfl rfl (by unfold rg; omega) (fun w23 => ?_) (fun w24 => ?_)
    · refine l_aload_n rfl rfl ?_
      refine l_gfr rfl rfl rfl rfl rfl (hHT2.r 890 0 876 rfl) ?_
      refine l_aload_n rfl rfl ?_
      refine l_gfi rfl rfl rfl rfl rfl ?_
      have w25 : 0 ≤ (Xi T2 890 1) ∧ (Xi T2 890 1) ≤ 5130 := hHT2.c _ _
      have w26 : Xi T2 876 7 = Xi S 876 7 := (show Xi T2 876 7 = Xi T1 876 7 from w22.x _ _ rfl).trans ((show Xi T1 876 7 = Xi S 876 7 from w10.x _ _ rfl))
      have w27 : 0 ≤ Xi S 876 7 ∧ Xi S 876 7 ≤ 5130 := hH.c _ _
      refine l_callV rfl rfl rfl (t_to_typeAt hHT2 (Xi T2 890 1) ⟨by omega, by omega⟩ _) ?_
      rintro _ _ ⟨rfl, z29, rfl, w29, w28⟩
      show Rl _ _ _ _ _ [iv z29] _ _
      refine l_iconst rfl ?_
      refine l_icmp_ne rfl rfl (by unfold rg; omega) (by unfold rg; omega) (fun w30 => ?_) (fun w31 => ?_)
      · refine l_iconst rfl ?_
        refine l_istore_n rfl rfl rfl ?_
        refine l_aload_n rfl rfl ?_
        refine l_aload_n rfl rfl ?_
        refine l_gfr rfl rfl rfl rfl rfl (hHT2.r 890 0 876 rfl) ?_
        refine l_aload_n rfl rfl ?_
        refine l_gfi rfl rfl rfl rfl rfl ?_
        have w32 : Xi T2 876 7 = Xi S 876 7 := (show Xi T2 876 7 = Xi T1 876 7 from w22.x _ _ rfl).trans ((show Xi T1 876 7 = Xi S 876 7 from w10.x _ _ rfl))
        have w33 : 0 ≤ Xi S 876 7 ∧ Xi S 876 7 ≤ 5130 := hH.c _ _
        refine l_callV rfl rfl rfl (t_to_behindArt hHT2 (Xi T2 890 1) ⟨by omega, by omega⟩ _) ?_
        rintro _ _ ⟨rfl, z35, rfl, w35, w34⟩
        show Rl _ _ _ _ _ [iv z35, .ref 890] _ _
        refine l_pfi rfl rfl rfl rfl ?_
        obtain ⟨U3, eU3⟩ : ∃ T : sS, T = uI T2 890 1 (Int32.ofInt z35) := ⟨_, rfl⟩
        rw [← eU3]
        have hHU3 : HI U3 := by rw [eU3]; exact HI_w hHT2 (show 0 ≤ z35 by omega) (show z35 ≤ 5130 by omega)
        have hFU3 : FR md_gr_takeThing S U3 := by rw [eU3]; exact FR.wI hFT2 (mdf_i (r := (890, 891, 1, 2)) (List.mem_of_getElem? (i := 0) rfl) (inR_i (by omega) (by omega) (by omega) (by omega)))
        have w36 : Xi U3 890 1 = z35 := by rw [eU3]; exact Xi_same (by unfold rg; omega)
        have hs2 : SAY U3 (Xi U3 890 1) := SAY_artw eU3 (by assumption) (by assumption) (by omega) (by omega)
        refine l_iload_n rfl rfl ?_
        refine l_if_eq rfl rfl (by unfold rg; omega) (fun w37 => ?_) (fun w38 => absurd w38 (by omega))
        · refine l_aload_n rfl rfl ?_
          have w39 : Xi U3 876 7 = Xi S 876 7 := (show Xi U3 876 7 = Xi T2 876 7 from by rw [eU3]; exact Xi_ne (by omega)).trans ( (show Xi T2 876 7 = Xi T1 876 7 from w22.x _ _ rfl).trans ((show Xi T1 876 7 = Xi S 876 7 from w10.x _ _ rfl)))
          have w40 : 0 ≤ Xi S 876 7 ∧ Xi S 876 7 ≤ 5130 := hH.c _ _
          have w41 : 0 ≤ Xi U3 890 1 ∧ Xi U3 890 1 ≤ 5130 := hHU3.c _ _
          refine l_callV rfl rfl rfl (t_gr_takeRun hHU3 (by first | assumption | omega) (by first | assumption | omega) _) ?_
          rintro _ T4 ⟨hHT4, w46, z45, rfl, w45, w42, w43, w44⟩
          have hFT4 : FR md_gr_takeThing S T4 := FR.tr hFU3 w46 rfl
          show Rl _ _ _ _ _ [iv z45] _ _
          refine l_if_eq rfl rfl (by unfold rg; omega) (fun w47 => ?_) (fun w48 => ?_)
          · refine l_iconst rfl ?_
            refine l_ireturn rfl rfl ?_
            have w49 : 0 ≤ Xi T4 890 1 ∧ Xi T4 890 1 ≤ 5130 := hHT4.c _ _
            exact ⟨hHT4, hFT4, _, rfl, ⟨by omega, by omega⟩, (by first | assumption | omega), (by first | assumption | omega)⟩
          · refine l_iconst rfl ?_
            refine l_goto rfl rfl ?_
            refine l_ireturn rfl rfl ?_
            have w50 : 0 ≤ Xi T4 890 1 ∧ Xi T4 890 1 ≤ 5130 := hHT4.c _ _
            exact ⟨hHT4, hFT4, _, rfl, ⟨by omega, by omega⟩, (by first | assumption | omega), (by first | assumption | omega)⟩
      · refine l_iconst rfl ?_
        refine l_goto rfl rfl ?_
        refine l_istore_n rfl rfl rfl ?_
        refine l_aload_n rfl rfl ?_
        refine l_aload_n rfl rfl ?_
        refine l_gfr rfl rfl rfl rfl rfl (hHT2.r 890 0 876 rfl) ?_
        refine l_aload_n rfl rfl ?_
        refine l_gfi rfl rfl rfl rfl rfl ?_
        have w51 : Xi T2 876 7 = Xi S 876 7 := (show Xi T2 876 7 = Xi T1 876 7 from w22.x _ _ rfl).trans ((show Xi T1 876 7 = Xi S 876 7 from w10.x _ _ rfl))
        have w52 : 0 ≤ Xi S 876 7 ∧ Xi S 876 7 ≤ 5130 := hH.c _ _
        refine l_callV rfl rfl rfl (t_to_behindArt hHT2 (Xi T2 890 1) ⟨by omega, by omega⟩ _) ?_
        rintro _ _ ⟨rfl, z54, rfl, w54, w53⟩
        show Rl _ _ _ _ _ [iv z54, .ref 890] _ _
        refine l_pfi rfl rfl rfl rfl ?_
        obtain ⟨U5, eU5⟩ : ∃ T : sS, T = uI T2 890 1 (Int32.ofInt z54) := ⟨_, rfl⟩
        rw [← eU5]
        have hHU5 : HI U5 := by rw [eU5]; exact HI_w hHT2 (show 0 ≤ z54 by omega) (show z54 ≤ 5130 by omega)
        have hFU5 : FR md_gr_takeThing S U5 := by rw [eU5]; exact FR.wI hFT2 (mdf_i (r := (890, 891, 1, 2)) (List.mem_of_getElem? (i := 0) rfl) (inR_i (by omega) (by omega) (by omega) (by omega)))
        have w55 : Xi U5 890 1 = z54 := by rw [eU5]; exact Xi_same (by unfold rg; omega)
        have hs2 : SAY U5 (Xi U5 890 1) := SAY_artw eU5 (by assumption) (by assumption) (by omega) (by omega)
        refine l_iload_n rfl rfl ?_
        refine l_if_eq rfl rfl (by unfold rg; omega) (fun w56 => absurd w56 (by omega)) (fun w57 => ?_)
        · refine l_aload_n rfl rfl ?_
          refine l_bipush rfl rfl ?_
          have w58 : Xi U5 876 7 = Xi S 876 7 := (show Xi U5 876 7 = Xi T2 876 7 from by rw [eU5]; exact Xi_ne (by omega)).trans ( (show Xi T2 876 7 = Xi T1 876 7 from w22.x _ _ rfl).trans ((show Xi T1 876 7 = Xi S 876 7 from w10.x _ _ rfl)))
          have w59 : 0 ≤ Xi S 876 7 ∧ Xi S 876 7 ≤ 5130 := hH.c _ _
          have w60 : 0 ≤ Xi U5 890 1 ∧ Xi U5 890 1 ≤ 5130 := hHU5.c _ _
          refine l_callV rfl rfl rfl (t_gr_take hHU5 53 ⟨by omega, by omega⟩ (by first | assumption | omega) (by first | assumption | omega) (by first | assumption | omega) _) ?_
          rintro _ T6 ⟨hHT6, w66, z65, rfl, w65, w61, w62, w63, w64⟩
          have hFT6 : FR md_gr_takeThing S T6 := FR.tr hFU5 w66 rfl
          show Rl _ _ _ _ _ [iv z65] _ _
          refine l_if_ne rfl rfl (by unfold rg; omega) (fun w67 => ?_) (fun w68 => ?_)
          · refine l_iconst rfl ?_
            refine l_goto rfl rfl ?_
            refine l_ireturn rfl rfl ?_
            have w69 : 0 ≤ Xi T6 890 1 ∧ Xi T6 890 1 ≤ 5130 := hHT6.c _ _
            exact ⟨hHT6, hFT6, _, rfl, ⟨by omega, by omega⟩, (by first | assumption | omega), (by first | assumption | omega)⟩
          · refine l_aload_n rfl rfl ?_
            have w70 : Xi T6 876 7 = Xi S 876 7 := (show Xi T6 876 7 = Xi U5 876 7 from w66.x _ _ rfl).trans ( (show Xi U5 876 7 = Xi T2 876 7 from by rw [eU5]; exact Xi_ne (by omega)).trans ( (show Xi T2 876 7 = Xi T1 876 7 from w22.x _ _ rfl).trans ((show Xi T1 876 7 = Xi S 876 7 from w10.x _ _ rfl))))
            have w71 : 0 ≤ Xi S 876 7 ∧ Xi S 876 7 ≤ 5130 := hH.c _ _
            have w72 : 0 ≤ Xi T6 890 1 ∧ Xi T6 890 1 ≤ 5130 := hHT6.c _ _
            refine l_callV rfl rfl rfl (t_gr_takeRun hHT6 (by first | assumption | omega) (by first | assumption | omega) _) ?_
            rintro _ T7 ⟨hHT7, w77, z76, rfl, w76, w73, w74, w75⟩
            have hFT7 : FR md_gr_takeThing S T7 := FR.tr hFT6 w77 rfl
            show Rl _ _ _ _ _ [iv z76] _ _
            refine l_if_eq rfl rfl (by unfold rg; omega) (fun w78 => ?_) (fun w79 => ?_)
            · refine l_iconst rfl ?_
              refine l_ireturn rfl rfl ?_
              have w80 : 0 ≤ Xi T7 890 1 ∧ Xi T7 890 1 ≤ 5130 := hHT7.c _ _
              exact ⟨hHT7, hFT7, _, rfl, ⟨by omega, by omega⟩, (by first | assumption | omega), (by first | assumption | omega)⟩
            · refine l_iconst rfl ?_
              refine l_goto rfl rfl ?_
              refine l_ireturn rfl rfl ?_
              have w81 : 0 ≤ Xi T7 890 1 ∧ Xi T7 890 1 ≤ 5130 := hHT7.c _ _
              exact ⟨hHT7, hFT7, _, rfl, ⟨by omega, by omega⟩, (by first | assumption | omega), (by first | assumption | omega)⟩
    · refine l_iconst rfl ?_
      refine l_ireturn rfl rfl ?_
      have w82 : 0 ≤ Xi T2 890 1 ∧ Xi T2 890 1 ≤ 5130 := hHT2.c _ _
      exact ⟨hHT2, hFT2, _, rfl, ⟨by omega, by omega⟩, (by first | assumption | omega), (by first | assumption | omega)⟩
def md_gr_takeWhat : List rec := [(890, 891, 1, 2)]
abbrev Q_gr_takeWhat (S : sS) : pst := fun r S1 => HI S1 ∧ FR md_gr_takeWhat S S1 ∧ (∃ z : Int, r = some (iv z) ∧ (0 ≤ z ∧ z ≤ 1) ∧ (Xi S 890 1 ≤ Xi S1 890 1 ∧ Xi S1 890 1 ≤ Xi S 876 7) ∧ (SAY S1 (Xi S1 890 1)))
set_option maxRecDepth 100000 in
theorem t_gr_takeWhat {S : sS} (hH : HI S) (ha : Xi S 890 1 ≤ Xi S 876 7) (hs : SAY S (Xi S 890 1)) (d : Nat) : Mt lay0 (d + 3) m_gr_takeWhat [.ref 890] S (Q_gr_takeWhat S) := by
  refine Mt_R rfl rfl ?_
  have hF : FR md_gr_takeWhat S S := FR.rf
  have w1 : 0 ≤ Xi S 876 7 ∧ Xi S 876 7 ≤ 5130 := hH.c _ _
  have w2 : 0 ≤ Xi S 890 1 ∧ Xi S 890 1 ≤ 5130 := hH.c _ _
  refine l_aload_n rfl rfl ?_
  refine l_bipush rfl rfl ?_
  have w3 : 0 ≤ Xi S 876 7 ∧ Xi S 876 7 ≤ 5130 := hH.c _ _
  have w4 : 0 ≤ Xi S 890 1 ∧ Xi S 890 1 ≤ 5130 := hH.c _ _
  refine l_callV rfl rfl rfl (t_gr_take hH 101 ⟨by omega, by omega⟩ (by first | assumption | omega) (by first | assumption | omega) (by first | assumption | omega) _) ?_
  rintro _ T1 ⟨hHT1, w10, z9, rfl, w9, w5, w6, w7, w8⟩
  have hFT1 : FR md_gr_takeWhat S T1 := FR.tr hF w10 rfl
  show Rl _ _ _ _ _ [iv z9] _ _
  refine l_if_ne rfl rfl (by unfold rg; omega) (fun w11 => ?_) (fun w12 => ?_)
  · refine l_iconst rfl ?_
    refine l_goto rfl rfl ?_
    refine l_ireturn rfl rfl ?_
    have w13 : 0 ≤ Xi T1 890 1 ∧ Xi T1 890 1 ≤ 5130 := hHT1.c _ _
    exact ⟨hHT1, hFT1, _, rfl, ⟨by omega, by omega⟩, (by first | assumption | omega), (by first | assumption | omega)⟩
  · refine l_aload_n rfl rfl ?_
    refine l_bipush rfl rfl ?_
    have w14 : Xi T1 876 7 = Xi S 876 7 := (show Xi T1 876 7 = Xi S 876 7 from w10.x _ _ rfl)
    have w15 : 0 ≤ Xi S 876 7 ∧ Xi S 876 7 ≤ 5130 := hH.c _ _
    have w16 : 0 ≤ Xi T1 890 1 ∧ Xi T1 890 1 ≤ 5130 := hHT1.c _ _
    refine l_callV rfl rfl rfl (t_gr_take hHT1 102 ⟨by omega, by omega⟩ (by first | assumption | omega) (by first | assumption | omega) (by first | assumption | omega) _) ?_
    rintro _ T2 ⟨hHT2, w22, z21, rfl, w21, w17, w18, w19, w20⟩
    have hFT2 : FR md_gr_takeWhat S T2 := FR.tr hFT1 w22 rfl
    show Rl _ _ _ _ _ [iv z21] _ _
    refine l_if_ne rfl rfl (by unfold rg; omega) (fun w23 => ?_) (fun w24 => ?_)
    · refine l_iconst rfl ?_
      refine l_goto rfl rfl ?_
      refine l_ireturn rfl rfl ?_
      have w25 : 0 ≤ Xi T2 890 1 ∧ Xi T2 890 1 ≤ 5130 := hHT2.c _ _
      exact ⟨hHT2, hFT2, _, rfl, ⟨by omega, by omega⟩, (by first | assumption | omega), (by first | assumption | omega)⟩
    · refine l_aload_n rfl rfl ?_
      have w26 : Xi T2 876 7 = Xi S 876 7 := (show Xi T2 876 7 = Xi T1 876 7 from w22.x _ _ rfl).trans ((show Xi T1 876 7 = Xi S 876 7 from w10.x _ _ rfl))
      have w27 : 0 ≤ Xi S 876 7 ∧ Xi S 876 7 ≤ 5130 := hH.c _ _
      have w28 : 0 ≤ Xi T2 890 1 ∧ Xi T2 890 1 ≤ 5130 := hHT2.c _ _
      refine l_callV rfl rfl rfl (t_gr_takeRun hHT2 (by first | assumption | omega) (by first | assumption | omega) _) ?_
      rintro _ T3 ⟨hHT3, w33, z32, rfl, w32, w29, w30, w31⟩
      have hFT3 : FR md_gr_takeWhat S T3 := FR.tr hFT2 w33 rfl
      show Rl _ _ _ _ _ [iv z32] _ _
      refine l_if_eq rfl rfl (by unfold rg; omega) (fun w34 => ?_) (fun w35 => ?_)
      · refine l_iconst rfl ?_
        refine l_ireturn rfl rfl ?_
        have w36 : 0 ≤ Xi T3 890 1 ∧ Xi T3 890 1 ≤ 5130 := hHT3.c _ _
        exact ⟨hHT3, hFT3, _, rfl, ⟨by omega, by omega⟩, (by first | assumption | omega), (by first | assumption | omega)⟩
      · refine l_iconst rfl ?_
        refine l_goto rfl rfl ?_
        refine l_ireturn rfl rfl ?_
        have w37 : 0 ≤ Xi T3 890 1 ∧ Xi T3 890 1 ≤ 5130 := hHT3.c _ _
        exact ⟨hHT3, hFT3, _, rfl, ⟨by omega, by omega⟩, (by first | assumption | omega), (by first | assumption | omega)⟩
