/-! SAFETY of methods: printed by wip/safe (vc.py, decl.py) -/
abbrev Q_to_testEnd (S : sS) (from_ : Int) (now : Int) : pst := fun r S1 => S = S1 ∧ (∃ z : Int, r = some (iv z) ∧ (0 ≤ z ∧ z ≤ 5131) ∧ (from_ ≤ z ∨ z = Xi S 876 7) ∧ (from_ ≤ Xi S 876 7 → from_ ≤ z ∧ z ≤ Xi S 876 7))
set_option maxRecDepth 100000 in
theorem t_to_testEnd {S : sS} (hH : HI S) (from_ : Int) (now : Int) (hfrom_ : 0 ≤ from_ ∧ from_ ≤ 5131) (hnow : 0 ≤ now ∧ now ≤ 1) (d : Nat) : Mt lay0 (d + 1) m_to_testEnd [.ref 876, iv from_, iv now] S (Q_to_testEnd S from_ now) := by
  refine Mt_R rfl rfl ?_
  have w1 : 0 ≤ Xi S 876 7 ∧ Xi S 876 7 ≤ 5130 := hH.c _ _
  have C2 : ∀ (n2 : Nat) (v3 : Int), (0 ≤ v3 ∧ v3 ≤ 5131) → (from_ ≤ v3) → n2 = (5132 - v3).toNat → Rl lay0 (d + 0) m_to_testEnd 2 [(0, .ref 876), (2, iv now), (3, iv v3)] [] S (Q_to_testEnd S from_ now) := by
    intro n2
    induction n2 using Nat.strongRecOn with
    | ind n2 ih2 =>
      intro v3 w2 w3 hm2
      have C59 : ∀  (v3 : Int), (0 ≤ v3 ∧ v3 ≤ 5129) → (from_ ≤ v3) → (v3 < Xi S 876 7) → ((5132 - v3).toNat ≤ n2) → Rl lay0 (d + 0) m_to_testEnd 59 [(0, .ref 876), (2, iv now), (3, iv v3)] [] S (Q_to_testEnd S from_ now) := by
        intro v3 w4 w5 w6 w7
        refine l_iinc rfl rfl rfl rfl ?_
        refine l_goto rfl rfl ?_
        exact Rl_weak (ih2 _ (by omega) ((v3 + 1)) (by omega) (by omega) rfl) (And.intro rfl (And.intro rfl (And.intro rfl (True.intro))))
      refine l_iload_n rfl rfl ?_
      refine l_aload_n rfl rfl ?_
      refine l_gfi rfl rfl rfl rfl rfl ?_
      refine l_icmp_ge rfl rfl (by unfold rg; omega) (by unfold rg; omega) (fun w8 => ?_) (fun w9 => ?_)
      · refine l_aload_n rfl rfl ?_
        refine l_gfi rfl rfl rfl rfl rfl ?_
        refine l_ireturn rfl rfl ?_
        exact ⟨rfl, _, rfl, ⟨by omega, by omega⟩, (by first | assumption | omega), (by first | assumption | omega)⟩
      · refine l_aload_n rfl rfl ?_
        refine l_gfr rfl rfl rfl rfl rfl (hH.r 876 0 877 rfl) ?_
        refine l_iload_n rfl rfl ?_
        refine l_iaload (n := 5130) rfl rfl (by omega) (by omega) (by unfold rg; omega) ?_
        have w10 : 0 ≤ (Xi S 877 ((v3).toNat)) ∧ (Xi S 877 ((v3).toNat)) ≤ 108 := hH.c _ _
        refine l_istore rfl rfl rfl ?_
        refine l_iload rfl rfl ?_
        refine l_bipush rfl rfl ?_
        refine l_icmp_eq rfl rfl (by unfold rg; omega) (by unfold rg; omega) (fun w11 => ?_) (fun w12 => ?_)
        · refine l_iload_n rfl rfl ?_
          refine l_ireturn rfl rfl ?_
          exact ⟨rfl, _, rfl, ⟨by omega, by omega⟩, (by first | assumption | omega), (by first | assumption | omega)⟩
        · refine l_iload rfl rfl ?_
          refine l_bipush rfl rfl ?_
          refine l_icmp_eq rfl rfl (by unfold rg; omega) (by unfold rg; omega) (fun w13 => ?_) (fun w14 => ?_)
          · refine l_iload_n rfl rfl ?_
            refine l_ireturn rfl rfl ?_
            exact ⟨rfl, _, rfl, ⟨by omega, by omega⟩, (by first | assumption | omega), (by first | assumption | omega)⟩
          · refine l_iload rfl rfl ?_
            refine l_bipush rfl rfl ?_
            refine l_icmp_eq rfl rfl (by unfold rg; omega) (by unfold rg; omega) (fun w15 => ?_) (fun w16 => ?_)
            · refine l_iload_n rfl rfl ?_
              refine l_ireturn rfl rfl ?_
              exact ⟨rfl, _, rfl, ⟨by omega, by omega⟩, (by first | assumption | omega), (by first | assumption | omega)⟩
            · refine l_iload_n rfl rfl ?_
              refine l_if_ne rfl rfl (by unfold rg; omega) (fun w17 => ?_) (fun w18 => ?_)
              · exact Rl_weak (C59 (v3) (by omega) (by omega) (by omega) (by omega)) (And.intro rfl (And.intro rfl (And.intro rfl (True.intro))))
              · refine l_iload rfl rfl ?_
                refine l_bipush rfl rfl ?_
                refine l_icmp_eq rfl rfl (by unfold rg; omega) (by unfold rg; omega) (fun w19 => ?_) (fun w20 => ?_)
                · refine l_iload_n rfl rfl ?_
                  refine l_ireturn rfl rfl ?_
                  exact ⟨rfl, _, rfl, ⟨by omega, by omega⟩, (by first | assumption | omega), (by first | assumption | omega)⟩
                · refine l_iload rfl rfl ?_
                  refine l_bipush rfl rfl ?_
                  refine l_icmp_ne rfl rfl (by unfold rg; omega) (by unfold rg; omega) (fun w21 => ?_) (fun w22 => ?_)
                  · exact Rl_weak (C59 (v3) (by omega) (by omega) (by omega) (by omega)) (And.intro rfl (And.intro rfl (And.intro rfl (True.intro))))
                  · refine l_iload_n rfl rfl ?_
                    refine l_ireturn rfl rfl ?_
                    exact ⟨rfl, _, rfl, ⟨by omega, by omega⟩, (by first | assumption | omega), (by first | assumption | omega)⟩
  refine l_iload_n rfl rfl ?_
  refine l_istore_n rfl rfl rfl ?_
  exact Rl_weak (C2 _ (from_) (by omega) (by omega) rfl) (And.intro rfl (And.intro rfl (And.intro rfl (True.intro))))
abbrev Q_to_placeAt (S : sS) (row : Int) : pst := fun r S1 => S = S1 ∧ (∃ z : Int, r = some (iv z) ∧ (0 ≤ z ∧ z ≤ 5000) ∧ (0 ≤ row → row < Xi S 876 7 → z = Xi S 878 row.toNat))
set_option maxRecDepth 100000 in
theorem t_to_placeAt {S : sS} (hH : HI S) (row : Int) (hrow : -2147483648 ≤ row ∧ row ≤ 2147483647) (d : Nat) : Mt lay0 (d + 1) m_to_placeAt [.ref 876, iv row] S (Q_to_placeAt S row) := by
  refine Mt_R rfl rfl ?_
  have w1 : 0 ≤ Xi S 876 7 ∧ Xi S 876 7 ≤ 5130 := hH.c _ _
  refine l_iload_n rfl rfl ?_
  refine l_if_lt rfl rfl (by unfold rg; omega) (fun w2 => ?_) (fun w3 => ?_)
  · refine l_aload_n rfl rfl ?_
    refine l_gfi rfl rfl rfl rfl rfl ?_
    have w4 : 0 ≤ (Xi S 876 5) ∧ (Xi S 876 5) ≤ 5000 := hH.c _ _
    refine l_ireturn rfl rfl ?_
    exact ⟨rfl, _, rfl, ⟨by omega, by omega⟩, (by first | assumption | omega)⟩
  · refine l_iload_n rfl rfl ?_
    refine l_aload_n rfl rfl ?_
    refine l_gfi rfl rfl rfl rfl rfl ?_
    refine l_icmp_ge rfl rfl (by unfold rg; omega) (by unfold rg; omega) (fun w5 => ?_) (fun w6 => ?_)
    · refine l_aload_n rfl rfl ?_
      refine l_gfi rfl rfl rfl rfl rfl ?_
      have w7 : 0 ≤ (Xi S 876 5) ∧ (Xi S 876 5) ≤ 5000 := hH.c _ _
      refine l_ireturn rfl rfl ?_
      exact ⟨rfl, _, rfl, ⟨by omega, by omega⟩, (by first | assumption | omega)⟩
    · refine l_aload_n rfl rfl ?_
      refine l_gfr rfl rfl rfl rfl rfl (hH.r 876 1 878 rfl) ?_
      refine l_iload_n rfl rfl ?_
      refine l_iaload (n := 5130) rfl rfl (by omega) (by omega) (by unfold rg; omega) ?_
      have w8 : 0 ≤ (Xi S 878 ((row).toNat)) ∧ (Xi S 878 ((row).toNat)) ≤ 5000 := hH.c _ _
      refine l_goto rfl rfl ?_
      refine l_ireturn rfl rfl ?_
      exact ⟨rfl, _, rfl, ⟨by omega, by omega⟩, (by first | assumption | omega)⟩
abbrev Q_to_valueAt (S : sS) (row : Int) : pst := fun r S1 => S = S1 ∧ (∃ z : Int, r = some (iv z) ∧ (-2147483648 ≤ z ∧ z ≤ 2147483647) ∧ (0 ≤ row → row < Xi S 876 7 → 0 ≤ Xj S 879 row.toNat → Xj S 879 row.toNat ≤ 2147483647 → z = Xj S 879 row.toNat))
set_option maxRecDepth 100000 in
theorem t_to_valueAt {S : sS} (hH : HI S) (row : Int) (hrow : -2147483648 ≤ row ∧ row ≤ 2147483647) (d : Nat) : Mt lay0 (d + 1) m_to_valueAt [.ref 876, iv row] S (Q_to_valueAt S row) := by
  refine Mt_R rfl rfl ?_
  have w1 : 0 ≤ Xi S 876 7 ∧ Xi S 876 7 ≤ 5130 := hH.c _ _
  refine l_iload_n rfl rfl ?_
  refine l_if_lt rfl rfl (by unfold rg; omega) (fun w2 => ?_) (fun w3 => ?_)
  · refine l_iconst rfl ?_
    refine l_ireturn rfl rfl ?_
    exact ⟨rfl, _, rfl, ⟨by omega, by omega⟩, (by first | assumption | omega)⟩
  · refine l_iload_n rfl rfl ?_
    refine l_aload_n rfl rfl ?_
    refine l_gfi rfl rfl rfl rfl rfl ?_
    refine l_icmp_ge rfl rfl (by unfold rg; omega) (by unfold rg; omega) (fun w4 => ?_) (fun w5 => ?_)
    · refine l_iconst rfl ?_
      refine l_ireturn rfl rfl ?_
      exact ⟨rfl, _, rfl, ⟨by omega, by omega⟩, (by first | assumption | omega)⟩
    · refine l_aload_n rfl rfl ?_
      refine l_gfr rfl rfl rfl rfl rfl (hH.r 876 2 879 rfl) ?_
      refine l_iload_n rfl rfl ?_
      refine l_laload (n := 5130) rfl rfl (by omega) (by omega) (by unfold rg; omega) ?_
      have w6 : -9223372036854775808 ≤ (Xj S 879 ((row).toNat)) ∧ (Xj S 879 ((row).toNat)) < 9223372036854775808 := Xj_rg
      refine l_l2i rfl (fun c7 w7r w7 => ?_)
      unfold rg rgL at *
      refine l_goto rfl rfl ?_
      refine l_ireturn rfl rfl ?_
      exact ⟨rfl, _, rfl, ⟨by omega, by omega⟩, (by first | assumption | omega)⟩
abbrev Q_to_beginsRun (S : sS) (row : Int) (from_ : Int) : pst := fun r S1 => S = S1 ∧ (∃ z : Int, r = some (iv z) ∧ (0 ≤ z ∧ z ≤ 1) ∧ (z = 1 → from_ ≤ row ∧ row < Xi S 876 7 ∧ (0 ≤ row → Xi S 877 row.toNat = 100)))
set_option maxRecDepth 100000 in
theorem t_to_beginsRun {S : sS} (hH : HI S) (row : Int) (from_ : Int) (hrow : -2147483648 ≤ row ∧ row ≤ 2147483647) (hfrom_ : 0 ≤ from_ ∧ from_ ≤ 5131) (d : Nat) : Mt lay0 (d + 1) m_to_beginsRun [.ref 876, iv row, iv from_] S (Q_to_beginsRun S row from_) := by
  refine Mt_R rfl rfl ?_
  have w1 : 0 ≤ Xi S 876 7 ∧ Xi S 876 7 ≤ 5130 := hH.c _ _
  refine l_iload_n rfl rfl ?_
  refine l_iload_n rfl rfl ?_
  refine l_icmp_lt rfl rfl (by unfold rg; omega) (by unfold rg; omega) (fun w2 => ?_) (fun w3 => ?_)
  · refine l_iconst rfl ?_
    refine l_ireturn rfl rfl ?_
    exact ⟨rfl, _, rfl, ⟨by omega, by omega⟩, (by first | assumption | omega)⟩
  · refine l_iload_n rfl rfl ?_
    refine l_aload_n rfl rfl ?_
    refine l_gfi rfl rfl rfl rfl rfl ?_
    refine l_icmp_ge rfl rfl (by unfold rg; omega) (by unfold rg; omega) (fun w4 => ?_) (fun w5 => ?_)
    · refine l_iconst rfl ?_
      refine l_ireturn rfl rfl ?_
      exact ⟨rfl, _, rfl, ⟨by omega, by omega⟩, (by first | assumption | omega)⟩
    · refine l_aload_n rfl rfl ?_
      refine l_gfr rfl rfl rfl rfl rfl (hH.r 876 0 877 rfl) ?_
      refine l_iload_n rfl rfl ?_
      refine l_iaload (n := 5130) rfl rfl (by omega) (by omega) (by unfold rg; omega) ?_
      have w6 : 0 ≤ (Xi S 877 ((row).toNat)) ∧ (Xi S 877 ((row).toNat)) ≤ 108 := hH.c _ _
      refine l_bipush rfl rfl ?_
      refine l_icmp_ne rfl rfl (by unfold rg; omega) (by unfold rg; omega) (fun w7 => ?_) (fun w8 => ?_)
      · refine l_iconst rfl ?_
        refine l_ireturn rfl rfl ?_
        exact ⟨rfl, _, rfl, ⟨by omega, by omega⟩, (by first | assumption | omega)⟩
      · refine l_iload_n rfl rfl ?_
        refine l_iload_n rfl rfl ?_
        refine l_icmp_eq rfl rfl (by unfold rg; omega) (by unfold rg; omega) (fun w9 => ?_) (fun w10 => ?_)
        · refine l_iconst rfl ?_
          refine l_goto rfl rfl ?_
          refine l_ireturn rfl rfl ?_
          exact ⟨rfl, _, rfl, ⟨by omega, by omega⟩, (by first | assumption | omega)⟩
        · refine l_aload_n rfl rfl ?_
          refine l_gfr rfl rfl rfl rfl rfl (hH.r 876 0 877 rfl) ?_
          refine l_iload_n rfl rfl ?_
          refine l_iconst rfl ?_
          refine l_isub rfl ?_
          refine l_iaload (n := 5130) rfl rfl (by omega) (by omega) (by unfold rg; omega) ?_
          have w11 : 0 ≤ (Xi S 877 (((row - 1)).toNat)) ∧ (Xi S 877 (((row - 1)).toNat)) ≤ 108 := hH.c _ _
          refine l_bipush rfl rfl ?_
          refine l_icmp_eq rfl rfl (by unfold rg; omega) (by unfold rg; omega) (fun w12 => ?_) (fun w13 => ?_)
          · refine l_iconst rfl ?_
            refine l_ireturn rfl rfl ?_
            exact ⟨rfl, _, rfl, ⟨by omega, by omega⟩, (by first | assumption | omega)⟩
          · refine l_iconst rfl ?_
            refine l_goto rfl rfl ?_
            refine l_ireturn rfl rfl ?_
            exact ⟨rfl, _, rfl, ⟨by omega, by omega⟩, (by first | assumption | omega)⟩
def md_gr_take : List rec := [(890, 891, 1, 2)]
abbrev Q_gr_take (S : sS) (ty : Int) : pst := fun r S1 => HI S1 ∧ FR md_gr_take S S1 ∧ (∃ z : Int, r = some (iv z) ∧ (0 ≤ z ∧ z ≤ 1) ∧ (Xi S 890 1 ≤ Xi S1 890 1 ∧ Xi S1 890 1 ≤ Xi S 876 7) ∧ (SAY S1 (Xi S1 890 1)) ∧ (z = 1 → Xi S1 890 1 = Xi S 890 1 + 1 ∧ Xi S 890 1 < Xi S 876 7 ∧ Xi S 877 (Xi S 890 1).toNat = ty) ∧ (z = 0 → Xi S1 890 1 = Xi S 890 1))
set_option maxRecDepth 100000 in
theorem t_gr_take {S : sS} (hH : HI S) (ty : Int) (hty : 0 ≤ ty ∧ ty ≤ 106) (ha : Xi S 890 1 ≤ Xi S 876 7) (hs : SAY S (Xi S 890 1)) (hn : ty ≠ 43) (d : Nat) : Mt lay0 (d + 2) m_gr_take [.ref 890, iv ty] S (Q_gr_take S ty) := by
  refine Mt_R rfl rfl ?_
  have hF : FR md_gr_take S S := FR.rf
  have w1 : 0 ≤ Xi S 876 7 ∧ Xi S 876 7 ≤ 5130 := hH.c _ _
  have w2 : 0 ≤ Xi S 890 1 ∧ Xi S 890 1 ≤ 5130 := hH.c _ _
  refine l_aload_n rfl rfl ?_
  refine l_gfr rfl rfl rfl rfl rfl (hH.r 890 0 876 rfl) ?_
  refine l_aload_n rfl rfl ?_
  refine l_gfi rfl rfl rfl rfl rfl ?_
  have w3 : 0 ≤ Xi S 876 7 ∧ Xi S 876 7 ≤ 5130 := hH.c _ _
  refine l_callV rfl rfl rfl (t_to_typeAt hH (Xi S 890 1) ⟨by omega, by omega⟩ _) ?_
  rintro _ _ ⟨rfl, z5, rfl, w5, w4⟩
  show Rl _ _ _ _ _ [iv z5] _ _
  refine l_iload_n rfl rfl ?_
  refine l_icmp_eq rfl rfl (by unfold rg; omega) (by unfold rg; omega) (fun w6 => ?_) (fun w7 => ?_)
  · refine l_aload_n rfl rfl ?_
    refine l_dup rfl rfl ?_
    refine l_gfi rfl rfl rfl rfl rfl ?_
    refine l_iconst rfl ?_
    refine l_iadd rfl ?_
    refine l_pfi rfl rfl rfl rfl ?_
    obtain ⟨U1, eU1⟩ : ∃ T : sS, T = uI S 890 1 (Int32.ofInt ((Xi S 890 1) + 1)) := ⟨_, rfl⟩
    rw [← eU1]
    have hHU1 : HI U1 := by rw [eU1]; exact HI_w hH (show 0 ≤ ((Xi S 890 1) + 1) by omega) (show ((Xi S 890 1) + 1) ≤ 5130 by omega)
    have hFU1 : FR md_gr_take S U1 := by rw [eU1]; exact FR.wI hF (mdf_i (r := (890, 891, 1, 2)) (List.mem_of_getElem? (i := 0) rfl) (inR_i (by omega) (by omega) (by omega) (by omega)))
    have w8 : Xi U1 890 1 = ((Xi S 890 1) + 1) := by rw [eU1]; exact Xi_same (by unfold rg; omega)
    refine l_iconst rfl ?_
    refine l_ireturn rfl rfl ?_
    have w9 : 0 ≤ Xi U1 890 1 ∧ Xi U1 890 1 ≤ 5130 := hHU1.c _ _
    exact ⟨hHU1, hFU1, _, rfl, ⟨by omega, by omega⟩, (by omega), (by first | assumption | (rw [show Xi U1 890 1 = Xi S 890 1 + 1 by omega]; exact SAY_w eU1 (SAY_1 hs (by omega) (by omega)))), (by omega), (by omega)⟩
  · refine l_iconst rfl ?_
    refine l_ireturn rfl rfl ?_
    have w10 : 0 ≤ Xi S 890 1 ∧ Xi S 890 1 ≤ 5130 := hH.c _ _
    exact ⟨hH, hF, _, rfl, ⟨by omega, by omega⟩, (by omega), (by first | assumption | (rw [show Xi S 890 1 = Xi S 890 1 + 1 by omega]; exact SAY_w rfl (SAY_1 hs (by omega) (by omega)))), (by omega), (by omega)⟩
def md_gr_take__2 : List rec := [(890, 891, 1, 2)]
abbrev Q_gr_take__2 (S : sS) (ty : Int) : pst := fun r S1 => HI S1 ∧ FR md_gr_take__2 S S1 ∧ (∃ z : Int, r = some (iv z) ∧ (0 ≤ z ∧ z ≤ 1) ∧ (Xi S 890 1 ≤ Xi S1 890 1 ∧ Xi S1 890 1 ≤ Xi S 876 7) ∧ (z = 1 → Xi S1 890 1 = Xi S 890 1 + 1 ∧ Xi S 890 1 < Xi S 876 7 ∧ Xi S 877 (Xi S 890 1).toNat = ty) ∧ (z = 0 → Xi S1 890 1 = Xi S 890 1))
set_option maxRecDepth 100000 in
theorem t_gr_take__2 {S : sS} (hH : HI S) (ty : Int) (hty : 0 ≤ ty ∧ ty ≤ 106) (ha : Xi S 890 1 ≤ Xi S 876 7) (d : Nat) : Mt lay0 (d + 2) m_gr_take [.ref 890, iv ty] S (Q_gr_take__2 S ty) := by
  refine Mt_R rfl rfl ?_
  have hF : FR md_gr_take__2 S S := FR.rf
  have w1 : 0 ≤ Xi S 876 7 ∧ Xi S 876 7 ≤ 5130 := hH.c _ _
  have w2 : 0 ≤ Xi S 890 1 ∧ Xi S 890 1 ≤ 5130 := hH.c _ _
  refine l_aload_n rfl rfl ?_
  refine l_gfr rfl rfl rfl rfl rfl (hH.r 890 0 876 rfl) ?_
  refine l_aload_n rfl rfl ?_
  refine l_gfi rfl rfl rfl rfl rfl ?_
  have w3 : 0 ≤ Xi S 876 7 ∧ Xi S 876 7 ≤ 5130 := hH.c _ _
  refine l_callV rfl rfl rfl (t_to_typeAt hH (Xi S 890 1) ⟨by omega, by omega⟩ _) ?_
  rintro _ _ ⟨rfl, z5, rfl, w5, w4⟩
  show Rl _ _ _ _ _ [iv z5] _ _
  refine l_iload_n rfl rfl ?_
  refine l_icmp_eq rfl rfl (by unfold rg; omega) (by unfold rg; omega) (fun w6 => ?_) (fun w7 => ?_)
  · refine l_aload_n rfl rfl ?_
    refine l_dup rfl rfl ?_
    refine l_gfi rfl rfl rfl rfl rfl ?_
    refine l_iconst rfl ?_
    refine l_iadd rfl ?_
    refine l_pfi rfl rfl rfl rfl ?_
    obtain ⟨U1, eU1⟩ : ∃ T : sS, T = uI S 890 1 (Int32.ofInt ((Xi S 890 1) + 1)) := ⟨_, rfl⟩
    rw [← eU1]
    have hHU1 : HI U1 := by rw [eU1]; exact HI_w hH (show 0 ≤ ((Xi S 890 1) + 1) by omega) (show ((Xi S 890 1) + 1) ≤ 5130 by omega)
    have hFU1 : FR md_gr_take__2 S U1 := by rw [eU1]; exact FR.wI hF (mdf_i (r := (890, 891, 1, 2)) (List.mem_of_getElem? (i := 0) rfl) (inR_i (by omega) (by omega) (by omega) (by omega)))
    have w8 : Xi U1 890 1 = ((Xi S 890 1) + 1) := by rw [eU1]; exact Xi_same (by unfold rg; omega)
    refine l_iconst rfl ?_
    refine l_ireturn rfl rfl ?_
    have w9 : 0 ≤ Xi U1 890 1 ∧ Xi U1 890 1 ≤ 5130 := hHU1.c _ _
    exact ⟨hHU1, hFU1, _, rfl, ⟨by omega, by omega⟩, (by first | assumption | omega), (by first | assumption | omega), (by first | assumption | omega)⟩
  · refine l_iconst rfl ?_
    refine l_ireturn rfl rfl ?_
    have w10 : 0 ≤ Xi S 890 1 ∧ Xi S 890 1 ≤ 5130 := hH.c _ _
    exact ⟨hH, hF, _, rfl, ⟨by omega, by omega⟩, (by first | assumption | omega), (by first | assumption | omega), (by first | assumption | omega)⟩
def md_gr_takeRun : List rec := [(890, 891, 1, 2)]
abbrev Q_gr_takeRun (S : sS) : pst := fun r S1 => HI S1 ∧ FR md_gr_takeRun S S1 ∧ (∃ z : Int, r = some (iv z) ∧ (0 ≤ z ∧ z ≤ 1) ∧ (Xi S 890 1 ≤ Xi S1 890 1 ∧ Xi S1 890 1 ≤ Xi S 876 7) ∧ (SAY S1 (Xi S1 890 1)) ∧ (z = 1 → Xi S 890 1 < Xi S1 890 1))
set_option maxRecDepth 100000 in
theorem t_gr_takeRun {S : sS} (hH : HI S) (ha : Xi S 890 1 ≤ Xi S 876 7) (hs : SAY S (Xi S 890 1)) (d : Nat) : Mt lay0 (d + 2) m_gr_takeRun [.ref 890] S (Q_gr_takeRun S) := by
  refine Mt_R rfl rfl ?_
  have hF : FR md_gr_takeRun S S := FR.rf
  have w1 : 0 ≤ Xi S 876 7 ∧ Xi S 876 7 ≤ 5130 := hH.c _ _
  have w2 : 0 ≤ Xi S 890 1 ∧ Xi S 890 1 ≤ 5130 := hH.c _ _
  refine l_aload_n rfl rfl ?_
  refine l_gfi rfl rfl rfl rfl rfl ?_
  refine l_istore_n rfl rfl rfl ?_
  refine l_aload_n rfl rfl ?_
  refine l_aload_n rfl rfl ?_
  refine l_gfr rfl rfl rfl rfl rfl (hH.r 890 0 876 rfl) ?_
  refine l_iload_n rfl rfl ?_
  refine l_sipush rfl rfl ?_
  have w3 : 0 ≤ Xi S 876 7 ∧ Xi S 876 7 ≤ 5130 := hH.c _ _
  refine l_callV rfl rfl rfl (t_to_runEndUpTo hH (Xi S 890 1) 5000 ⟨by omega, by omega⟩ ⟨by omega, by omega⟩ _) ?_
  rintro _ _ ⟨rfl, z10, rfl, w10, w4, w5, w6, w7, w8, w9⟩
  show Rl _ _ _ _ _ [iv z10, .ref 890] _ _
  refine l_pfi rfl rfl rfl rfl ?_
  obtain ⟨U1, eU1⟩ : ∃ T : sS, T = uI S 890 1 (Int32.ofInt z10) := ⟨_, rfl⟩
  rw [← eU1]
  have hHU1 : HI U1 := by rw [eU1]; exact HI_w hH (show 0 ≤ z10 by omega) (show z10 ≤ 5130 by omega)
  have hFU1 : FR md_gr_takeRun S U1 := by rw [eU1]; exact FR.wI hF (mdf_i (r := (890, 891, 1, 2)) (List.mem_of_getElem? (i := 0) rfl) (inR_i (by omega) (by omega) (by omega) (by omega)))
  have w11 : Xi U1 890 1 = z10 := by rw [eU1]; exact Xi_same (by unfold rg; omega)
  refine l_aload_n rfl rfl ?_
  refine l_gfi rfl rfl rfl rfl rfl ?_
  refine l_iload_n rfl rfl ?_
  refine l_icmp_le rfl rfl (by unfold rg; omega) (by unfold rg; omega) (fun w12 => ?_) (fun w13 => ?_)
  · refine l_iconst rfl ?_
    refine l_ireturn rfl rfl ?_
    have w14 : 0 ≤ Xi U1 890 1 ∧ Xi U1 890 1 ≤ 5130 := hHU1.c _ _
    exact ⟨hHU1, hFU1, _, rfl, ⟨by omega, by omega⟩, (by omega), (SAY_runw eU1 (by assumption) hs (by omega) (by assumption)), (by omega)⟩
  · refine l_iconst rfl ?_
    refine l_goto rfl rfl ?_
    refine l_ireturn rfl rfl ?_
    have w15 : 0 ≤ Xi U1 890 1 ∧ Xi U1 890 1 ≤ 5130 := hHU1.c _ _
    exact ⟨hHU1, hFU1, _, rfl, ⟨by omega, by omega⟩, (by omega), (SAY_runw eU1 (by assumption) hs (by omega) (by assumption)), (by omega)⟩
def md_gr_takeArt : List rec := [(890, 891, 1, 2)]
abbrev Q_gr_takeArt (S : sS) : pst := fun r S1 => HI S1 ∧ FR md_gr_takeArt S S1 ∧ (∃ z : Int, r = some (iv z) ∧ (0 ≤ z ∧ z ≤ 1) ∧ (Xi S 890 1 ≤ Xi S1 890 1 ∧ Xi S1 890 1 ≤ Xi S 876 7) ∧ (SAY S1 (Xi S1 890 1)) ∧ (z = 1 → Xi S1 890 1 = Xi S 890 1 + 1))
set_option maxRecDepth 100000 in
theorem t_gr_takeArt {S : sS} (hH : HI S) (ha : Xi S 890 1 ≤ Xi S 876 7) (hs : SAY S (Xi S 890 1)) (d : Nat) : Mt lay0 (d + 2) m_gr_takeArt [.ref 890] S (Q_gr_takeArt S) := by
  refine Mt_R rfl rfl ?_
  have hF : FR md_gr_takeArt S S := FR.rf
  have w1 : 0 ≤ Xi S 876 7 ∧ Xi S 876 7 ≤ 5130 := hH.c _ _
  have w2 : 0 ≤ Xi S 890 1 ∧ Xi S 890 1 ≤ 5130 := hH.c _ _
  refine l_aload_n rfl rfl ?_
  refine l_gfr rfl rfl rfl rfl rfl (hH.r 890 0 876 rfl) ?_
  refine l_aload_n rfl rfl ?_
  refine l_gfi rfl rfl rfl rfl rfl ?_
  have w3 : 0 ≤ Xi S 876 7 ∧ Xi S 876 7 ≤ 5130 := hH.c _ _
  refine l_callV rfl rfl rfl (t_to_typeAt hH (Xi S 890 1) ⟨by omega, by omega⟩ _) ?_
  rintro _ _ ⟨rfl, z5, rfl, w5, w4⟩
  show Rl _ _ _ _ _ [iv z5] _ _
  refine l_callS rfl rfl (by decide) rfl (t_rs_isArt hH z5 ⟨by omega, by omega⟩ _) ?_
  rintro _ _ ⟨rfl, z7, rfl, w7, w6⟩
  show Rl _ _ _ _ _ [iv z7] _ _
  refine l_if_ne rfl rfl (by unfold rg; omega) (fun w8 => ?_) (fun w9 => ?_)
  · refine l_aload_n rfl rfl ?_
    refine l_dup rfl rfl ?_
    refine l_gfi rfl rfl rfl rfl rfl ?_
    refine l_iconst rfl ?_
    refine l_iadd rfl ?_
    refine l_pfi rfl rfl rfl rfl ?_
    obtain ⟨U1, eU1⟩ : ∃ T : sS, T = uI S 890 1 (Int32.ofInt ((Xi S 890 1) + 1)) := ⟨_, rfl⟩
    rw [← eU1]
    have hHU1 : HI U1 := by rw [eU1]; exact HI_w hH (show 0 ≤ ((Xi S 890 1) + 1) by omega) (show ((Xi S 890 1) + 1) ≤ 5130 by omega)
    have hFU1 : FR md_gr_takeArt S U1 := by rw [eU1]; exact FR.wI hF (mdf_i (r := (890, 891, 1, 2)) (List.mem_of_getElem? (i := 0) rfl) (inR_i (by omega) (by omega) (by omega) (by omega)))
    have w10 : Xi U1 890 1 = ((Xi S 890 1) + 1) := by rw [eU1]; exact Xi_same (by unfold rg; omega)
    refine l_iconst rfl ?_
    refine l_ireturn rfl rfl ?_
    have w11 : 0 ≤ Xi U1 890 1 ∧ Xi U1 890 1 ≤ 5130 := hHU1.c _ _
    exact ⟨hHU1, hFU1, _, rfl, ⟨by omega, by omega⟩, (by omega), (by first | assumption | (rw [show Xi U1 890 1 = Xi S 890 1 + 1 by omega]; exact SAY_w eU1 (SAY_1 hs (by omega) (by omega)))), (by omega)⟩
  · refine l_iconst rfl ?_
    refine l_ireturn rfl rfl ?_
    have w12 : 0 ≤ Xi S 890 1 ∧ Xi S 890 1 ≤ 5130 := hH.c _ _
    exact ⟨hH, hF, _, rfl, ⟨by omega, by omega⟩, (by omega), (by first | assumption | (rw [show Xi S 890 1 = Xi S 890 1 + 1 by omega]; exact SAY_w rfl (SAY_1 hs (by omega) (by omega)))), (by omega)⟩
def md_gr_takeBe : List rec := [(890, 891, 1, 2)]
abbrev Q_gr_takeBe (S : sS) : pst := fun r S1 => HI S1 ∧ FR md_gr_takeBe S S1 ∧ (∃ z : Int, r = some (iv z) ∧ (0 ≤ z ∧ z ≤ 1) ∧ (Xi S 890 1 ≤ Xi S1 890 1 ∧ Xi S1 890 1 ≤ Xi S 876 7) ∧ (SAY S1 (Xi S1 890 1)))
set_option maxRecDepth 100000 in
theorem t_gr_takeBe {S : sS} (hH : HI S) (ha : Xi S 890 1 ≤ Xi S 876 7) (hs : SAY S (Xi S 890 1)) (d : Nat) : Mt lay0 (d + 3) m_gr_takeBe [.ref 890] S (Q_gr_takeBe S) := by
  refine Mt_R rfl rfl ?_
  have hF : FR md_gr_takeBe S S := FR.rf
  have w1 : 0 ≤ Xi S 876 7 ∧ Xi S 876 7 ≤ 5130 := hH.c _ _
  have w2 : 0 ≤ Xi S 890 1 ∧ Xi S 890 1 ≤ 5130 := hH.c _ _
  refine l_aload_n rfl rfl ?_
  refine l_iconst rfl ?_
  have w3 : 0 ≤ Xi S 876 7 ∧ Xi S 876 7 ≤ 5130 := hH.c _ _
  have w4 : 0 ≤ Xi S 890 1 ∧ Xi S 890 1 ≤ 5130 := hH.c _ _
  refine l_callV rfl rfl rfl (t_gr_take hH 4 ⟨by omega, by omega⟩ (by first | assumption | omega) (by first | assumption | omega) (by first | assumption | omega) _) ?_
  rintro _ T1 ⟨hHT1, w10, z9, rfl, w9, w5, w6, w7, w8⟩
  have hFT1 : FR md_gr_takeBe S T1 := FR.tr hF w10 rfl
  show Rl _ _ _ _ _ [iv z9] _ _
  refine l_if_ne rfl rfl (by unfold rg; omega) (fun w11 => ?_) (fun w12 => ?_)
  · refine l_iconst rfl ?_
    refine l_goto rfl rfl ?_
    refine l_ireturn rfl rfl ?_
    have w13 : 0 ≤ Xi T1 890 1 ∧ Xi T1 890 1 ≤ 5130 := hHT1.c _ _
    exact ⟨hHT1, hFT1, _, rfl, ⟨by omega, by omega⟩, (by first | assumption | omega), (by first | assumption | omega)⟩
  · refine l_aload_n rfl rfl ?_
    refine l_iconst rfl ?_
    have w14 : Xi T1 876 7 = Xi S 876 7 := (show Xi T1 876 7 = Xi S 876 7 from w10.x _ _ rfl)
    have w15 : 0 ≤ Xi S 876 7 ∧ Xi S 876 7 ≤ 5130 := hH.c _ _
    have w16 : 0 ≤ Xi T1 890 1 ∧ Xi T1 890 1 ≤ 5130 := hHT1.c _ _
    refine l_callV rfl rfl rfl (t_gr_take hHT1 5 ⟨by omega, by omega⟩ (by first | assumption | omega) (by first | assumption | omega) (by first | assumption | omega) _) ?_
    rintro _ T2 ⟨hHT2, w22, z21, rfl, w21, w17, w18, w19, w20⟩
    have hFT2 : FR md_gr_takeBe S T2 := FR.tr hFT1 w22 rfl
    show Rl _ _ _ _ _ [iv z21] _ _
    refine l_if_eq rfl rfl (by unfold rg; omega) (fun w23 => ?_) (fun w24 => ?_)
    · refine l_iconst rfl ?_
      refine l_ireturn rfl rfl ?_
      have w25 : 0 ≤ Xi T2 890 1 ∧ Xi T2 890 1 ≤ 5130 := hHT2.c _ _
      exact ⟨hHT2, hFT2, _, rfl, ⟨by omega, by omega⟩, (by first | assumption | omega), (by first | assumption | omega)⟩
    · refine l_iconst rfl ?_
      refine l_goto rfl rfl ?_
      refine l_ireturn rfl rfl ?_
      have w26 : 0 ≤ Xi T2 890 1 ∧ Xi T2 890 1 ≤ 5130 := hHT2.c _ _
      exact ⟨hHT2, hFT2, _, rfl, ⟨by omega, by omega⟩, (by first | assumption | omega), (by first | assumption | omega)⟩
def md_gr_takeHowMany : List rec := [(890, 891, 1, 2)]
abbrev Q_gr_takeHowMany (S : sS) : pst := fun r S1 => HI S1 ∧ FR md_gr_takeHowMany S S1 ∧ (∃ z : Int, r = some (iv z) ∧ (0 ≤ z ∧ z ≤ 1) ∧ (Xi S 890 1 ≤ Xi S1 890 1 ∧ Xi S1 890 1 ≤ Xi S 876 7) ∧ (SAY S1 (Xi S1 890 1)))
set_option maxRecDepth 100000 in
theorem t_gr_takeHowMany {S : sS} (hH : HI S) (ha : Xi S 890 1 ≤ Xi S 876 7) (hs : SAY S (Xi S 890 1)) (d : Nat) : Mt lay0 (d + 3) m_gr_takeHowMany [.ref 890] S (Q_gr_takeHowMany S) := by
  refine Mt_R rfl rfl ?_
  have hF : FR md_gr_takeHowMany S S := FR.rf
  have w1 : 0 ≤ Xi S 876 7 ∧ Xi S 876 7 ≤ 5130 := hH.c _ _
  have w2 : 0 ≤ Xi S 890 1 ∧ Xi S 890 1 ≤ 5130 := hH.c _ _
  refine l_aload_n rfl rfl ?_
  refine l_bipush rfl rfl ?_
  have w3 : 0 ≤ Xi S 876 7 ∧ Xi S 876 7 ≤ 5130 := hH.c _ _
  have w4 : 0 ≤ Xi S 890 1 ∧ Xi S 890 1 ≤ 5130 := hH.c _ _
  refine l_callV rfl rfl rfl (t_gr_take hH 22 ⟨by omega, by omega⟩ (by first | assumption | omega) (by first | assumption | omega) (by first | assumption | omega) _) ?_
  rintro _ T1 ⟨hHT1, w10, z9, rfl, w9, w5, w6, w7, w8⟩
  have hFT1 : FR md_gr_takeHowMany S T1 := FR.tr hF w10 rfl
  show Rl _ _ _ _ _ [iv z9] _ _
  refine l_if_ne rfl rfl (by unfold rg; omega) (fun w11 => ?_) (fun w12 => ?_)
  · refine l_iconst rfl ?_
    refine l_goto rfl rfl ?_
    refine l_ireturn rfl rfl ?_
    have w13 : 0 ≤ Xi T1 890 1 ∧ Xi T1 890 1 ≤ 5130 := hHT1.c _ _
    exact ⟨hHT1, hFT1, _, rfl, ⟨by omega, by omega⟩, (by first | assumption | omega), (by first | assumption | omega)⟩
  · refine l_aload_n rfl rfl ?_
    refine l_bipush rfl rfl ?_
    have w14 : Xi T1 876 7 = Xi S 876 7 := (show Xi T1 876 7 = Xi S 876 7 from w10.x _ _ rfl)
    have w15 : 0 ≤ Xi S 876 7 ∧ Xi S 876 7 ≤ 5130 := hH.c _ _
    have w16 : 0 ≤ Xi T1 890 1 ∧ Xi T1 890 1 ≤ 5130 := hHT1.c _ _
    refine l_callV rfl rfl rfl (t_gr_take hHT1 23 ⟨by omega, by omega⟩ (by first | assumption | omega) (by first | assumption | omega) (by first | assumption | omega) _) ?_
    rintro _ T2 ⟨hHT2, w22, z21, rfl, w21, w17, w18, w19, w20⟩
    have hFT2 : FR md_gr_takeHowMany S T2 := FR.tr hFT1 w22 rfl
    show Rl _ _ _ _ _ [iv z21] _ _
    refine l_if_eq rfl rfl (by unfold rg; omega) (fun w23 => ?_) (fun w24 => ?_)
    · refine l_iconst rfl ?_
      refine l_ireturn rfl rfl ?_
      have w25 : 0 ≤ Xi T2 890 1 ∧ Xi T2 890 1 ≤ 5130 := hHT2.c _ _
      exact ⟨hHT2, hFT2, _, rfl, ⟨by omega, by omega⟩, (by first | assumption | omega), (by first | assumption | omega)⟩
    · refine l_iconst rfl ?_
      refine l_goto rfl rfl ?_
      refine l_ireturn rfl rfl ?_
      have w26 : 0 ≤ Xi T2 890 1 ∧ Xi T2 890 1 ≤ 5130 := hHT2.c _ _
      exact ⟨hHT2, hFT2, _, rfl, ⟨by omega, by omega⟩, (by first | assumption | omega), (by first | assumption | omega)⟩
def md_gr_takeName : List rec := [(890, 891, 1, 2)]
abbrev Q_gr_takeName (S : sS) : pst := fun r S1 => HI S1 ∧ FR md_gr_takeName S S1 ∧ (∃ z : Int, r = some (iv z) ∧ (0 ≤ z ∧ z ≤ 1) ∧ (Xi S 890 1 ≤ Xi S1 890 1 ∧ Xi S1 890 1 ≤ Xi S 876 7) ∧ (SAY S1 (Xi S1 890 1)))
set_option maxRecDepth 100000 in
theorem t_gr_takeName {S : sS} (hH : HI S) (ha : Xi S 890 1 ≤ Xi S 876 7) (hs : SAY S (Xi S 890 1)) (d : Nat) : Mt lay0 (d + 3) m_gr_takeName [.ref 890] S (Q_gr_takeName S) := by
  refine Mt_R rfl rfl ?_
  have hF : FR md_gr_takeName S S := FR.rf
  have w1 : 0 ≤ Xi S 876 7 ∧ Xi S 876 7 ≤ 5130 := hH.c _ _
  have w2 : 0 ≤ Xi S 890 1 ∧ Xi S 890 1 ≤ 5130 := hH.c _ _
  refine l_aload_n rfl rfl ?_
  refine l_aload_n rfl rfl ?_
  refine l_gfr rfl rfl rfl rfl rfl (hH.r 890 0 876 rfl) ?_
  refine l_aload_n rfl rfl ?_
  refine l_gfi rfl rfl rfl rfl rfl ?_
  have w3 : 0 ≤ Xi S 876 7 ∧ Xi S 876 7 ≤ 5130 := hH.c _ _
  refine l_callV rfl rfl rfl (t_to_behindArt hH (Xi S 890 1) ⟨by omega, by omega⟩ _) ?_
  rintro _ _ ⟨rfl, z5, rfl, w5, w4⟩
  show Rl _ _ _ _ _ [iv z5, .ref 890] _ _
  refine l_pfi rfl rfl rfl rfl ?_
  obtain ⟨U1, eU1⟩ : ∃ T : sS, T = uI S 890 1 (Int32.ofInt z5) := ⟨_, rfl⟩
  rw [← eU1]
  have hHU1 : HI U1 := by rw [eU1]; exact HI_w hH (show 0 ≤ z5 by omega) (show z5 ≤ 5130 by omega)
  have hFU1 : FR md_gr_takeName S U1 := by rw [eU1]; exact FR.wI hF (mdf_i (r := (890, 891, 1, 2)) (List.mem_of_getElem? (i := 0) rfl) (inR_i (by omega) (by omega) (by omega) (by omega)))
  have w6 : Xi U1 890 1 = z5 := by rw [eU1]; exact Xi_same (by unfold rg; omega)
  have hs2 : SAY U1 (Xi U1 890 1) := SAY_artw eU1 (by assumption) hs (by omega) (by omega)
  refine l_aload_n rfl rfl ?_
  have w7 : Xi U1 876 7 = Xi S 876 7 := (show Xi U1 876 7 = Xi S 876 7 from by rw [eU1]; exact Xi_ne (by omega))
  have w8 : 0 ≤ Xi S 876 7 ∧ Xi S 876 7 ≤ 5130 := hH.c _ _
  have w9 : 0 ≤ Xi U1 890 1 ∧ Xi U1 890 1 ≤ 5130 := hHU1.c _ _
  refine l_callV rfl rfl rfl (t_gr_takeRun hHU1 (by first | assumption | omega) (by first | assumption | omega) _) ?_
  rintro _ T2 ⟨hHT2, w14, z13, rfl, w13, w10, w11, w12⟩
  have hFT2 : FR md_gr_takeName S T2 := FR.tr hFU1 w14 rfl
  show Rl _ _ _ _ _ [iv z13] _ _
  refine l_ireturn rfl (retI_z (by omega)) ?_
  have w15 : 0 ≤ Xi T2 890 1 ∧ Xi T2 890 1 ≤ 5130 := hHT2.c _ _
  exact ⟨hHT2, hFT2, _, rfl, ⟨by omega, by omega⟩, (by first | assumption | omega), (by first | assumption | omega)⟩
def md_gr_takeBetween : List rec := [(890, 891, 1, 2)]
abbrev Q_gr_takeBetween (S : sS) : pst := fun r S1 => HI S1 ∧ FR md_gr_takeBetween S S1 ∧ (∃ z : Int, r = some (iv z) ∧ (0 ≤ z ∧ z ≤ 1) ∧ (Xi S 890 1 ≤ Xi S1 890 1 ∧ Xi S1 890 1 ≤ Xi S 876 7) ∧ (SAY S1 (Xi S1 890 1)))
set_option maxRecDepth 100000 in
theorem t_gr_takeBetween {S : sS} (hH : HI S) (ha : Xi S 890 1 ≤ Xi S 876 7) (hs : SAY S (Xi S 890 1)) (d : Nat) : Mt lay0 (d + 3) m_gr_takeBetween [.ref 890] S (Q_gr_takeBetween S) := by
  refine Mt_R rfl rfl ?_
  have hF : FR md_gr_takeBetween S S := FR.rf
  have w1 : 0 ≤ Xi S 876 7 ∧ Xi S 876 7 ≤ 5130 := hH.c _ _
  have w2 : 0 ≤ Xi S 890 1 ∧ Xi S 890 1 ≤ 5130 := hH.c _ _
  refine l_aload_n rfl rfl ?_
  refine l_bipush rfl rfl ?_
  have w3 : 0 ≤ Xi S 876 7 ∧ Xi S 876 7 ≤ 5130 := hH.c _ _
  have w4 : 0 ≤ Xi S 890 1 ∧ Xi S 890 1 ≤ 5130 := hH.c _ _
  refine l_callV rfl rfl rfl (t_gr_take hH 104 ⟨by omega, by omega⟩ (by first | assumption | omega) (by first | assumption | omega) (by first | assumption | omega) _) ?_
  rintro _ T1 ⟨hHT1, w10, z9, rfl, w9, w5, w6, w7, w8⟩
  have hFT1 : FR md_gr_takeBetween S T1 := FR.tr hF w10 rfl
  show Rl _ _ _ _ _ [iv z9] _ _
  refine l_if_eq rfl rfl (by unfold rg; omega) (fun w11 => ?_) (fun w12 => ?_)
  · refine l_aload_n rfl rfl ?_
    refine l_bipush rfl rfl ?_
    have w13 : Xi T1 876 7 = Xi S 876 7 := (show Xi T1 876 7 = Xi S 876 7 from w10.x _ _ rfl)
    have w14 : 0 ≤ Xi S 876 7 ∧ Xi S 876 7 ≤ 5130 := hH.c _ _
    have w15 : 0 ≤ Xi T1 890 1 ∧ Xi T1 890 1 ≤ 5130 := hHT1.c _ _
    refine l_callV rfl rfl rfl (t_gr_take hHT1 16 ⟨by omega, by omega⟩ (by first | assumption | omega) (by first | assumption | omega) (by first | assumption | omega) _) ?_
    rintro _ T2 ⟨hHT2, w21, z20, rfl, w20, w16, w17, w18, w19⟩
    have hFT2 : FR md_gr_takeBetween S T2 := FR.tr hFT1 w21 rfl
    show Rl _ _ _ _ _ [iv z20] _ _
    refine l_ireturn rfl (retI_z (by omega)) ?_
    have w22 : 0 ≤ Xi T2 890 1 ∧ Xi T2 890 1 ≤ 5130 := hHT2.c _ _
    exact ⟨hHT2, hFT2, _, rfl, ⟨by omega, by omega⟩, (by first | assumption | omega), (by first | assumption | omega)⟩
  · refine l_aload_n rfl rfl ?_
    refine l_bipush rfl rfl ?_
    have w23 : Xi T1 876 7 = Xi S 876 7 := (show Xi T1 876 7 = Xi S 876 7 from w10.x _ _ rfl)
    have w24 : 0 ≤ Xi S 876 7 ∧ Xi S 876 7 ≤ 5130 := hH.c _ _
    have w25 : 0 ≤ Xi T1 890 1 ∧ Xi T1 890 1 ≤ 5130 := hHT1.c _ _
    refine l_callV rfl rfl rfl (t_gr_take hHT1 16 ⟨by omega, by omega⟩ (by first | assumption | omega) (by first | assumption | omega) (by first | assumption | omega) _) ?_
    rintro _ T3 ⟨hHT3, w31, z30, rfl, w30, w26, w27, w28, w29⟩
    have hFT3 : FR md_gr_takeBetween S T3 := FR.tr hFT1 w31 rfl
    show Rl _ _ _ _ _ [iv z30] _ _
    refine l_pop rfl rfl ?_
    refine l_iconst rfl ?_
    refine l_ireturn rfl rfl ?_
    have w32 : 0 ≤ Xi T3 890 1 ∧ Xi T3 890 1 ≤ 5130 := hHT3.c _ _
    exact ⟨hHT3, hFT3, _, rfl, ⟨by omega, by omega⟩, (by first | assumption | omega), (by first | assumption | omega)⟩
abbrev Q_gr_atPlace (S : sS) : pst := fun r S1 => S = S1 ∧ (∃ z : Int, r = some (iv z) ∧ (0 ≤ z ∧ z ≤ 1) ∧ (z = 1 → 0 ≤ Xi S 890 1 ∧ Xi S 890 1 < Xi S 876 7 ∧ Xi S 877 (Xi S 890 1).toNat ≠ 43))
set_option maxRecDepth 100000 in
theorem t_gr_atPlace {S : sS} (hH : HI S) (d : Nat) : Mt lay0 (d + 2) m_gr_atPlace [.ref 890] S (Q_gr_atPlace S) := by
  refine Mt_R rfl rfl ?_
  have w1 : 0 ≤ Xi S 876 7 ∧ Xi S 876 7 ≤ 5130 := hH.c _ _
  have w2 : 0 ≤ Xi S 890 1 ∧ Xi S 890 1 ≤ 5130 := hH.c _ _
  refine l_aload_n rfl rfl ?_
  refine l_gfr rfl rfl rfl rfl rfl (hH.r 890 0 876 rfl) ?_
  refine l_aload_n rfl rfl ?_
  refine l_gfi rfl rfl rfl rfl rfl ?_
  have w3 : 0 ≤ Xi S 876 7 ∧ Xi S 876 7 ≤ 5130 := hH.c _ _
  refine l_callV rfl rfl rfl (t_to_typeAt hH (Xi S 890 1) ⟨by omega, by omega⟩ _) ?_
  rintro _ _ ⟨rfl, z5, rfl, w5, w4⟩
  show Rl _ _ _ _ _ [iv z5] _ _
  refine l_istore_n rfl rfl rfl ?_
  refine l_iload_n rfl rfl ?_
  refine l_bipush rfl rfl ?_
  refine l_icmp_eq rfl rfl (by unfold rg; omega) (by unfold rg; omega) (fun w6 => ?_) (fun w7 => ?_)
  · refine l_iconst rfl ?_
    refine l_goto rfl rfl ?_
    refine l_ireturn rfl rfl ?_
    exact ⟨rfl, _, rfl, ⟨by omega, by omega⟩, (by first | assumption | omega)⟩
  · refine l_iload_n rfl rfl ?_
    refine l_bipush rfl rfl ?_
    refine l_icmp_eq rfl rfl (by unfold rg; omega) (by unfold rg; omega) (fun w8 => ?_) (fun w9 => ?_)
    · refine l_iconst rfl ?_
      refine l_goto rfl rfl ?_
      refine l_ireturn rfl rfl ?_
      exact ⟨rfl, _, rfl, ⟨by omega, by omega⟩, (by first | assumption | omega)⟩
    · refine l_iload_n rfl rfl ?_
      refine l_bipush rfl rfl ?_
      refine l_icmp_eq rfl rfl (by unfold rg; omega) (by unfold rg; omega) (fun w10 => ?_) (fun w11 => ?_)
      · refine l_iconst rfl ?_
        refine l_goto rfl rfl ?_
        refine l_ireturn rfl rfl ?_
        exact ⟨rfl, _, rfl, ⟨by omega, by omega⟩, (by first | assumption | omega)⟩
      · refine l_iload_n rfl rfl ?_
        refine l_bipush rfl rfl ?_
        refine l_icmp_eq rfl rfl (by unfold rg; omega) (by unfold rg; omega) (fun w12 => ?_) (fun w13 => ?_)
        · refine l_iconst rfl ?_
          refine l_goto rfl rfl ?_
          refine l_ireturn rfl rfl ?_
          exact ⟨rfl, _, rfl, ⟨by omega, by omega⟩, (by first | assumption | omega)⟩
        · refine l_iload_n rfl rfl ?_
          refine l_bipush rfl rfl ?_
          refine l_icmp_ne rfl rfl (by unfold rg; omega) (by unfold rg; omega) (fun w14 => ?_) (fun w15 => ?_)
          · refine l_iconst rfl ?_
            refine l_ireturn rfl rfl ?_
            exact ⟨rfl, _, rfl, ⟨by omega, by omega⟩, (by first | assumption | omega)⟩
          · refine l_iconst rfl ?_
            refine l_goto rfl rfl ?_
            refine l_ireturn rfl rfl ?_
            exact ⟨rfl, _, rfl, ⟨by omega, by omega⟩, (by first | assumption | omega)⟩
def md_gr_takeThing : List rec := [(890, 891, 1, 2)]
abbrev Q_gr_takeThing (S : sS) : pst := fun r S1 => HI S1 ∧ FR md_gr_takeThing S S1 ∧ (∃ z : Int, r = some (iv z) ∧ (0 ≤ z ∧ z ≤ 1) ∧ (Xi S 890 1 ≤ Xi S1 890 1 ∧ Xi S1 890 1 ≤ Xi S 876 7) ∧ (SAY S1 (Xi S1 890 1)))
set_option maxRecDepth 100000 in
theorem t_gr_takeThing {S : sS} (hH : HI S) (ha : Xi S 890 1 ≤ Xi S 876 7) (hs : SAY S (Xi S 890 1)) (d : Nat) : Mt lay0 (d + 3) m_gr_takeThing [.ref 890] S (Q_gr_takeThing S) := by
  refine Mt_R rfl rfl ?_
  have hF : FR md_gr_takeThing S S := FR.rf
  have w1 : 0 ≤ Xi S 876 7 ∧ Xi S 876 7 ≤ 5130 := hH.c _ _
  have w2 : 0 ≤ Xi S 890 1 ∧ Xi S 890 1 ≤ 5130 := hH.c _ _
  refine l_aload_n rfl rfl ?_
  refine l_bipush rfl rfl ?_
  have w3 : 0 ≤ Xi S 876 7 ∧ Xi S 876 7 ≤ 5130 := hH.c _ _
  have w4 : 0 ≤ Xi S 890 1 ∧ Xi S 890 1 ≤ 5130 := hH.c _ _
  refine l_callV rfl rfl rfl (t_gr_take hH 54 ⟨by omega, by omega⟩ (by first | assumption | omega) (by first | assumption | omega) (by first | assumption | omega) _) ?_
  rintro _ T1 ⟨hHT1, w10, z9, rfl, w9, w5, w6, w7, w8⟩
  have hFT1 : FR md_gr_takeThing S T1 := FR.tr hF w10 rfl
  show Rl _ _ _ _ _ [iv z9] _ _
  refine l_if_ne rfl rfl (by unfold rg; omega) (fun w11 => ?_) (fun w12 => ?_)
  · refine l_iconst rfl ?_
    refine l_ireturn rfl rfl ?_
    have w13 : 0 ≤ Xi T1 890 1 ∧ Xi T1 890 1 ≤ 5130 := hHT1.c _ _
    exact ⟨hHT1, hFT1, _, rfl, ⟨by omega, by omega⟩, (by first | assumption | omega), (by first | assumption | omega)⟩
  · refine l_aload_n rfl rfl ?_
    refine l_bipush rfl rfl ?_
    have w14 : Xi T1 876 7 = Xi S 876 7 := (show Xi T1 876 7 = Xi S 876 7 from w10.x _ _ rfl)
    have w15 : 0 ≤ Xi S 876 7 ∧ Xi S 876 7 ≤ 5130 := hH.c _ _
    have w16 : 0 ≤ Xi T1 890 1 ∧ Xi T1 890 1 ≤ 5130 := hHT1.c _ _
    refine l_callV rfl rfl rfl (t_gr_take hHT1 53 ⟨by omega, by omega⟩ (by first | assumption | omega) (by first | assumption | omega) (by first | assumption | omega) _) ?_
    rintro _ T2 ⟨hHT2, w22, z21, rfl, w21, w17, w18, w19, w20⟩
    have hFT2 : FR md_gr_takeThing S T2 := FR.tr hFT1 w22 rfl
    show Rl _ _ _ _ _ [iv z21] _ _
    refine l_if_eq rfl rfl (by unfold rg; omega) (fun w23 => ?_) (fun w24 => ?_)
    · refine l_aload_n rfl rfl ?_
      refine l_gfr rfl rfl rfl rfl rfl (hHT2.r 890 0 876 rfl) ?_
      refine l_aload_n rfl rfl ?_
      refine l_gfi rfl rfl rfl rfl rfl ?_
      have w25 : 0 ≤ (Xi T2 890 1) ∧ (Xi T2 890 1) ≤ 5130 := hHT2.c _ _
      have w26 : Xi T2 876 7 = Xi S 876 7 := (show Xi T2 876 7 = Xi T1 876 7 from w22.x _ _ rfl).trans ((show Xi T1 876 7 = Xi S 876 7 from w10.x _ _ rfl))
      have w27 : 0 ≤ Xi S 876 7 ∧ Xi S 876 7 ≤ 5130 := hH.c _ _
      refine l_callV rfl rfl rfl (t_to_typeAt hHT2 (Xi T2 890 1) ⟨by omega, by omega⟩ _) ?_
      rintro _ _ ⟨rfl, z29, rfl, w29, w28⟩
      show Rl _ _ _ _ _ [iv z29] _ _
      refine l_iconst rfl ?_
      refine l_icmp_ne rfl rfl (by unfold rg; omega) (by unfold rg; omega) (fun w30 => ?_) (fun w31 => ?_)
      · refine l_iconst rfl ?_
        refine l_istore_n rfl rfl rfl ?_
        refine l_aload_n rfl rfl ?_
        refine l_aload_n rfl rfl ?_
        refine l_gfr rfl rfl rfl rfl rfl (hHT2.r 890 0 876 rfl) ?_
        refine l_aload_n rfl rfl ?_
        refine l_gfi rfl rfl rfl rfl rfl ?_
        have w32 : Xi T2 876 7 = Xi S 876 7 := (show Xi T2 876 7 = Xi T1 876 7 from w22.x _ _ rfl).trans ((show Xi T1 876 7 = Xi S 876 7 from w10.x _ _ rfl))
        have w33 : 0 ≤ Xi S 876 7 ∧ Xi S 876 7 ≤ 5130 := hH.c _ _
        refine l_callV rfl rfl rfl (t_to_behindArt hHT2 (Xi T2 890 1) ⟨by omega, by omega⟩ _) ?_
        rintro _ _ ⟨rfl, z35, rfl, w35, w34⟩
        show Rl _ _ _ _ _ [iv z35, .ref 890] _ _
        refine l_pfi rfl rfl rfl rfl ?_
        obtain ⟨U3, eU3⟩ : ∃ T : sS, T = uI T2 890 1 (Int32.ofInt z35) := ⟨_, rfl⟩
        rw [← eU3]
        have hHU3 : HI U3 := by rw [eU3]; exact HI_w hHT2 (show 0 ≤ z35 by omega) (show z35 ≤ 5130 by omega)
        have hFU3 : FR md_gr_takeThing S U3 := by rw [eU3]; exact FR.wI hFT2 (mdf_i (r := (890, 891, 1, 2)) (List.mem_of_getElem? (i := 0) rfl) (inR_i (by omega) (by omega) (by omega) (by omega)))
        have w36 : Xi U3 890 1 = z35 := by rw [eU3]; exact Xi_same (by unfold rg; omega)
        have hs2 : SAY U3 (Xi U3 890 1) := SAY_artw eU3 (by assumption) (by assumption) (by omega) (by omega)
        refine l_iload_n rfl rfl ?_
        refine l_if_eq rfl rfl (by unfold rg; omega) (fun w37 => ?_) (fun w38 => absurd w38 (by omega))
        · refine l_aload_n rfl rfl ?_
          have w39 : Xi U3 876 7 = Xi S 876 7 := (show Xi U3 876 7 = Xi T2 876 7 from by rw [eU3]; exact Xi_ne (by omega)).trans ( (show Xi T2 876 7 = Xi T1 876 7 from w22.x _ _ rfl).trans ((show Xi T1 876 7 = Xi S 876 7 from w10.x _ _ rfl)))
          have w40 : 0 ≤ Xi S 876 7 ∧ Xi S 876 7 ≤ 5130 := hH.c _ _
          have w41 : 0 ≤ Xi U3 890 1 ∧ Xi U3 890 1 ≤ 5130 := hHU3.c _ _
          refine l_callV rfl rfl rfl (t_gr_takeRun hHU3 (by first | assumption | omega) (by first | assumption | omega) _) ?_
          rintro _ T4 ⟨hHT4, w46, z45, rfl, w45, w42, w43, w44⟩
          have hFT4 : FR md_gr_takeThing S T4 := FR.tr hFU3 w46 rfl
          show Rl _ _ _ _ _ [iv z45] _ _
          refine l_if_eq rfl rfl (by unfold rg; omega) (fun w47 => ?_) (fun w48 => ?_)
          · refine l_iconst rfl ?_
            refine l_ireturn rfl rfl ?_
            have w49 : 0 ≤ Xi T4 890 1 ∧ Xi T4 890 1 ≤ 5130 := hHT4.c _ _
            exact ⟨hHT4, hFT4, _, rfl, ⟨by omega, by omega⟩, (by first | assumption | omega), (by first | assumption | omega)⟩
          · refine l_iconst rfl ?_
            refine l_goto rfl rfl ?_
            refine l_ireturn rfl rfl ?_
            have w50 : 0 ≤ Xi T4 890 1 ∧ Xi T4 890 1 ≤ 5130 := hHT4.c _ _
            exact ⟨hHT4, hFT4, _, rfl, ⟨by omega, by omega⟩, (by first | assumption | omega), (by first | assumption | omega)⟩
      · refine l_iconst rfl ?_
        refine l_goto rfl rfl ?_
        refine l_istore_n rfl rfl rfl ?_
        refine l_aload_n rfl rfl ?_
        refine l_aload_n rfl rfl ?_
        refine l_gfr rfl rfl rfl rfl rfl (hHT2.r 890 0 876 rfl) ?_
        refine l_aload_n rfl rfl ?_
        refine l_gfi rfl rfl rfl rfl rfl ?_
        have w51 : Xi T2 876 7 = Xi S 876 7 := (show Xi T2 876 7 = Xi T1 876 7 from w22.x _ _ rfl).trans ((show Xi T1 876 7 = Xi S 876 7 from w10.x _ _ rfl))
        have w52 : 0 ≤ Xi S 876 7 ∧ Xi S 876 7 ≤ 5130 := hH.c _ _
        refine l_callV rfl rfl rfl (t_to_behindArt hHT2 (Xi T2 890 1) ⟨by omega, by omega⟩ _) ?_
        rintro _ _ ⟨rfl, z54, rfl, w54, w53⟩
        show Rl _ _ _ _ _ [iv z54, .ref 890] _ _
        refine l_pfi rfl rfl rfl rfl ?_
        obtain ⟨U5, eU5⟩ : ∃ T : sS, T = uI T2 890 1 (Int32.ofInt z54) := ⟨_, rfl⟩
        rw [← eU5]
        have hHU5 : HI U5 := by rw [eU5]; exact HI_w hHT2 (show 0 ≤ z54 by omega) (show z54 ≤ 5130 by omega)
        have hFU5 : FR md_gr_takeThing S U5 := by rw [eU5]; exact FR.wI hFT2 (mdf_i (r := (890, 891, 1, 2)) (List.mem_of_getElem? (i := 0) rfl) (inR_i (by omega) (by omega) (by omega) (by omega)))
        have w55 : Xi U5 890 1 = z54 := by rw [eU5]; exact Xi_same (by unfold rg; omega)
        have hs2 : SAY U5 (Xi U5 890 1) := SAY_artw eU5 (by assumption) (by assumption) (by omega) (by omega)
        refine l_iload_n rfl rfl ?_
        refine l_if_eq rfl rfl (by unfold rg; omega) (fun w56 => absurd w56 (by omega)) (fun w57 => ?_)
        · refine l_aload_n rfl rfl ?_
          refine l_bipush rfl rfl ?_
          have w58 : Xi U5 876 7 = Xi S 876 7 := (show Xi U5 876 7 = Xi T2 876 7 from by rw [eU5]; exact Xi_ne (by omega)).trans ( (show Xi T2 876 7 = Xi T1 876 7 from w22.x _ _ rfl).trans ((show Xi T1 876 7 = Xi S 876 7 from w10.x _ _ rfl)))
          have w59 : 0 ≤ Xi S 876 7 ∧ Xi S 876 7 ≤ 5130 := hH.c _ _
          have w60 : 0 ≤ Xi U5 890 1 ∧ Xi U5 890 1 ≤ 5130 := hHU5.c _ _
          refine l_callV rfl rfl rfl (t_gr_take hHU5 53 ⟨by omega, by omega⟩ (by first | assumption | omega) (by first | assumption | omega) (by first | assumption | omega) _) ?_
          rintro _ T6 ⟨hHT6, w66, z65, rfl, w65, w61, w62, w63, w64⟩
          have hFT6 : FR md_gr_takeThing S T6 := FR.tr hFU5 w66 rfl
          show Rl _ _ _ _ _ [iv z65] _ _
          refine l_if_ne rfl rfl (by unfold rg; omega) (fun w67 => ?_) (fun w68 => ?_)
          · refine l_iconst rfl ?_
            refine l_goto rfl rfl ?_
            refine l_ireturn rfl rfl ?_
            have w69 : 0 ≤ Xi T6 890 1 ∧ Xi T6 890 1 ≤ 5130 := hHT6.c _ _
            exact ⟨hHT6, hFT6, _, rfl, ⟨by omega, by omega⟩, (by first | assumption | omega), (by first | assumption | omega)⟩
          · refine l_aload_n rfl rfl ?_
            have w70 : Xi T6 876 7 = Xi S 876 7 := (show Xi T6 876 7 = Xi U5 876 7 from w66.x _ _ rfl).trans ( (show Xi U5 876 7 = Xi T2 876 7 from by rw [eU5]; exact Xi_ne (by omega)).trans ( (show Xi T2 876 7 = Xi T1 876 7 from w22.x _ _ rfl).trans ((show Xi T1 876 7 = Xi S 876 7 from w10.x _ _ rfl))))
            have w71 : 0 ≤ Xi S 876 7 ∧ Xi S 876 7 ≤ 5130 := hH.c _ _
            have w72 : 0 ≤ Xi T6 890 1 ∧ Xi T6 890 1 ≤ 5130 := hHT6.c _ _
            refine l_callV rfl rfl rfl (t_gr_takeRun hHT6 (by first | assumption | omega) (by first | assumption | omega) _) ?_
            rintro _ T7 ⟨hHT7, w77, z76, rfl, w76, w73, w74, w75⟩
            have hFT7 : FR md_gr_takeThing S T7 := FR.tr hFT6 w77 rfl
            show Rl _ _ _ _ _ [iv z76] _ _
            refine l_if_eq rfl rfl (by unfold rg; omega) (fun w78 => ?_) (fun w79 => ?_)
            · refine l_iconst rfl ?_
              refine l_ireturn rfl rfl ?_
              have w80 : 0 ≤ Xi T7 890 1 ∧ Xi T7 890 1 ≤ 5130 := hHT7.c _ _
              exact ⟨hHT7, hFT7, _, rfl, ⟨by omega, by omega⟩, (by first | assumption | omega), (by first | assumption | omega)⟩
            · refine l_iconst rfl ?_
              refine l_goto rfl rfl ?_
              refine l_ireturn rfl rfl ?_
              have w81 : 0 ≤ Xi T7 890 1 ∧ Xi T7 890 1 ≤ 5130 := hHT7.c _ _
              exact ⟨hHT7, hFT7, _, rfl, ⟨by omega, by omega⟩, (by first | assumption | omega), (by first | assumption | omega)⟩
    · refine l_iconst rfl ?_
      refine l_ireturn rfl rfl ?_
      have w82 : 0 ≤ Xi T2 890 1 ∧ Xi T2 890 1 ≤ 5130 := hHT2.c _ _
      exact ⟨hHT2, hFT2, _, rfl, ⟨by omega, by omega⟩, (by first | assumption | omega), (by first | assumption | omega)⟩
def md_gr_takeWhat : List rec := [(890, 891, 1, 2)]
abbrev Q_gr_takeWhat (S : sS) : pst := fun r S1 => HI S1 ∧ FR md_gr_takeWhat S S1 ∧ (∃ z : Int, r = some (iv z) ∧ (0 ≤ z ∧ z ≤ 1) ∧ (Xi S 890 1 ≤ Xi S1 890 1 ∧ Xi S1 890 1 ≤ Xi S 876 7) ∧ (SAY S1 (Xi S1 890 1)))
set_option maxRecDepth 100000 in
theorem t_gr_takeWhat {S : sS} (hH : HI S) (ha : Xi S 890 1 ≤ Xi S 876 7) (hs : SAY S (Xi S 890 1)) (d : Nat) : Mt lay0 (d + 3) m_gr_takeWhat [.ref 890] S (Q_gr_takeWhat S) := by
  refine Mt_R rfl rfl ?_
  have hF : FR md_gr_takeWhat S S := FR.rf
  have w1 : 0 ≤ Xi S 876 7 ∧ Xi S 876 7 ≤ 5130 := hH.c _ _
  have w2 : 0 ≤ Xi S 890 1 ∧ Xi S 890 1 ≤ 5130 := hH.c _ _
  refine l_aload_n rfl rfl ?_
  refine l_bipush rfl rfl ?_
  have w3 : 0 ≤ Xi S 876 7 ∧ Xi S 876 7 ≤ 5130 := hH.c _ _
  have w4 : 0 ≤ Xi S 890 1 ∧ Xi S 890 1 ≤ 5130 := hH.c _ _
  refine l_callV rfl rfl rfl (t_gr_take hH 101 ⟨by omega, by omega⟩ (by first | assumption | omega) (by first | assumption | omega) (by first | assumption | omega) _) ?_
  rintro _ T1 ⟨hHT1, w10, z9, rfl, w9, w5, w6, w7, w8⟩
  have hFT1 : FR md_gr_takeWhat S T1 := FR.tr hF w10 rfl
  show Rl _ _ _ _ _ [iv z9] _ _
  refine l_if_ne rfl rfl (by unfold rg; omega) (fun w11 => ?_) (fun w12 => ?_)
  · refine l_iconst rfl ?_
    refine l_goto rfl rfl ?_
    refine l_ireturn rfl rfl ?_
    have w13 : 0 ≤ Xi T1 890 1 ∧ Xi T1 890 1 ≤ 5130 := hHT1.c _ _
    exact ⟨hHT1, hFT1, _, rfl, ⟨by omega, by omega⟩, (by first | assumption | omega), (by first | assumption | omega)⟩
  · refine l_aload_n rfl rfl ?_
    refine l_bipush rfl rfl ?_
    have w14 : Xi T1 876 7 = Xi S 876 7 := (show Xi T1 876 7 = Xi S 876 7 from w10.x _ _ rfl)
    have w15 : 0 ≤ Xi S 876 7 ∧ Xi S 876 7 ≤ 5130 := hH.c _ _
    have w16 : 0 ≤ Xi T1 890 1 ∧ Xi T1 890 1 ≤ 5130 := hHT1.c _ _
    refine l_callV rfl rfl rfl (t_gr_take hHT1 102 ⟨by omega, by omega⟩ (by first | assumption | omega) (by first | assumption | omega) (by first | assumption | omega) _) ?_
    rintro _ T2 ⟨hHT2, w22, z21, rfl, w21, w17, w18, w19, w20⟩
    have hFT2 : FR md_gr_takeWhat S T2 := FR.tr hFT1 w22 rfl
    show Rl _ _ _ _ _ [iv z21] _ _
    refine l_if_ne rfl rfl (by unfold rg; omega) (fun w23 => ?_) (fun w24 => ?_)
    · refine l_iconst rfl ?_
      refine l_goto rfl rfl ?_
      refine l_ireturn rfl rfl ?_
      have w25 : 0 ≤ Xi T2 890 1 ∧ Xi T2 890 1 ≤ 5130 := hHT2.c _ _
      exact ⟨hHT2, hFT2, _, rfl, ⟨by omega, by omega⟩, (by first | assumption | omega), (by first | assumption | omega)⟩
    · refine l_aload_n rfl rfl ?_
      have w26 : Xi T2 876 7 = Xi S 876 7 := (show Xi T2 876 7 = Xi T1 876 7 from w22.x _ _ rfl).trans ((show Xi T1 876 7 = Xi S 876 7 from w10.x _ _ rfl))
      have w27 : 0 ≤ Xi S 876 7 ∧ Xi S 876 7 ≤ 5130 := hH.c _ _
      have w28 : 0 ≤ Xi T2 890 1 ∧ Xi T2 890 1 ≤ 5130 := hHT2.c _ _
      refine l_callV rfl rfl rfl (t_gr_takeRun hHT2 (by first | assumption | omega) (by first | assumption | omega) _) ?_
      rintro _ T3 ⟨hHT3, w33, z32, rfl, w32, w29, w30, w31⟩
      have hFT3 : FR md_gr_takeWhat S T3 := FR.tr hFT2 w33 rfl
      show Rl _ _ _ _ _ [iv z32] _ _
      refine l_if_eq rfl rfl (by unfold rg; omega) (fun w34 => ?_) (fun w35 => ?_)
      · refine l_iconst rfl ?_
        refine l_ireturn rfl rfl ?_
        have w36 : 0 ≤ Xi T3 890 1 ∧ Xi T3 890 1 ≤ 5130 := hHT3.c _ _
        exact ⟨hHT3, hFT3, _, rfl, ⟨by omega, by omega⟩, (by first | assumption | omega), (by first | assumption | omega)⟩
      · refine l_iconst rfl ?_
        refine l_goto rfl rfl ?_
        refine l_ireturn rfl rfl ?_
        have w37 : 0 ≤ Xi T3 890 1 ∧ Xi T3 890 1 ≤ 5130 := hHT3.c _ _
        exact ⟨hHT3, hFT3, _, rfl, ⟨by omega, by omega⟩, (by first | assumption | omega), (by first | assumption | omega)⟩
def md_gr_takeLoose : List rec := [(890, 891, 1, 2)]
abbrev Q_gr_takeLoose (S : sS) (one : Int) (other : Int) : pst := fun r S1 => HI S1 ∧ FR md_gr_takeLoose S S1 ∧ (∃ z : Int, r = some (iv z) ∧ (0 ≤ z ∧ z ≤ 1) ∧ (Xi S 890 1 ≤ Xi S1 890 1 ∧ Xi S1 890 1 ≤ Xi S 876 7) ∧ (SAY S1 (Xi S1 890 1)))
set_option maxRecDepth 100000 in
theorem t_gr_takeLoose {S : sS} (hH : HI S) (one : Int) (other : Int) (hone : 0 ≤ one ∧ one ≤ 106) (hother : 0 ≤ other ∧ other ≤ 106) (ha : Xi S 890 1 ≤ Xi S 876 7) (hs : SAY S (Xi S 890 1)) (h1 : one ≠ 43) (h2 : other ≠ 43) (d : Nat) : Mt lay0 (d + 2) m_gr_takeLoose [.ref 890, iv one, iv other] S (Q_gr_takeLoose S one other) := by
  refine Mt_R rfl rfl ?_
  have hF : FR md_gr_takeLoose S S := FR.rf
  have w1 : 0 ≤ Xi S 876 7 ∧ Xi S 876 7 ≤ 5130 := hH.c _ _
  have w2 : 0 ≤ Xi S 890 1 ∧ Xi S 890 1 ≤ 5130 := hH.c _ _
  have C18 : ∀ (n18 : Nat) (T1 : sS) (_ : HI T1) (_ : FR md_gr_takeLoose S T1) (v3 : Int) (v4 : Int), (0 ≤ v3 ∧ v3 ≤ 5130) → (0 ≤ v4 ∧ v4 ≤ 108) → (SAY T1 (Xi T1 890 1)) → (Xi S 890 1 ≤ Xi T1 890 1 ∧ Xi T1 890 1 ≤ Xi S 876 7) → (v3 = Xi S 890 1) → (v4 ≠ 107 → Xi T1 890 1 < Xi S 876 7 ∧ v4 = Xi T1 877 (Xi T1 890 1).toNat) → n18 = (5131 - Xi T1 890 1).toNat → Rl lay0 (d + 1) m_gr_takeLoose 18 [(0, .ref 890), (1, iv one), (2, iv other), (3, iv v3), (4, iv v4)] [] T1 (Q_gr_takeLoose S one other) := by
    intro n18
    induction n18 using Nat.strongRecOn with
    | ind n18 ih18 =>
      intro T1 hHT1 hFT1 v3 v4 w3 w4 hs18 w5 w6 w7 hm18
      have w8 : Xi T1 876 7 = Xi S 876 7 := hFT1.x _ _ rfl
      have w9 : 0 ≤ Xi T1 890 1 ∧ Xi T1 890 1 ≤ 5130 := hHT1.c _ _
      refine l_aload_n rfl rfl ?_
      refine l_gfi rfl rfl rfl rfl rfl ?_
      refine l_iload_n rfl rfl ?_
      refine l_sipush rfl rfl ?_
      refine l_iadd rfl ?_
      refine l_icmp_ge rfl rfl (by unfold rg; omega) (by unfold rg; omega) (fun w10 => ?_) (fun w11 => ?_)
      · refine l_aload_n rfl rfl ?_
        refine l_gfi rfl rfl rfl rfl rfl ?_
        refine l_iload_n rfl rfl ?_
        refine l_icmp_le rfl rfl (by unfold rg; omega) (by unfold rg; omega) (fun w12 => ?_) (fun w13 => ?_)
        · refine l_iconst rfl ?_
          refine l_ireturn rfl rfl ?_
          have w14 : 0 ≤ Xi T1 890 1 ∧ Xi T1 890 1 ≤ 5130 := hHT1.c _ _
          exact ⟨hHT1, hFT1, _, rfl, ⟨by omega, by omega⟩, (by first | assumption | omega), (by first | assumption | omega)⟩
        · refine l_iconst rfl ?_
          refine l_goto rfl rfl ?_
          refine l_ireturn rfl rfl ?_
          have w15 : 0 ≤ Xi T1 890 1 ∧ Xi T1 890 1 ≤ 5130 := hHT1.c _ _
          exact ⟨hHT1, hFT1, _, rfl, ⟨by omega, by omega⟩, (by first | assumption | omega), (by first | assumption | omega)⟩
      · refine l_iload rfl rfl ?_
        refine l_bipush rfl rfl ?_
        refine l_icmp_eq rfl rfl (by unfold rg; omega) (by unfold rg; omega) (fun w16 => ?_) (fun w17 => ?_)
        · refine l_aload_n rfl rfl ?_
          refine l_dup rfl rfl ?_
          refine l_gfi rfl rfl rfl rfl rfl ?_
          refine l_iconst rfl ?_
          refine l_iadd rfl ?_
          refine l_pfi rfl rfl rfl rfl ?_
          obtain ⟨U2, eU2⟩ : ∃ T : sS, T = uI T1 890 1 (Int32.ofInt ((Xi T1 890 1) + 1)) := ⟨_, rfl⟩
          rw [← eU2]
          have hHU2 : HI U2 := by rw [eU2]; exact HI_w hHT1 (show 0 ≤ ((Xi T1 890 1) + 1) by omega) (show ((Xi T1 890 1) + 1) ≤ 5130 by omega)
          have hFU2 : FR md_gr_takeLoose S U2 := by rw [eU2]; exact FR.wI hFT1 (mdf_i (r := (890, 891, 1, 2)) (List.mem_of_getElem? (i := 0) rfl) (inR_i (by omega) (by omega) (by omega) (by omega)))
          have w18 : Xi U2 890 1 = ((Xi T1 890 1) + 1) := by rw [eU2]; exact Xi_same (by unfold rg; omega)
          refine l_aload_n rfl rfl ?_
          refine l_gfr rfl rfl rfl rfl rfl (hHU2.r 890 0 876 rfl) ?_
          refine l_aload_n rfl rfl ?_
          refine l_gfi rfl rfl rfl rfl rfl ?_
          have w19 : Xi U2 876 7 = Xi T1 876 7 := (show Xi U2 876 7 = Xi T1 876 7 from by rw [eU2]; exact Xi_ne (by omega))
          have w20 : 0 ≤ Xi T1 876 7 ∧ Xi T1 876 7 ≤ 5130 := hHT1.c _ _
          refine l_callV rfl rfl rfl (t_to_typeAt hHU2 (Xi U2 890 1) ⟨by omega, by omega⟩ _) ?_
          rintro _ _ ⟨rfl, z22, rfl, w22, w21⟩
          show Rl _ _ _ _ _ [iv z22] _ _
          refine l_istore rfl rfl rfl ?_
          refine l_goto rfl rfl ?_
          have w23 : 0 ≤ Xi U2 890 1 ∧ Xi U2 890 1 ≤ 5130 := hHU2.c _ _
          exact Rl_weak (ih18 _ (by omega) U2 hHU2 hFU2 (v3) (z22) (by omega) (by omega) (by first | assumption | exact SAY_1w eU2 (by assumption) hs18 (by omega) (by omega) (by omega)) (by omega) (by omega) (by omega) rfl) (And.intro rfl (And.intro rfl (And.intro rfl (And.intro rfl (And.intro rfl (True.intro))))))
        · refine l_iload rfl rfl ?_
          refine l_callS rfl rfl (by decide) rfl (t_rs_isArt hHT1 v4 ⟨by omega, by omega⟩ _) ?_
          rintro _ _ ⟨rfl, z25, rfl, w25, w24⟩
          show Rl _ _ _ _ _ [iv z25] _ _
          refine l_if_ne rfl rfl (by unfold rg; omega) (fun w26 => ?_) (fun w27 => ?_)
          · refine l_aload_n rfl rfl ?_
            refine l_dup rfl rfl ?_
            refine l_gfi rfl rfl rfl rfl rfl ?_
            refine l_iconst rfl ?_
            refine l_iadd rfl ?_
            refine l_pfi rfl rfl rfl rfl ?_
            obtain ⟨U3, eU3⟩ : ∃ T : sS, T = uI T1 890 1 (Int32.ofInt ((Xi T1 890 1) + 1)) := ⟨_, rfl⟩
            rw [← eU3]
            have hHU3 : HI U3 := by rw [eU3]; exact HI_w hHT1 (show 0 ≤ ((Xi T1 890 1) + 1) by omega) (show ((Xi T1 890 1) + 1) ≤ 5130 by omega)
            have hFU3 : FR md_gr_takeLoose S U3 := by rw [eU3]; exact FR.wI hFT1 (mdf_i (r := (890, 891, 1, 2)) (List.mem_of_getElem? (i := 0) rfl) (inR_i (by omega) (by omega) (by omega) (by omega)))
            have w28 : Xi U3 890 1 = ((Xi T1 890 1) + 1) := by rw [eU3]; exact Xi_same (by unfold rg; omega)
            refine l_aload_n rfl rfl ?_
            refine l_gfr rfl rfl rfl rfl rfl (hHU3.r 890 0 876 rfl) ?_
            refine l_aload_n rfl rfl ?_
            refine l_gfi rfl rfl rfl rfl rfl ?_
            have w29 : Xi U3 876 7 = Xi T1 876 7 := (show Xi U3 876 7 = Xi T1 876 7 from by rw [eU3]; exact Xi_ne (by omega))
            have w30 : 0 ≤ Xi T1 876 7 ∧ Xi T1 876 7 ≤ 5130 := hHT1.c _ _
            refine l_callV rfl rfl rfl (t_to_typeAt hHU3 (Xi U3 890 1) ⟨by omega, by omega⟩ _) ?_
            rintro _ _ ⟨rfl, z32, rfl, w32, w31⟩
            show Rl _ _ _ _ _ [iv z32] _ _
            refine l_istore rfl rfl rfl ?_
            refine l_goto rfl rfl ?_
            have w33 : 0 ≤ Xi U3 890 1 ∧ Xi U3 890 1 ≤ 5130 := hHU3.c _ _
            exact Rl_weak (ih18 _ (by omega) U3 hHU3 hFU3 (v3) (z32) (by omega) (by omega) (by first | assumption | exact SAY_1w eU3 (by assumption) hs18 (by omega) (by omega) (by omega)) (by omega) (by omega) (by omega) rfl) (And.intro rfl (And.intro rfl (And.intro rfl (And.intro rfl (And.intro rfl (True.intro))))))
          · refine l_iload rfl rfl ?_
            refine l_iload_n rfl rfl ?_
            refine l_icmp_eq rfl rfl (by unfold rg; omega) (by unfold rg; omega) (fun w34 => ?_) (fun w35 => ?_)
            · refine l_aload_n rfl rfl ?_
              refine l_dup rfl rfl ?_
              refine l_gfi rfl rfl rfl rfl rfl ?_
              refine l_iconst rfl ?_
              refine l_iadd rfl ?_
              refine l_pfi rfl rfl rfl rfl ?_
              obtain ⟨U4, eU4⟩ : ∃ T : sS, T = uI T1 890 1 (Int32.ofInt ((Xi T1 890 1) + 1)) := ⟨_, rfl⟩
              rw [← eU4]
              have hHU4 : HI U4 := by rw [eU4]; exact HI_w hHT1 (show 0 ≤ ((Xi T1 890 1) + 1) by omega) (show ((Xi T1 890 1) + 1) ≤ 5130 by omega)
              have hFU4 : FR md_gr_takeLoose S U4 := by rw [eU4]; exact FR.wI hFT1 (mdf_i (r := (890, 891, 1, 2)) (List.mem_of_getElem? (i := 0) rfl) (inR_i (by omega) (by omega) (by omega) (by omega)))
              have w36 : Xi U4 890 1 = ((Xi T1 890 1) + 1) := by rw [eU4]; exact Xi_same (by unfold rg; omega)
              refine l_aload_n rfl rfl ?_
              refine l_gfr rfl rfl rfl rfl rfl (hHU4.r 890 0 876 rfl) ?_
              refine l_aload_n rfl rfl ?_
              refine l_gfi rfl rfl rfl rfl rfl ?_
              have w37 : Xi U4 876 7 = Xi T1 876 7 := (show Xi U4 876 7 = Xi T1 876 7 from by rw [eU4]; exact Xi_ne (by omega))
              have w38 : 0 ≤ Xi T1 876 7 ∧ Xi T1 876 7 ≤ 5130 := hHT1.c _ _
              refine l_callV rfl rfl rfl (t_to_typeAt hHU4 (Xi U4 890 1) ⟨by omega, by omega⟩ _) ?_
              rintro _ _ ⟨rfl, z40, rfl, w40, w39⟩
              show Rl _ _ _ _ _ [iv z40] _ _
              refine l_istore rfl rfl rfl ?_
              refine l_goto rfl rfl ?_
              have w41 : 0 ≤ Xi U4 890 1 ∧ Xi U4 890 1 ≤ 5130 := hHU4.c _ _
              exact Rl_weak (ih18 _ (by omega) U4 hHU4 hFU4 (v3) (z40) (by omega) (by omega) (by first | assumption | exact SAY_1w eU4 (by assumption) hs18 (by omega) (by omega) (by omega)) (by omega) (by omega) (by omega) rfl) (And.intro rfl (And.intro rfl (And.intro rfl (And.intro rfl (And.intro rfl (True.intro))))))
            · refine l_iload rfl rfl ?_
              refine l_iload_n rfl rfl ?_
              refine l_icmp_ne rfl rfl (by unfold rg; omega) (by unfold rg; omega) (fun w42 => ?_) (fun w43 => ?_)
              · refine l_aload_n rfl rfl ?_
                refine l_gfi rfl rfl rfl rfl rfl ?_
                refine l_iload_n rfl rfl ?_
                refine l_icmp_le rfl rfl (by unfold rg; omega) (by unfold rg; omega) (fun w44 => ?_) (fun w45 => ?_)
                · refine l_iconst rfl ?_
                  refine l_ireturn rfl rfl ?_
                  have w46 : 0 ≤ Xi T1 890 1 ∧ Xi T1 890 1 ≤ 5130 := hHT1.c _ _
                  exact ⟨hHT1, hFT1, _, rfl, ⟨by omega, by omega⟩, (by first | assumption | omega), (by first | assumption | omega)⟩
                · refine l_iconst rfl ?_
                  refine l_goto rfl rfl ?_
                  refine l_ireturn rfl rfl ?_
                  have w47 : 0 ≤ Xi T1 890 1 ∧ Xi T1 890 1 ≤ 5130 := hHT1.c _ _
                  exact ⟨hHT1, hFT1, _, rfl, ⟨by omega, by omega⟩, (by first | assumption | omega), (by first | assumption | omega)⟩
              · refine l_aload_n rfl rfl ?_
                refine l_dup rfl rfl ?_
                refine l_gfi rfl rfl rfl rfl rfl ?_
                refine l_iconst rfl ?_
                refine l_iadd rfl ?_
                refine l_pfi rfl rfl rfl rfl ?_
                obtain ⟨U5, eU5⟩ : ∃ T : sS, T = uI T1 890 1 (Int32.ofInt ((Xi T1 890 1) + 1)) := ⟨_, rfl⟩
                rw [← eU5]
                have hHU5 : HI U5 := by rw [eU5]; exact HI_w hHT1 (show 0 ≤ ((Xi T1 890 1) + 1) by omega) (show ((Xi T1 890 1) + 1) ≤ 5130 by omega)
                have hFU5 : FR md_gr_takeLoose S U5 := by rw [eU5]; exact FR.wI hFT1 (mdf_i (r := (890, 891, 1, 2)) (List.mem_of_getElem? (i := 0) rfl) (inR_i (by omega) (by omega) (by omega) (by omega)))
                have w48 : Xi U5 890 1 = ((Xi T1 890 1) + 1) := by rw [eU5]; exact Xi_same (by unfold rg; omega)
                refine l_aload_n rfl rfl ?_
                refine l_gfr rfl rfl rfl rfl rfl (hHU5.r 890 0 876 rfl) ?_
                refine l_aload_n rfl rfl ?_
                refine l_gfi rfl rfl rfl rfl rfl ?_
                have w49 : Xi U5 876 7 = Xi T1 876 7 := (show Xi U5 876 7 = Xi T1 876 7 from by rw [eU5]; exact Xi_ne (by omega))
                have w50 : 0 ≤ Xi T1 876 7 ∧ Xi T1 876 7 ≤ 5130 := hHT1.c _ _
                refine l_callV rfl rfl rfl (t_to_typeAt hHU5 (Xi U5 890 1) ⟨by omega, by omega⟩ _) ?_
                rintro _ _ ⟨rfl, z52, rfl, w52, w51⟩
                show Rl _ _ _ _ _ [iv z52] _ _
                refine l_istore rfl rfl rfl ?_
                refine l_goto rfl rfl ?_
                have w53 : 0 ≤ Xi U5 890 1 ∧ Xi U5 890 1 ≤ 5130 := hHU5.c _ _
                exact Rl_weak (ih18 _ (by omega) U5 hHU5 hFU5 (v3) (z52) (by omega) (by omega) (by first | assumption | exact SAY_1w eU5 (by assumption) hs18 (by omega) (by omega) (by omega)) (by omega) (by omega) (by omega) rfl) (And.intro rfl (And.intro rfl (And.intro rfl (And.intro rfl (And.intro rfl (True.intro))))))
  refine l_aload_n rfl rfl ?_
  refine l_gfi rfl rfl rfl rfl rfl ?_
  refine l_istore_n rfl rfl rfl ?_
  refine l_aload_n rfl rfl ?_
  refine l_gfr rfl rfl rfl rfl rfl (hH.r 890 0 876 rfl) ?_
  refine l_aload_n rfl rfl ?_
  refine l_gfi rfl rfl rfl rfl rfl ?_
  have w54 : 0 ≤ Xi S 876 7 ∧ Xi S 876 7 ≤ 5130 := hH.c _ _
  refine l_callV rfl rfl rfl (t_to_typeAt hH (Xi S 890 1) ⟨by omega, by omega⟩ _) ?_
  rintro _ _ ⟨rfl, z56, rfl, w56, w55⟩
  show Rl _ _ _ _ _ [iv z56] _ _
  refine l_istore rfl rfl rfl ?_
  have w57 : 0 ≤ Xi S 890 1 ∧ Xi S 890 1 ≤ 5130 := hH.c _ _
  exact Rl_weak (C18 _ S hH hF ((Xi S 890 1)) (z56) (by omega) (by omega) (by first | assumption | exact SAY_1w rfl (by assumption) hs18 (by omega) (by omega) (by omega)) (by omega) (by omega) (by omega) rfl) (And.intro rfl (And.intro rfl (And.intro rfl (And.intro rfl (And.intro rfl (True.intro))))))
def md_gr_takePlace : List rec := [(890, 891, 1, 2)]
abbrev Q_gr_takePlace (S : sS) (any : Int) : pst := fun r S1 => HI S1 ∧ FR md_gr_takePlace S S1 ∧ (∃ z : Int, r = some (iv z) ∧ (0 ≤ z ∧ z ≤ 1) ∧ (Xi S 890 1 ≤ Xi S1 890 1 ∧ Xi S1 890 1 ≤ Xi S 876 7) ∧ (SAY S1 (Xi S1 890 1)))
set_option maxRecDepth 100000 in
theorem t_gr_takePlace {S : sS} (hH : HI S) (any : Int) (hany : 0 ≤ any ∧ any ≤ 1) (ha : Xi S 890 1 ≤ Xi S 876 7) (hs : SAY S (Xi S 890 1)) (hp : Xi S 890 1 < Xi S 876 7 ∧ Xi S 877 (Xi S 890 1).toNat ≠ 43) (d : Nat) : Mt lay0 (d + 4) m_gr_takePlace [.ref 890, iv any] S (Q_gr_takePlace S any) := by
  refine Mt_R rfl rfl ?_
  have hF : FR md_gr_takePlace S S := FR.rf
  have w1 : 0 ≤ Xi S 876 7 ∧ Xi S 876 7 ≤ 5130 := hH.c _ _
  have w2 : 0 ≤ Xi S 890 1 ∧ Xi S 890 1 ≤ 5130 := hH.c _ _
  refine l_aload_n rfl rfl ?_
  refine l_gfr rfl rfl rfl rfl rfl (hH.r 890 0 876 rfl) ?_
  refine l_aload_n rfl rfl ?_
  refine l_gfi rfl rfl rfl rfl rfl ?_
  have w3 : 0 ≤ Xi S 876 7 ∧ Xi S 876 7 ≤ 5130 := hH.c _ _
  refine l_callV rfl rfl rfl (t_to_typeAt hH (Xi S 890 1) ⟨by omega, by omega⟩ _) ?_
  rintro _ _ ⟨rfl, z5, rfl, w5, w4⟩
  show Rl _ _ _ _ _ [iv z5] _ _
  refine l_istore_n rfl rfl rfl ?_
  refine l_aload_n rfl rfl ?_
  refine l_dup rfl rfl ?_
  refine l_gfi rfl rfl rfl rfl rfl ?_
  refine l_iconst rfl ?_
  refine l_iadd rfl ?_
  refine l_pfi rfl rfl rfl rfl ?_
  obtain ⟨U1, eU1⟩ : ∃ T : sS, T = uI S 890 1 (Int32.ofInt ((Xi S 890 1) + 1)) := ⟨_, rfl⟩
  rw [← eU1]
  have hHU1 : HI U1 := by rw [eU1]; exact HI_w hH (show 0 ≤ ((Xi S 890 1) + 1) by omega) (show ((Xi S 890 1) + 1) ≤ 5130 by omega)
  have hFU1 : FR md_gr_takePlace S U1 := by rw [eU1]; exact FR.wI hF (mdf_i (r := (890, 891, 1, 2)) (List.mem_of_getElem? (i := 0) rfl) (inR_i (by omega) (by omega) (by omega) (by omega)))
  have w6 : Xi U1 890 1 = ((Xi S 890 1) + 1) := by rw [eU1]; exact Xi_same (by unfold rg; omega)
  have hs2 : SAY U1 (Xi U1 890 1) := SAY_1w eU1 (by assumption) hs (by omega) (by omega) (by omega)
  refine l_iload_n rfl rfl ?_
  refine l_bipush rfl rfl ?_
  refine l_icmp_ne rfl rfl (by unfold rg; omega) (by unfold rg; omega) (fun w7 => ?_) (fun w8 => ?_)
  · refine l_iload_n rfl rfl ?_
    refine l_bipush rfl rfl ?_
    refine l_icmp_eq rfl rfl (by unfold rg; omega) (by unfold rg; omega) (fun w9 => ?_) (fun w10 => ?_)
    · refine l_aload_n rfl rfl ?_
      refine l_bipush rfl rfl ?_
      have w11 : Xi U1 876 7 = Xi S 876 7 := (show Xi U1 876 7 = Xi S 876 7 from by rw [eU1]; exact Xi_ne (by omega))
      have w12 : 0 ≤ Xi S 876 7 ∧ Xi S 876 7 ≤ 5130 := hH.c _ _
      have w13 : 0 ≤ Xi U1 890 1 ∧ Xi U1 890 1 ≤ 5130 := hHU1.c _ _
      refine l_callV rfl rfl rfl (t_gr_take hHU1 10 ⟨by omega, by omega⟩ (by first | assumption | omega) (by first | assumption | omega) (by first | assumption | omega) _) ?_
      rintro _ T2 ⟨hHT2, w19, z18, rfl, w18, w14, w15, w16, w17⟩
      have hFT2 : FR md_gr_takePlace S T2 := FR.tr hFU1 w19 rfl
      show Rl _ _ _ _ _ [iv z18] _ _
      refine l_if_ne rfl rfl (by unfold rg; omega) (fun w20 => ?_) (fun w21 => ?_)
      · refine l_iload_n rfl rfl ?_
        refine l_if_eq rfl rfl (by unfold rg; omega) (fun w22 => ?_) (fun w23 => ?_)
        · refine l_aload_n rfl rfl ?_
          have w24 : Xi T2 876 7 = Xi S 876 7 := (show Xi T2 876 7 = Xi U1 876 7 from w19.x _ _ rfl).trans ((show Xi U1 876 7 = Xi S 876 7 from by rw [eU1]; exact Xi_ne (by omega)))
          have w25 : 0 ≤ Xi S 876 7 ∧ Xi S 876 7 ≤ 5130 := hH.c _ _
          have w26 : 0 ≤ Xi T2 890 1 ∧ Xi T2 890 1 ≤ 5130 := hHT2.c _ _
          refine l_callV rfl rfl rfl (t_gr_takeName hHT2 (by first | assumption | omega) (by first | assumption | omega) _) ?_
          rintro _ T3 ⟨hHT3, w30, z29, rfl, w29, w27, w28⟩
          have hFT3 : FR md_gr_takePlace S T3 := FR.tr hFT2 w30 rfl
          show Rl _ _ _ _ _ [iv z29] _ _
          refine l_ireturn rfl (retI_z (by omega)) ?_
          have w31 : 0 ≤ Xi T3 890 1 ∧ Xi T3 890 1 ≤ 5130 := hHT3.c _ _
          exact ⟨hHT3, hFT3, _, rfl, ⟨by omega, by omega⟩, (by first | assumption | omega), (by first | assumption | omega)⟩
        · refine l_aload_n rfl rfl ?_
          have w32 : Xi T2 876 7 = Xi S 876 7 := (show Xi T2 876 7 = Xi U1 876 7 from w19.x _ _ rfl).trans ((show Xi U1 876 7 = Xi S 876 7 from by rw [eU1]; exact Xi_ne (by omega)))
          have w33 : 0 ≤ Xi S 876 7 ∧ Xi S 876 7 ≤ 5130 := hH.c _ _
          have w34 : 0 ≤ Xi T2 890 1 ∧ Xi T2 890 1 ≤ 5130 := hHT2.c _ _
          refine l_callV rfl rfl rfl (t_gr_takeThing hHT2 (by first | assumption | omega) (by first | assumption | omega) _) ?_
          rintro _ T4 ⟨hHT4, w38, z37, rfl, w37, w35, w36⟩
          have hFT4 : FR md_gr_takePlace S T4 := FR.tr hFT2 w38 rfl
          show Rl _ _ _ _ _ [iv z37] _ _
          refine l_goto rfl rfl ?_
          refine l_ireturn rfl (retI_z (by omega)) ?_
          have w39 : 0 ≤ Xi T4 890 1 ∧ Xi T4 890 1 ≤ 5130 := hHT4.c _ _
          exact ⟨hHT4, hFT4, _, rfl, ⟨by omega, by omega⟩, (by first | assumption | omega), (by first | assumption | omega)⟩
      · refine l_iconst rfl ?_
        refine l_ireturn rfl rfl ?_
        have w40 : 0 ≤ Xi T2 890 1 ∧ Xi T2 890 1 ≤ 5130 := hHT2.c _ _
        exact ⟨hHT2, hFT2, _, rfl, ⟨by omega, by omega⟩, (by first | assumption | omega), (by first | assumption | omega)⟩
    · refine l_iload_n rfl rfl ?_
      refine l_bipush rfl rfl ?_
      refine l_icmp_ne rfl rfl (by unfold rg; omega) (by unfold rg; omega) (fun w41 => ?_) (fun w42 => ?_)
      · refine l_iload_n rfl rfl ?_
        refine l_if_eq rfl rfl (by unfold rg; omega) (fun w43 => ?_) (fun w44 => ?_)
        · refine l_aload_n rfl rfl ?_
          have w45 : Xi U1 876 7 = Xi S 876 7 := (show Xi U1 876 7 = Xi S 876 7 from by rw [eU1]; exact Xi_ne (by omega))
          have w46 : 0 ≤ Xi S 876 7 ∧ Xi S 876 7 ≤ 5130 := hH.c _ _
          have w47 : 0 ≤ Xi U1 890 1 ∧ Xi U1 890 1 ≤ 5130 := hHU1.c _ _
          refine l_callV rfl rfl rfl (t_gr_takeName hHU1 (by first | assumption | omega) (by first | assumption | omega) _) ?_
          rintro _ T5 ⟨hHT5, w51, z50, rfl, w50, w48, w49⟩
          have hFT5 : FR md_gr_takePlace S T5 := FR.tr hFU1 w51 rfl
          show Rl _ _ _ _ _ [iv z50] _ _
          refine l_ireturn rfl (retI_z (by omega)) ?_
          have w52 : 0 ≤ Xi T5 890 1 ∧ Xi T5 890 1 ≤ 5130 := hHT5.c _ _
          exact ⟨hHT5, hFT5, _, rfl, ⟨by omega, by omega⟩, (by first | assumption | omega), (by first | assumption | omega)⟩
        · refine l_aload_n rfl rfl ?_
          have w53 : Xi U1 876 7 = Xi S 876 7 := (show Xi U1 876 7 = Xi S 876 7 from by rw [eU1]; exact Xi_ne (by omega))
          have w54 : 0 ≤ Xi S 876 7 ∧ Xi S 876 7 ≤ 5130 := hH.c _ _
          have w55 : 0 ≤ Xi U1 890 1 ∧ Xi U1 890 1 ≤ 5130 := hHU1.c _ _
          refine l_callV rfl rfl rfl (t_gr_takeThing hHU1 (by first | assumption | omega) (by first | assumption | omega) _) ?_
          rintro _ T6 ⟨hHT6, w59, z58, rfl, w58, w56, w57⟩
          have hFT6 : FR md_gr_takePlace S T6 := FR.tr hFU1 w59 rfl
          show Rl _ _ _ _ _ [iv z58] _ _
          refine l_goto rfl rfl ?_
          refine l_ireturn rfl (retI_z (by omega)) ?_
          have w60 : 0 ≤ Xi T6 890 1 ∧ Xi T6 890 1 ≤ 5130 := hHT6.c _ _
          exact ⟨hHT6, hFT6, _, rfl, ⟨by omega, by omega⟩, (by first | assumption | omega), (by first | assumption | omega)⟩
      · refine l_aload_n rfl rfl ?_
        refine l_bipush rfl rfl ?_
        have w61 : Xi U1 876 7 = Xi S 876 7 := (show Xi U1 876 7 = Xi S 876 7 from by rw [eU1]; exact Xi_ne (by omega))
        have w62 : 0 ≤ Xi S 876 7 ∧ Xi S 876 7 ≤ 5130 := hH.c _ _
        have w63 : 0 ≤ Xi U1 890 1 ∧ Xi U1 890 1 ≤ 5130 := hHU1.c _ _
        refine l_callV rfl rfl rfl (t_gr_take hHU1 10 ⟨by omega, by omega⟩ (by first | assumption | omega) (by first | assumption | omega) (by first | assumption | omega) _) ?_
        rintro _ T7 ⟨hHT7, w69, z68, rfl, w68, w64, w65, w66, w67⟩
        have hFT7 : FR md_gr_takePlace S T7 := FR.tr hFU1 w69 rfl
        show Rl _ _ _ _ _ [iv z68] _ _
        refine l_if_ne rfl rfl (by unfold rg; omega) (fun w70 => ?_) (fun w71 => ?_)
        · refine l_iload_n rfl rfl ?_
          refine l_if_eq rfl rfl (by unfold rg; omega) (fun w72 => ?_) (fun w73 => ?_)
          · refine l_aload_n rfl rfl ?_
            have w74 : Xi T7 876 7 = Xi S 876 7 := (show Xi T7 876 7 = Xi U1 876 7 from w69.x _ _ rfl).trans ((show Xi U1 876 7 = Xi S 876 7 from by rw [eU1]; exact Xi_ne (by omega)))
            have w75 : 0 ≤ Xi S 876 7 ∧ Xi S 876 7 ≤ 5130 := hH.c _ _
            have w76 : 0 ≤ Xi T7 890 1 ∧ Xi T7 890 1 ≤ 5130 := hHT7.c _ _
            refine l_callV rfl rfl rfl (t_gr_takeName hHT7 (by first | assumption | omega) (by first | assumption | omega) _) ?_
            rintro _ T8 ⟨hHT8, w80, z79, rfl, w79, w77, w78⟩
            have hFT8 : FR md_gr_takePlace S T8 := FR.tr hFT7 w80 rfl
            show Rl _ _ _ _ _ [iv z79] _ _
            refine l_ireturn rfl (retI_z (by omega)) ?_
            have w81 : 0 ≤ Xi T8 890 1 ∧ Xi T8 890 1 ≤ 5130 := hHT8.c _ _
            exact ⟨hHT8, hFT8, _, rfl, ⟨by omega, by omega⟩, (by first | assumption | omega), (by first | assumption | omega)⟩
          · refine l_aload_n rfl rfl ?_
            have w82 : Xi T7 876 7 = Xi S 876 7 := (show Xi T7 876 7 = Xi U1 876 7 from w69.x _ _ rfl).trans ((show Xi U1 876 7 = Xi S 876 7 from by rw [eU1]; exact Xi_ne (by omega)))
            have w83 : 0 ≤ Xi S 876 7 ∧ Xi S 876 7 ≤ 5130 := hH.c _ _
            have w84 : 0 ≤ Xi T7 890 1 ∧ Xi T7 890 1 ≤ 5130 := hHT7.c _ _
            refine l_callV rfl rfl rfl (t_gr_takeThing hHT7 (by first | assumption | omega) (by first | assumption | omega) _) ?_
            rintro _ T9 ⟨hHT9, w88, z87, rfl, w87, w85, w86⟩
            have hFT9 : FR md_gr_takePlace S T9 := FR.tr hFT7 w88 rfl
            show Rl _ _ _ _ _ [iv z87] _ _
            refine l_goto rfl rfl ?_
            refine l_ireturn rfl (retI_z (by omega)) ?_
            have w89 : 0 ≤ Xi T9 890 1 ∧ Xi T9 890 1 ≤ 5130 := hHT9.c _ _
            exact ⟨hHT9, hFT9, _, rfl, ⟨by omega, by omega⟩, (by first | assumption | omega), (by first | assumption | omega)⟩
        · refine l_iconst rfl ?_
          refine l_ireturn rfl rfl ?_
          have w90 : 0 ≤ Xi T7 890 1 ∧ Xi T7 890 1 ≤ 5130 := hHT7.c _ _
          exact ⟨hHT7, hFT7, _, rfl, ⟨by omega, by omega⟩, (by first | assumption | omega), (by first | assumption | omega)⟩
  · refine l_aload_n rfl rfl ?_
    refine l_bipush rfl rfl ?_
    have w91 : Xi U1 876 7 = Xi S 876 7 := (show Xi U1 876 7 = Xi S 876 7 from by rw [eU1]; exact Xi_ne (by omega))
    have w92 : 0 ≤ Xi S 876 7 ∧ Xi S 876 7 ≤ 5130 := hH.c _ _
    have w93 : 0 ≤ Xi U1 890 1 ∧ Xi U1 890 1 ≤ 5130 := hHU1.c _ _
    refine l_callV rfl rfl rfl (t_gr_take hHU1 7 ⟨by omega, by omega⟩ (by first | assumption | omega) (by first | assumption | omega) (by first | assumption | omega) _) ?_
    rintro _ T10 ⟨hHT10, w99, z98, rfl, w98, w94, w95, w96, w97⟩
    have hFT10 : FR md_gr_takePlace S T10 := FR.tr hFU1 w99 rfl
    show Rl _ _ _ _ _ [iv z98] _ _
    refine l_if_eq rfl rfl (by unfold rg; omega) (fun w100 => ?_) (fun w101 => ?_)
    · refine l_iconst rfl ?_
      refine l_ireturn rfl rfl ?_
      have w102 : 0 ≤ Xi T10 890 1 ∧ Xi T10 890 1 ≤ 5130 := hHT10.c _ _
      exact ⟨hHT10, hFT10, _, rfl, ⟨by omega, by omega⟩, (by first | assumption | omega), (by first | assumption | omega)⟩
    · refine l_iload_n rfl rfl ?_
      refine l_bipush rfl rfl ?_
      refine l_icmp_eq rfl rfl (by unfold rg; omega) (by unfold rg; omega) (fun w103 => ?_) (fun w104 => ?_)
      · refine l_aload_n rfl rfl ?_
        refine l_bipush rfl rfl ?_
        have w105 : Xi T10 876 7 = Xi S 876 7 := (show Xi T10 876 7 = Xi U1 876 7 from w99.x _ _ rfl).trans ((show Xi U1 876 7 = Xi S 876 7 from by rw [eU1]; exact Xi_ne (by omega)))
        have w106 : 0 ≤ Xi S 876 7 ∧ Xi S 876 7 ≤ 5130 := hH.c _ _
        have w107 : 0 ≤ Xi T10 890 1 ∧ Xi T10 890 1 ≤ 5130 := hHT10.c _ _
        refine l_callV rfl rfl rfl (t_gr_take hHT10 10 ⟨by omega, by omega⟩ (by first | assumption | omega) (by first | assumption | omega) (by first | assumption | omega) _) ?_
        rintro _ T11 ⟨hHT11, w113, z112, rfl, w112, w108, w109, w110, w111⟩
        have hFT11 : FR md_gr_takePlace S T11 := FR.tr hFT10 w113 rfl
        show Rl _ _ _ _ _ [iv z112] _ _
        refine l_if_ne rfl rfl (by unfold rg; omega) (fun w114 => ?_) (fun w115 => ?_)
        · refine l_iload_n rfl rfl ?_
          refine l_if_eq rfl rfl (by unfold rg; omega) (fun w116 => ?_) (fun w117 => ?_)
          · refine l_aload_n rfl rfl ?_
            have w118 : Xi T11 876 7 = Xi S 876 7 := (show Xi T11 876 7 = Xi T10 876 7 from w113.x _ _ rfl).trans ( (show Xi T10 876 7 = Xi U1 876 7 from w99.x _ _ rfl).trans ((show Xi U1 876 7 = Xi S 876 7 from by rw [eU1]; exact Xi_ne (by omega))))
            have w119 : 0 ≤ Xi S 876 7 ∧ Xi S 876 7 ≤ 5130 := hH.c _ _
            have w120 : 0 ≤ Xi T11 890 1 ∧ Xi T11 890 1 ≤ 5130 := hHT11.c _ _
            refine l_callV rfl rfl rfl (t_gr_takeName hHT11 (by first | assumption | omega) (by first | assumption | omega) _) ?_
            rintro _ T12 ⟨hHT12, w124, z123, rfl, w123, w121, w122⟩
            have hFT12 : FR md_gr_takePlace S T12 := FR.tr hFT11 w124 rfl
            show Rl _ _ _ _ _ [iv z123] _ _
            refine l_ireturn rfl (retI_z (by omega)) ?_
            have w125 : 0 ≤ Xi T12 890 1 ∧ Xi T12 890 1 ≤ 5130 := hHT12.c _ _
            exact ⟨hHT12, hFT12, _, rfl, ⟨by omega, by omega⟩, (by first | assumption | omega), (by first | assumption | omega)⟩
          · refine l_aload_n rfl rfl ?_
            have w126 : Xi T11 876 7 = Xi S 876 7 := (show Xi T11 876 7 = Xi T10 876 7 from w113.x _ _ rfl).trans ( (show Xi T10 876 7 = Xi U1 876 7 from w99.x _ _ rfl).trans ((show Xi U1 876 7 = Xi S 876 7 from by rw [eU1]; exact Xi_ne (by omega))))
            have w127 : 0 ≤ Xi S 876 7 ∧ Xi S 876 7 ≤ 5130 := hH.c _ _
            have w128 : 0 ≤ Xi T11 890 1 ∧ Xi T11 890 1 ≤ 5130 := hHT11.c _ _
            refine l_callV rfl rfl rfl (t_gr_takeThing hHT11 (by first | assumption | omega) (by first | assumption | omega) _) ?_
            rintro _ T13 ⟨hHT13, w132, z131, rfl, w131, w129, w130⟩
            have hFT13 : FR md_gr_takePlace S T13 := FR.tr hFT11 w132 rfl
            show Rl _ _ _ _ _ [iv z131] _ _
            refine l_goto rfl rfl ?_
            refine l_ireturn rfl (retI_z (by omega)) ?_
            have w133 : 0 ≤ Xi T13 890 1 ∧ Xi T13 890 1 ≤ 5130 := hHT13.c _ _
            exact ⟨hHT13, hFT13, _, rfl, ⟨by omega, by omega⟩, (by first | assumption | omega), (by first | assumption | omega)⟩
        · refine l_iconst rfl ?_
          refine l_ireturn rfl rfl ?_
          have w134 : 0 ≤ Xi T11 890 1 ∧ Xi T11 890 1 ≤ 5130 := hHT11.c _ _
          exact ⟨hHT11, hFT11, _, rfl, ⟨by omega, by omega⟩, (by first | assumption | omega), (by first | assumption | omega)⟩
      · refine l_iload_n rfl rfl ?_
        refine l_bipush rfl rfl ?_
        refine l_icmp_ne rfl rfl (by unfold rg; omega) (by unfold rg; omega) (fun w135 => ?_) (fun w136 => ?_)
        · refine l_iload_n rfl rfl ?_
          refine l_if_eq rfl rfl (by unfold rg; omega) (fun w137 => ?_) (fun w138 => ?_)
          · refine l_aload_n rfl rfl ?_
            have w139 : Xi T10 876 7 = Xi S 876 7 := (show Xi T10 876 7 = Xi U1 876 7 from w99.x _ _ rfl).trans ((show Xi U1 876 7 = Xi S 876 7 from by rw [eU1]; exact Xi_ne (by omega)))
            have w140 : 0 ≤ Xi S 876 7 ∧ Xi S 876 7 ≤ 5130 := hH.c _ _
            have w141 : 0 ≤ Xi T10 890 1 ∧ Xi T10 890 1 ≤ 5130 := hHT10.c _ _
            refine l_callV rfl rfl rfl (t_gr_takeName hHT10 (by first | assumption | omega) (by first | assumption | omega) _) ?_
            rintro _ T14 ⟨hHT14, w145, z144, rfl, w144, w142, w143⟩
            have hFT14 : FR md_gr_takePlace S T14 := FR.tr hFT10 w145 rfl
            show Rl _ _ _ _ _ [iv z144] _ _
            refine l_ireturn rfl (retI_z (by omega)) ?_
            have w146 : 0 ≤ Xi T14 890 1 ∧ Xi T14 890 1 ≤ 5130 := hHT14.c _ _
            exact ⟨hHT14, hFT14, _, rfl, ⟨by omega, by omega⟩, (by first | assumption | omega), (by first | assumption | omega)⟩
          · refine l_aload_n rfl rfl ?_
            have w147 : Xi T10 876 7 = Xi S 876 7 := (show Xi T10 876 7 = Xi U1 876 7 from w99.x _ _ rfl).trans ((show Xi U1 876 7 = Xi S 876 7 from by rw [eU1]; exact Xi_ne (by omega)))
            have w148 : 0 ≤ Xi S 876 7 ∧ Xi S 876 7 ≤ 5130 := hH.c _ _
            have w149 : 0 ≤ Xi T10 890 1 ∧ Xi T10 890 1 ≤ 5130 := hHT10.c _ _
            refine l_callV rfl rfl rfl (t_gr_takeThing hHT10 (by first | assumption | omega) (by first | assumption | omega) _) ?_
            rintro _ T15 ⟨hHT15, w153, z152, rfl, w152, w150, w151⟩
            have hFT15 : FR md_gr_takePlace S T15 := FR.tr hFT10 w153 rfl
            show Rl _ _ _ _ _ [iv z152] _ _
            refine l_goto rfl rfl ?_
            refine l_ireturn rfl (retI_z (by omega)) ?_
            have w154 : 0 ≤ Xi T15 890 1 ∧ Xi T15 890 1 ≤ 5130 := hHT15.c _ _
            exact ⟨hHT15, hFT15, _, rfl, ⟨by omega, by omega⟩, (by first | assumption | omega), (by first | assumption | omega)⟩
        · refine l_aload_n rfl rfl ?_
          refine l_bipush rfl rfl ?_
          have w155 : Xi T10 876 7 = Xi S 876 7 := (show Xi T10 876 7 = Xi U1 876 7 from w99.x _ _ rfl).trans ((show Xi U1 876 7 = Xi S 876 7 from by rw [eU1]; exact Xi_ne (by omega)))
          have w156 : 0 ≤ Xi S 876 7 ∧ Xi S 876 7 ≤ 5130 := hH.c _ _
          have w157 : 0 ≤ Xi T10 890 1 ∧ Xi T10 890 1 ≤ 5130 := hHT10.c _ _
          refine l_callV rfl rfl rfl (t_gr_take hHT10 10 ⟨by omega, by omega⟩ (by first | assumption | omega) (by first | assumption | omega) (by first | assumption | omega) _) ?_
          rintro _ T16 ⟨hHT16, w163, z162, rfl, w162, w158, w159, w160, w161⟩
          have hFT16 : FR md_gr_takePlace S T16 := FR.tr hFT10 w163 rfl
          show Rl _ _ _ _ _ [iv z162] _ _
          refine l_if_ne rfl rfl (by unfold rg; omega) (fun w164 => ?_) (fun w165 => ?_)
          · refine l_iload_n rfl rfl ?_
            refine l_if_eq rfl rfl (by unfold rg; omega) (fun w166 => ?_) (fun w167 => ?_)
            · refine l_aload_n rfl rfl ?_
              have w168 : Xi T16 876 7 = Xi S 876 7 := (show Xi T16 876 7 = Xi T10 876 7 from w163.x _ _ rfl).trans ( (show Xi T10 876 7 = Xi U1 876 7 from w99.x _ _ rfl).trans ((show Xi U1 876 7 = Xi S 876 7 from by rw [eU1]; exact Xi_ne (by omega))))
              have w169 : 0 ≤ Xi S 876 7 ∧ Xi S 876 7 ≤ 5130 := hH.c _ _
              have w170 : 0 ≤ Xi T16 890 1 ∧ Xi T16 890 1 ≤ 5130 := hHT16.c _ _
              refine l_callV rfl rfl rfl (t_gr_takeName hHT16 (by first | assumption | omega) (by first | assumption | omega) _) ?_
              rintro _ T17 ⟨hHT17, w174, z173, rfl, w173, w171, w172⟩
              have hFT17 : FR md_gr_takePlace S T17 := FR.tr hFT16 w174 rfl
              show Rl _ _ _ _ _ [iv z173] _ _
              refine l_ireturn rfl (retI_z (by omega)) ?_
              have w175 : 0 ≤ Xi T17 890 1 ∧ Xi T17 890 1 ≤ 5130 := hHT17.c _ _
              exact ⟨hHT17, hFT17, _, rfl, ⟨by omega, by omega⟩, (by first | assumption | omega), (by first | assumption | omega)⟩
            · refine l_aload_n rfl rfl ?_
              have w176 : Xi T16 876 7 = Xi S 876 7 := (show Xi T16 876 7 = Xi T10 876 7 from w163.x _ _ rfl).trans ( (show Xi T10 876 7 = Xi U1 876 7 from w99.x _ _ rfl).trans ((show Xi U1 876 7 = Xi S 876 7 from by rw [eU1]; exact Xi_ne (by omega))))
              have w177 : 0 ≤ Xi S 876 7 ∧ Xi S 876 7 ≤ 5130 := hH.c _ _
              have w178 : 0 ≤ Xi T16 890 1 ∧ Xi T16 890 1 ≤ 5130 := hHT16.c _ _
              refine l_callV rfl rfl rfl (t_gr_takeThing hHT16 (by first | assumption | omega) (by first | assumption | omega) _) ?_
              rintro _ T18 ⟨hHT18, w182, z181, rfl, w181, w179, w180⟩
              have hFT18 : FR md_gr_takePlace S T18 := FR.tr hFT16 w182 rfl
              show Rl _ _ _ _ _ [iv z181] _ _
              refine l_goto rfl rfl ?_
              refine l_ireturn rfl (retI_z (by omega)) ?_
              have w183 : 0 ≤ Xi T18 890 1 ∧ Xi T18 890 1 ≤ 5130 := hHT18.c _ _
              exact ⟨hHT18, hFT18, _, rfl, ⟨by omega, by omega⟩, (by first | assumption | omega), (by first | assumption | omega)⟩
          · refine l_iconst rfl ?_
            refine l_ireturn rfl rfl ?_
            have w184 : 0 ≤ Xi T16 890 1 ∧ Xi T16 890 1 ≤ 5130 := hHT16.c _ _
            exact ⟨hHT16, hFT16, _, rfl, ⟨by omega, by omega⟩, (by first | assumption | omega), (by first | assumption | omega)⟩
def md_gr_takePropertyTest : List rec := [(890, 891, 1, 2)]
abbrev Q_gr_takePropertyTest (S : sS) (now : Int) : pst := fun r S1 => HI S1 ∧ FR md_gr_takePropertyTest S S1 ∧ (∃ z : Int, r = some (iv z) ∧ (0 ≤ z ∧ z ≤ 1) ∧ (Xi S 890 1 ≤ Xi S1 890 1 ∧ Xi S1 890 1 ≤ Xi S 876 7) ∧ (SAY S1 (Xi S1 890 1)))
set_option maxRecDepth 100000 in
theorem t_gr_takePropertyTest {S : sS} (hH : HI S) (now : Int) (hnow : 0 ≤ now ∧ now ≤ 1) (ha : Xi S 890 1 ≤ Xi S 876 7) (hs : SAY S (Xi S 890 1)) (hp : PROP S (Xi S 890 1)) (d : Nat) : Mt lay0 (d + 4) m_gr_takePropertyTest [.ref 890, iv now] S (Q_gr_takePropertyTest S now) := by
  refine Mt_R rfl rfl ?_
  have hF : FR md_gr_takePropertyTest S S := FR.rf
  have w1 : 0 ≤ Xi S 876 7 ∧ Xi S 876 7 ≤ 5130 := hH.c _ _
  have w2 : 0 ≤ Xi S 890 1 ∧ Xi S 890 1 ≤ 5130 := hH.c _ _
  refine l_aload_n rfl rfl ?_
  refine l_aload_n rfl rfl ?_
  refine l_gfr rfl rfl rfl rfl rfl (hH.r 890 0 876 rfl) ?_
  refine l_aload_n rfl rfl ?_
  refine l_gfi rfl rfl rfl rfl rfl ?_
  refine l_iconst rfl ?_
  refine l_iadd rfl ?_
  have w3 : 0 ≤ Xi S 876 7 ∧ Xi S 876 7 ≤ 5130 := hH.c _ _
  refine l_callV rfl rfl rfl (t_to_runEnd hH ((Xi S 890 1) + 1) ⟨by omega, by omega⟩ _) ?_
  rintro _ _ ⟨rfl, z10, rfl, w10, w4, w5, w6, w7, w8, w9⟩
  show Rl _ _ _ _ _ [iv z10, .ref 890] _ _
  have hpe := prop_end hp (by omega) (by assumption) (by assumption)
  refine l_iconst rfl ?_
  refine l_iadd rfl ?_
  refine l_pfi rfl rfl rfl rfl ?_
  obtain ⟨U1, eU1⟩ : ∃ T : sS, T = uI S 890 1 (Int32.ofInt (z10 + 1)) := ⟨_, rfl⟩
  rw [← eU1]
  have hHU1 : HI U1 := by rw [eU1]; exact HI_w hH (show 0 ≤ (z10 + 1) by omega) (show (z10 + 1) ≤ 5130 by omega)
  have hFU1 : FR md_gr_takePropertyTest S U1 := by rw [eU1]; exact FR.wI hF (mdf_i (r := (890, 891, 1, 2)) (List.mem_of_getElem? (i := 0) rfl) (inR_i (by omega) (by omega) (by omega) (by omega)))
  have w11 : Xi U1 890 1 = (z10 + 1) := by rw [eU1]; exact Xi_same (by unfold rg; omega)
  have hs2 : SAY U1 (Xi U1 890 1) := SAY_prop eU1 (by assumption) hs hpe (by assumption) (by omega)
  refine l_aload_n rfl rfl ?_
  have w12 : Xi U1 876 7 = Xi S 876 7 := (show Xi U1 876 7 = Xi S 876 7 from by rw [eU1]; exact Xi_ne (by omega))
  have w13 : 0 ≤ Xi S 876 7 ∧ Xi S 876 7 ≤ 5130 := hH.c _ _
  have w14 : 0 ≤ Xi U1 890 1 ∧ Xi U1 890 1 ≤ 5130 := hHU1.c _ _
  refine l_callV rfl rfl rfl (t_gr_takeThing hHU1 (by first | assumption | omega) (by first | assumption | omega) _) ?_
  rintro _ T2 ⟨hHT2, w18, z17, rfl, w17, w15, w16⟩
  have hFT2 : FR md_gr_takePropertyTest S T2 := FR.tr hFU1 w18 rfl
  show Rl _ _ _ _ _ [iv z17] _ _
  refine l_if_eq rfl rfl (by unfold rg; omega) (fun w19 => ?_) (fun w20 => ?_)
  · refine l_iconst rfl ?_
    refine l_ireturn rfl rfl ?_
    have w21 : 0 ≤ Xi T2 890 1 ∧ Xi T2 890 1 ≤ 5130 := hHT2.c _ _
    exact ⟨hHT2, hFT2, _, rfl, ⟨by omega, by omega⟩, (by first | assumption | omega), (by first | assumption | omega)⟩
  · refine l_aload_n rfl rfl ?_
    refine l_iconst rfl ?_
    have w22 : Xi T2 876 7 = Xi S 876 7 := (show Xi T2 876 7 = Xi U1 876 7 from w18.x _ _ rfl).trans ((show Xi U1 876 7 = Xi S 876 7 from by rw [eU1]; exact Xi_ne (by omega)))
    have w23 : 0 ≤ Xi S 876 7 ∧ Xi S 876 7 ≤ 5130 := hH.c _ _
    have w24 : 0 ≤ Xi T2 890 1 ∧ Xi T2 890 1 ≤ 5130 := hHT2.c _ _
    refine l_callV rfl rfl rfl (t_gr_take hHT2 4 ⟨by omega, by omega⟩ (by first | assumption | omega) (by first | assumption | omega) (by first | assumption | omega) _) ?_
    rintro _ T3 ⟨hHT3, w30, z29, rfl, w29, w25, w26, w27, w28⟩
    have hFT3 : FR md_gr_takePropertyTest S T3 := FR.tr hFT2 w30 rfl
    show Rl _ _ _ _ _ [iv z29] _ _
    refine l_if_ne rfl rfl (by unfold rg; omega) (fun w31 => ?_) (fun w32 => ?_)
    · refine l_iload_n rfl rfl ?_
      refine l_if_eq rfl rfl (by unfold rg; omega) (fun w33 => ?_) (fun w34 => ?_)
      · refine l_aload_n rfl rfl ?_
        refine l_bipush rfl rfl ?_
        have w35 : Xi T3 876 7 = Xi S 876 7 := (show Xi T3 876 7 = Xi T2 876 7 from w30.x _ _ rfl).trans ( (show Xi T2 876 7 = Xi U1 876 7 from w18.x _ _ rfl).trans ((show Xi U1 876 7 = Xi S 876 7 from by rw [eU1]; exact Xi_ne (by omega))))
        have w36 : 0 ≤ Xi S 876 7 ∧ Xi S 876 7 ≤ 5130 := hH.c _ _
        have w37 : 0 ≤ Xi T3 890 1 ∧ Xi T3 890 1 ≤ 5130 := hHT3.c _ _
        refine l_callV rfl rfl rfl (t_gr_take hHT3 51 ⟨by omega, by omega⟩ (by first | assumption | omega) (by first | assumption | omega) (by first | assumption | omega) _) ?_
        rintro _ T4 ⟨hHT4, w43, z42, rfl, w42, w38, w39, w40, w41⟩
        have hFT4 : FR md_gr_takePropertyTest S T4 := FR.tr hFT3 w43 rfl
        show Rl _ _ _ _ _ [iv z42] _ _
        refine l_if_ne rfl rfl (by unfold rg; omega) (fun w44 => ?_) (fun w45 => ?_)
        · refine l_aload_n rfl rfl ?_
          refine l_bipush rfl rfl ?_
          have w46 : Xi T4 876 7 = Xi S 876 7 := (show Xi T4 876 7 = Xi T3 876 7 from w43.x _ _ rfl).trans ( (show Xi T3 876 7 = Xi T2 876 7 from w30.x _ _ rfl).trans ( (show Xi T2 876 7 = Xi U1 876 7 from w18.x _ _ rfl).trans ((show Xi U1 876 7 = Xi S 876 7 from by rw [eU1]; exact Xi_ne (by omega)))))
          have w47 : 0 ≤ Xi S 876 7 ∧ Xi S 876 7 ≤ 5130 := hH.c _ _
          have w48 : 0 ≤ Xi T4 890 1 ∧ Xi T4 890 1 ≤ 5130 := hHT4.c _ _
          refine l_callV rfl rfl rfl (t_gr_take hHT4 50 ⟨by omega, by omega⟩ (by first | assumption | omega) (by first | assumption | omega) (by first | assumption | omega) _) ?_
          rintro _ T5 ⟨hHT5, w54, z53, rfl, w53, w49, w50, w51, w52⟩
          have hFT5 : FR md_gr_takePropertyTest S T5 := FR.tr hFT4 w54 rfl
          show Rl _ _ _ _ _ [iv z53] _ _
          refine l_if_eq rfl rfl (by unfold rg; omega) (fun w55 => ?_) (fun w56 => ?_)
          · refine l_iconst rfl ?_
            refine l_ireturn rfl rfl ?_
            have w57 : 0 ≤ Xi T5 890 1 ∧ Xi T5 890 1 ≤ 5130 := hHT5.c _ _
            exact ⟨hHT5, hFT5, _, rfl, ⟨by omega, by omega⟩, (by first | assumption | omega), (by first | assumption | omega)⟩
          · refine l_aload_n rfl rfl ?_
            refine l_bipush rfl rfl ?_
            have w58 : Xi T5 876 7 = Xi S 876 7 := (show Xi T5 876 7 = Xi T4 876 7 from w54.x _ _ rfl).trans ( (show Xi T4 876 7 = Xi T3 876 7 from w43.x _ _ rfl).trans ( (show Xi T3 876 7 = Xi T2 876 7 from w30.x _ _ rfl).trans ( (show Xi T2 876 7 = Xi U1 876 7 from w18.x _ _ rfl).trans ((show Xi U1 876 7 = Xi S 876 7 from by rw [eU1]; exact Xi_ne (by omega))))))
            have w59 : 0 ≤ Xi S 876 7 ∧ Xi S 876 7 ≤ 5130 := hH.c _ _
            have w60 : 0 ≤ Xi T5 890 1 ∧ Xi T5 890 1 ≤ 5130 := hHT5.c _ _
            refine l_callV rfl rfl rfl (t_gr_take hHT5 101 ⟨by omega, by omega⟩ (by first | assumption | omega) (by first | assumption | omega) (by first | assumption | omega) _) ?_
            rintro _ T6 ⟨hHT6, w66, z65, rfl, w65, w61, w62, w63, w64⟩
            have hFT6 : FR md_gr_takePropertyTest S T6 := FR.tr hFT5 w66 rfl
            show Rl _ _ _ _ _ [iv z65] _ _
            refine l_if_eq rfl rfl (by unfold rg; omega) (fun w67 => ?_) (fun w68 => ?_)
            · refine l_iconst rfl ?_
              refine l_ireturn rfl rfl ?_
              have w69 : 0 ≤ Xi T6 890 1 ∧ Xi T6 890 1 ≤ 5130 := hHT6.c _ _
              exact ⟨hHT6, hFT6, _, rfl, ⟨by omega, by omega⟩, (by first | assumption | omega), (by first | assumption | omega)⟩
            · refine l_iconst rfl ?_
              refine l_goto rfl rfl ?_
              refine l_ireturn rfl rfl ?_
              have w70 : 0 ≤ Xi T6 890 1 ∧ Xi T6 890 1 ≤ 5130 := hHT6.c _ _
              exact ⟨hHT6, hFT6, _, rfl, ⟨by omega, by omega⟩, (by first | assumption | omega), (by first | assumption | omega)⟩
        · refine l_aload_n rfl rfl ?_
          refine l_bipush rfl rfl ?_
          have w71 : Xi T4 876 7 = Xi S 876 7 := (show Xi T4 876 7 = Xi T3 876 7 from w43.x _ _ rfl).trans ( (show Xi T3 876 7 = Xi T2 876 7 from w30.x _ _ rfl).trans ( (show Xi T2 876 7 = Xi U1 876 7 from w18.x _ _ rfl).trans ((show Xi U1 876 7 = Xi S 876 7 from by rw [eU1]; exact Xi_ne (by omega)))))
          have w72 : 0 ≤ Xi S 876 7 ∧ Xi S 876 7 ≤ 5130 := hH.c _ _
          have w73 : 0 ≤ Xi T4 890 1 ∧ Xi T4 890 1 ≤ 5130 := hHT4.c _ _
          refine l_callV rfl rfl rfl (t_gr_take hHT4 52 ⟨by omega, by omega⟩ (by first | assumption | omega) (by first | assumption | omega) (by first | assumption | omega) _) ?_
          rintro _ T7 ⟨hHT7, w79, z78, rfl, w78, w74, w75, w76, w77⟩
          have hFT7 : FR md_gr_takePropertyTest S T7 := FR.tr hFT4 w79 rfl
          show Rl _ _ _ _ _ [iv z78] _ _
          refine l_if_eq rfl rfl (by unfold rg; omega) (fun w80 => ?_) (fun w81 => ?_)
          · refine l_aload_n rfl rfl ?_
            refine l_bipush rfl rfl ?_
            have w82 : Xi T7 876 7 = Xi S 876 7 := (show Xi T7 876 7 = Xi T4 876 7 from w79.x _ _ rfl).trans ( (show Xi T4 876 7 = Xi T3 876 7 from w43.x _ _ rfl).trans ( (show Xi T3 876 7 = Xi T2 876 7 from w30.x _ _ rfl).trans ( (show Xi T2 876 7 = Xi U1 876 7 from w18.x _ _ rfl).trans ((show Xi U1 876 7 = Xi S 876 7 from by rw [eU1]; exact Xi_ne (by omega))))))
            have w83 : 0 ≤ Xi S 876 7 ∧ Xi S 876 7 ≤ 5130 := hH.c _ _
            have w84 : 0 ≤ Xi T7 890 1 ∧ Xi T7 890 1 ≤ 5130 := hHT7.c _ _
            refine l_callV rfl rfl rfl (t_gr_take hHT7 6 ⟨by omega, by omega⟩ (by first | assumption | omega) (by first | assumption | omega) (by first | assumption | omega) _) ?_
            rintro _ T8 ⟨hHT8, w90, z89, rfl, w89, w85, w86, w87, w88⟩
            have hFT8 : FR md_gr_takePropertyTest S T8 := FR.tr hFT7 w90 rfl
            show Rl _ _ _ _ _ [iv z89] _ _
            refine l_pop rfl rfl ?_
            refine l_aload_n rfl rfl ?_
            have w91 : Xi T8 876 7 = Xi S 876 7 := (show Xi T8 876 7 = Xi T7 876 7 from w90.x _ _ rfl).trans ( (show Xi T7 876 7 = Xi T4 876 7 from w79.x _ _ rfl).trans ( (show Xi T4 876 7 = Xi T3 876 7 from w43.x _ _ rfl).trans ( (show Xi T3 876 7 = Xi T2 876 7 from w30.x _ _ rfl).trans ( (show Xi T2 876 7 = Xi U1 876 7 from w18.x _ _ rfl).trans ((show Xi U1 876 7 = Xi S 876 7 from by rw [eU1]; exact Xi_ne (by omega)))))))
            have w92 : 0 ≤ Xi S 876 7 ∧ Xi S 876 7 ≤ 5130 := hH.c _ _
            have w93 : 0 ≤ Xi T8 890 1 ∧ Xi T8 890 1 ≤ 5130 := hHT8.c _ _
            refine l_callV rfl rfl rfl (t_gr_takeWhat hHT8 (by first | assumption | omega) (by first | assumption | omega) _) ?_
            rintro _ T9 ⟨hHT9, w97, z96, rfl, w96, w94, w95⟩
            have hFT9 : FR md_gr_takePropertyTest S T9 := FR.tr hFT8 w97 rfl
            show Rl _ _ _ _ _ [iv z96] _ _
            refine l_ireturn rfl (retI_z (by omega)) ?_
            have w98 : 0 ≤ Xi T9 890 1 ∧ Xi T9 890 1 ≤ 5130 := hHT9.c _ _
            exact ⟨hHT9, hFT9, _, rfl, ⟨by omega, by omega⟩, (by first | assumption | omega), (by first | assumption | omega)⟩
          · refine l_aload_n rfl rfl ?_
            refine l_bipush rfl rfl ?_
            have w99 : Xi T7 876 7 = Xi S 876 7 := (show Xi T7 876 7 = Xi T4 876 7 from w79.x _ _ rfl).trans ( (show Xi T4 876 7 = Xi T3 876 7 from w43.x _ _ rfl).trans ( (show Xi T3 876 7 = Xi T2 876 7 from w30.x _ _ rfl).trans ( (show Xi T2 876 7 = Xi U1 876 7 from w18.x _ _ rfl).trans ((show Xi U1 876 7 = Xi S 876 7 from by rw [eU1]; exact Xi_ne (by omega))))))
            have w100 : 0 ≤ Xi S 876 7 ∧ Xi S 876 7 ≤ 5130 := hH.c _ _
            have w101 : 0 ≤ Xi T7 890 1 ∧ Xi T7 890 1 ≤ 5130 := hHT7.c _ _
            refine l_callV rfl rfl rfl (t_gr_take hHT7 50 ⟨by omega, by omega⟩ (by first | assumption | omega) (by first | assumption | omega) (by first | assumption | omega) _) ?_
            rintro _ T10 ⟨hHT10, w107, z106, rfl, w106, w102, w103, w104, w105⟩
            have hFT10 : FR md_gr_takePropertyTest S T10 := FR.tr hFT7 w107 rfl
            show Rl _ _ _ _ _ [iv z106] _ _
            refine l_if_eq rfl rfl (by unfold rg; omega) (fun w108 => ?_) (fun w109 => ?_)
            · refine l_iconst rfl ?_
              refine l_ireturn rfl rfl ?_
              have w110 : 0 ≤ Xi T10 890 1 ∧ Xi T10 890 1 ≤ 5130 := hHT10.c _ _
              exact ⟨hHT10, hFT10, _, rfl, ⟨by omega, by omega⟩, (by first | assumption | omega), (by first | assumption | omega)⟩
            · refine l_aload_n rfl rfl ?_
              refine l_bipush rfl rfl ?_
              have w111 : Xi T10 876 7 = Xi S 876 7 := (show Xi T10 876 7 = Xi T7 876 7 from w107.x _ _ rfl).trans ( (show Xi T7 876 7 = Xi T4 876 7 from w79.x _ _ rfl).trans ( (show Xi T4 876 7 = Xi T3 876 7 from w43.x _ _ rfl).trans ( (show Xi T3 876 7 = Xi T2 876 7 from w30.x _ _ rfl).trans ( (show Xi T2 876 7 = Xi U1 876 7 from w18.x _ _ rfl).trans ((show Xi U1 876 7 = Xi S 876 7 from by rw [eU1]; exact Xi_ne (by omega)))))))
              have w112 : 0 ≤ Xi S 876 7 ∧ Xi S 876 7 ≤ 5130 := hH.c _ _
              have w113 : 0 ≤ Xi T10 890 1 ∧ Xi T10 890 1 ≤ 5130 := hHT10.c _ _
              refine l_callV rfl rfl rfl (t_gr_take hHT10 101 ⟨by omega, by omega⟩ (by first | assumption | omega) (by first | assumption | omega) (by first | assumption | omega) _) ?_
              rintro _ T11 ⟨hHT11, w119, z118, rfl, w118, w114, w115, w116, w117⟩
              have hFT11 : FR md_gr_takePropertyTest S T11 := FR.tr hFT10 w119 rfl
              show Rl _ _ _ _ _ [iv z118] _ _
              refine l_if_eq rfl rfl (by unfold rg; omega) (fun w120 => ?_) (fun w121 => ?_)
              · refine l_iconst rfl ?_
                refine l_ireturn rfl rfl ?_
                have w122 : 0 ≤ Xi T11 890 1 ∧ Xi T11 890 1 ≤ 5130 := hHT11.c _ _
                exact ⟨hHT11, hFT11, _, rfl, ⟨by omega, by omega⟩, (by first | assumption | omega), (by first | assumption | omega)⟩
              · refine l_iconst rfl ?_
                refine l_goto rfl rfl ?_
                refine l_ireturn rfl rfl ?_
                have w123 : 0 ≤ Xi T11 890 1 ∧ Xi T11 890 1 ≤ 5130 := hHT11.c _ _
                exact ⟨hHT11, hFT11, _, rfl, ⟨by omega, by omega⟩, (by first | assumption | omega), (by first | assumption | omega)⟩
      · refine l_aload_n rfl rfl ?_
        have w124 : Xi T3 876 7 = Xi S 876 7 := (show Xi T3 876 7 = Xi T2 876 7 from w30.x _ _ rfl).trans ( (show Xi T2 876 7 = Xi U1 876 7 from w18.x _ _ rfl).trans ((show Xi U1 876 7 = Xi S 876 7 from by rw [eU1]; exact Xi_ne (by omega))))
        have w125 : 0 ≤ Xi S 876 7 ∧ Xi S 876 7 ≤ 5130 := hH.c _ _
        have w126 : 0 ≤ Xi T3 890 1 ∧ Xi T3 890 1 ≤ 5130 := hHT3.c _ _
        refine l_callV rfl rfl rfl (t_gr_takeWhat hHT3 (by first | assumption | omega) (by first | assumption | omega) _) ?_
        rintro _ T12 ⟨hHT12, w130, z129, rfl, w129, w127, w128⟩
        have hFT12 : FR md_gr_takePropertyTest S T12 := FR.tr hFT3 w130 rfl
        show Rl _ _ _ _ _ [iv z129] _ _
        refine l_ireturn rfl (retI_z (by omega)) ?_
        have w131 : 0 ≤ Xi T12 890 1 ∧ Xi T12 890 1 ≤ 5130 := hHT12.c _ _
        exact ⟨hHT12, hFT12, _, rfl, ⟨by omega, by omega⟩, (by first | assumption | omega), (by first | assumption | omega)⟩
    · refine l_iconst rfl ?_
      refine l_ireturn rfl rfl ?_
      have w132 : 0 ≤ Xi T3 890 1 ∧ Xi T3 890 1 ≤ 5130 := hHT3.c _ _
      exact ⟨hHT3, hFT3, _, rfl, ⟨by omega, by omega⟩, (by first | assumption | omega), (by first | assumption | omega)⟩
def md_gr_takeTest : List rec := [(890, 891, 1, 2)]
abbrev Q_gr_takeTest (S : sS) (now : Int) : pst := fun r S1 => HI S1 ∧ FR md_gr_takeTest S S1 ∧ (∃ z : Int, r = some (iv z) ∧ (0 ≤ z ∧ z ≤ 1) ∧ (Xi S 890 1 ≤ Xi S1 890 1 ∧ Xi S1 890 1 ≤ Xi S 876 7) ∧ (SAY S1 (Xi S1 890 1)))
set_option maxRecDepth 100000 in
theorem t_gr_takeTest {S : sS} (hH : HI S) (now : Int) (hnow : 0 ≤ now ∧ now ≤ 1) (ha : Xi S 890 1 ≤ Xi S 876 7) (hs : SAY S (Xi S 890 1)) (d : Nat) : Mt lay0 (d + 5) m_gr_takeTest [.ref 890, iv now] S (Q_gr_takeTest S now) := by
  refine Mt_R rfl rfl ?_
  have hF : FR md_gr_takeTest S S := FR.rf
  have w1 : 0 ≤ Xi S 876 7 ∧ Xi S 876 7 ≤ 5130 := hH.c _ _
  have w2 : 0 ≤ Xi S 890 1 ∧ Xi S 890 1 ≤ 5130 := hH.c _ _
  refine l_aload_n rfl rfl ?_
  refine l_gfr rfl rfl rfl rfl rfl (hH.r 890 0 876 rfl) ?_
  refine l_iconst rfl ?_
  refine l_aload_n rfl rfl ?_
  refine l_gfi rfl rfl rfl rfl rfl ?_
  refine l_aload_n rfl rfl ?_
  refine l_gfr rfl rfl rfl rfl rfl (hH.r 890 0 876 rfl) ?_
  refine l_aload_n rfl rfl ?_
  refine l_gfi rfl rfl rfl rfl rfl ?_
  refine l_iload_n rfl rfl ?_
  have w3 : 0 ≤ Xi S 876 7 ∧ Xi S 876 7 ≤ 5130 := hH.c _ _
  refine l_callV rfl rfl rfl (t_to_testEnd hH (Xi S 890 1) now ⟨by omega, by omega⟩ ⟨by omega, by omega⟩ _) ?_
  rintro _ _ ⟨rfl, z6, rfl, w6, w4, w5⟩
  show Rl _ _ _ _ _ [iv z6, iv (Xi S 890 1), iv 4, .ref 876] _ _
  refine l_callV rfl rfl rfl (t_to_firstOf hH 4 (Xi S 890 1) z6 ⟨by omega, by omega⟩ ⟨by omega, by omega⟩ ⟨by omega, by omega⟩ _) ?_
  rintro _ _ ⟨rfl, z8, rfl, w8, w7⟩
  show Rl _ _ _ _ _ [iv z8] _ _
  refine l_iconst rfl ?_
  refine l_icmp_ne rfl rfl (by unfold rg; omega) (by unfold rg; omega) (fun w9 => ?_) (fun w10 => ?_)
  · refine l_aload_n rfl rfl ?_
    refine l_gfr rfl rfl rfl rfl rfl (hH.r 890 0 876 rfl) ?_
    refine l_aload_n rfl rfl ?_
    refine l_gfi rfl rfl rfl rfl rfl ?_
    refine l_callV rfl rfl rfl (t_to_beginsProperty hH (Xi S 890 1) ⟨by omega, by omega⟩ _) ?_
    rintro _ _ ⟨rfl, z12, rfl, w12, w11⟩
    show Rl _ _ _ _ _ [iv z12] _ _
    refine l_if_eq rfl rfl (by unfold rg; omega) (fun w13 => ?_) (fun w14 => ?_)
    · refine l_aload_n rfl rfl ?_
      have w15 : 0 ≤ Xi S 876 7 ∧ Xi S 876 7 ≤ 5130 := hH.c _ _
      have w16 : 0 ≤ Xi S 890 1 ∧ Xi S 890 1 ≤ 5130 := hH.c _ _
      refine l_callV rfl rfl rfl (t_gr_takeThing hH (by first | assumption | omega) (by first | assumption | omega) _) ?_
      rintro _ T1 ⟨hHT1, w20, z19, rfl, w19, w17, w18⟩
      have hFT1 : FR md_gr_takeTest S T1 := FR.tr hF w20 rfl
      show Rl _ _ _ _ _ [iv z19] _ _
      refine l_if_eq rfl rfl (by unfold rg; omega) (fun w21 => ?_) (fun w22 => ?_)
      · refine l_iconst rfl ?_
        refine l_ireturn rfl rfl ?_
        have w23 : 0 ≤ Xi T1 890 1 ∧ Xi T1 890 1 ≤ 5130 := hHT1.c _ _
        exact ⟨hHT1, hFT1, _, rfl, ⟨by omega, by omega⟩, (by first | assumption | omega), (by first | assumption | omega)⟩
      · refine l_aload_n rfl rfl ?_
        refine l_iconst rfl ?_
        have w24 : Xi T1 876 7 = Xi S 876 7 := (show Xi T1 876 7 = Xi S 876 7 from w20.x _ _ rfl)
        have w25 : 0 ≤ Xi S 876 7 ∧ Xi S 876 7 ≤ 5130 := hH.c _ _
        have w26 : 0 ≤ Xi T1 890 1 ∧ Xi T1 890 1 ≤ 5130 := hHT1.c _ _
        refine l_callV rfl rfl rfl (t_gr_take hHT1 4 ⟨by omega, by omega⟩ (by first | assumption | omega) (by first | assumption | omega) (by first | assumption | omega) _) ?_
        rintro _ T2 ⟨hHT2, w32, z31, rfl, w31, w27, w28, w29, w30⟩
        have hFT2 : FR md_gr_takeTest S T2 := FR.tr hFT1 w32 rfl
        show Rl _ _ _ _ _ [iv z31] _ _
        refine l_if_ne rfl rfl (by unfold rg; omega) (fun w33 => ?_) (fun w34 => ?_)
        · refine l_aload_n rfl rfl ?_
          refine l_bipush rfl rfl ?_
          have w35 : Xi T2 876 7 = Xi S 876 7 := (show Xi T2 876 7 = Xi T1 876 7 from w32.x _ _ rfl).trans ((show Xi T1 876 7 = Xi S 876 7 from w20.x _ _ rfl))
          have w36 : 0 ≤ Xi S 876 7 ∧ Xi S 876 7 ≤ 5130 := hH.c _ _
          have w37 : 0 ≤ Xi T2 890 1 ∧ Xi T2 890 1 ≤ 5130 := hHT2.c _ _
          refine l_callV rfl rfl rfl (t_gr_take hHT2 6 ⟨by omega, by omega⟩ (by first | assumption | omega) (by first | assumption | omega) (by first | assumption | omega) _) ?_
          rintro _ T3 ⟨hHT3, w43, z42, rfl, w42, w38, w39, w40, w41⟩
          have hFT3 : FR md_gr_takeTest S T3 := FR.tr hFT2 w43 rfl
          show Rl _ _ _ _ _ [iv z42] _ _
          refine l_pop rfl rfl ?_
          refine l_iload_n rfl rfl ?_
          refine l_if_ne rfl rfl (by unfold rg; omega) (fun w44 => ?_) (fun w45 => ?_)
          · refine l_aload_n rfl rfl ?_
            have w46 : Xi T3 876 7 = Xi S 876 7 := (show Xi T3 876 7 = Xi T2 876 7 from w43.x _ _ rfl).trans ( (show Xi T2 876 7 = Xi T1 876 7 from w32.x _ _ rfl).trans ((show Xi T1 876 7 = Xi S 876 7 from w20.x _ _ rfl)))
            have w47 : 0 ≤ Xi S 876 7 ∧ Xi S 876 7 ≤ 5130 := hH.c _ _
            have w48 : 0 ≤ Xi T3 890 1 ∧ Xi T3 890 1 ≤ 5130 := hHT3.c _ _
            refine l_callV rfl rfl rfl (t_gr_takeRun hHT3 (by first | assumption | omega) (by first | assumption | omega) _) ?_
            rintro _ T4 ⟨hHT4, w53, z52, rfl, w52, w49, w50, w51⟩
            have hFT4 : FR md_gr_takeTest S T4 := FR.tr hFT3 w53 rfl
            show Rl _ _ _ _ _ [iv z52] _ _
            refine l_ireturn rfl (retI_z (by omega)) ?_
            have w54 : 0 ≤ Xi T4 890 1 ∧ Xi T4 890 1 ≤ 5130 := hHT4.c _ _
            exact ⟨hHT4, hFT4, _, rfl, ⟨by omega, by omega⟩, (by first | assumption | omega), (by first | assumption | omega)⟩
          · refine l_aload_n rfl rfl ?_
            have w55 : Xi T3 876 7 = Xi S 876 7 := (show Xi T3 876 7 = Xi T2 876 7 from w43.x _ _ rfl).trans ( (show Xi T2 876 7 = Xi T1 876 7 from w32.x _ _ rfl).trans ((show Xi T1 876 7 = Xi S 876 7 from w20.x _ _ rfl)))
            have w56 : 0 ≤ Xi S 876 7 ∧ Xi S 876 7 ≤ 5130 := hH.c _ _
            have w57 : 0 ≤ Xi T3 890 1 ∧ Xi T3 890 1 ≤ 5130 := hHT3.c _ _
            refine l_callV rfl rfl rfl (t_gr_atPlace hHT3 _) ?_
            rintro _ _ ⟨rfl, z59, rfl, w59, w58⟩
            show Rl _ _ _ _ _ [iv z59] _ _
            refine l_if_eq rfl rfl (by unfold rg; omega) (fun w60 => ?_) (fun w61 => ?_)
            · refine l_aload_n rfl rfl ?_
              have w62 : Xi T3 876 7 = Xi S 876 7 := (show Xi T3 876 7 = Xi T2 876 7 from w43.x _ _ rfl).trans ( (show Xi T2 876 7 = Xi T1 876 7 from w32.x _ _ rfl).trans ((show Xi T1 876 7 = Xi S 876 7 from w20.x _ _ rfl)))
              have w63 : 0 ≤ Xi S 876 7 ∧ Xi S 876 7 ≤ 5130 := hH.c _ _
              have w64 : 0 ≤ Xi T3 890 1 ∧ Xi T3 890 1 ≤ 5130 := hHT3.c _ _
              refine l_callV rfl rfl rfl (t_gr_takeRun hHT3 (by first | assumption | omega) (by first | assumption | omega) _) ?_
              rintro _ T5 ⟨hHT5, w69, z68, rfl, w68, w65, w66, w67⟩
              have hFT5 : FR md_gr_takeTest S T5 := FR.tr hFT3 w69 rfl
              show Rl _ _ _ _ _ [iv z68] _ _
              refine l_ireturn rfl (retI_z (by omega)) ?_
              have w70 : 0 ≤ Xi T5 890 1 ∧ Xi T5 890 1 ≤ 5130 := hHT5.c _ _
              exact ⟨hHT5, hFT5, _, rfl, ⟨by omega, by omega⟩, (by first | assumption | omega), (by first | assumption | omega)⟩
            · refine l_aload_n rfl rfl ?_
              refine l_iconst rfl ?_
              have w71 : Xi T3 876 7 = Xi S 876 7 := (show Xi T3 876 7 = Xi T2 876 7 from w43.x _ _ rfl).trans ( (show Xi T2 876 7 = Xi T1 876 7 from w32.x _ _ rfl).trans ((show Xi T1 876 7 = Xi S 876 7 from w20.x _ _ rfl)))
              have w72 : 0 ≤ Xi S 876 7 ∧ Xi S 876 7 ≤ 5130 := hH.c _ _
              have w73 : 0 ≤ Xi T3 890 1 ∧ Xi T3 890 1 ≤ 5130 := hHT3.c _ _
              refine l_callV rfl rfl rfl (t_gr_takePlace hHT3 1 ⟨by omega, by omega⟩ (by first | assumption | omega) (by first | assumption | omega) (by first | assumption | omega) _) ?_
              rintro _ T6 ⟨hHT6, w77, z76, rfl, w76, w74, w75⟩
              have hFT6 : FR md_gr_takeTest S T6 := FR.tr hFT3 w77 rfl
              show Rl _ _ _ _ _ [iv z76] _ _
              refine l_goto rfl rfl ?_
              refine l_ireturn rfl (retI_z (by omega)) ?_
              have w78 : 0 ≤ Xi T6 890 1 ∧ Xi T6 890 1 ≤ 5130 := hHT6.c _ _
              exact ⟨hHT6, hFT6, _, rfl, ⟨by omega, by omega⟩, (by first | assumption | omega), (by first | assumption | omega)⟩
        · refine l_iconst rfl ?_
          refine l_ireturn rfl rfl ?_
          have w79 : 0 ≤ Xi T2 890 1 ∧ Xi T2 890 1 ≤ 5130 := hHT2.c _ _
          exact ⟨hHT2, hFT2, _, rfl, ⟨by omega, by omega⟩, (by first | assumption | omega), (by first | assumption | omega)⟩
    · refine l_aload_n rfl rfl ?_
      refine l_iload_n rfl rfl ?_
      have w80 : 0 ≤ Xi S 876 7 ∧ Xi S 876 7 ≤ 5130 := hH.c _ _
      have w81 : 0 ≤ Xi S 890 1 ∧ Xi S 890 1 ≤ 5130 := hH.c _ _
      refine l_callV rfl rfl rfl (t_gr_takePropertyTest hH now ⟨by omega, by omega⟩ (by first | assumption | omega) (by first | assumption | omega) (by first | assumption | (apply_assumption; omega)) _) ?_
      rintro _ T7 ⟨hHT7, w85, z84, rfl, w84, w82, w83⟩
      have hFT7 : FR md_gr_takeTest S T7 := FR.tr hF w85 rfl
      show Rl _ _ _ _ _ [iv z84] _ _
      refine l_ireturn rfl (retI_z (by omega)) ?_
      have w86 : 0 ≤ Xi T7 890 1 ∧ Xi T7 890 1 ≤ 5130 := hHT7.c _ _
      exact ⟨hHT7, hFT7, _, rfl, ⟨by omega, by omega⟩, (by first | assumption | omega), (by first | assumption | omega)⟩
  · refine l_aload_n rfl rfl ?_
    refine l_bipush rfl rfl ?_
    refine l_bipush rfl rfl ?_
    have w87 : 0 ≤ Xi S 876 7 ∧ Xi S 876 7 ≤ 5130 := hH.c _ _
    have w88 : 0 ≤ Xi S 890 1 ∧ Xi S 890 1 ≤ 5130 := hH.c _ _
    refine l_callV rfl rfl rfl (t_gr_takeLoose hH 54 53 ⟨by omega, by omega⟩ ⟨by omega, by omega⟩ (by first | assumption | omega) (by first | assumption | omega) (by first | assumption | omega) (by first | assumption | omega) _) ?_
    rintro _ T8 ⟨hHT8, w92, z91, rfl, w91, w89, w90⟩
    have hFT8 : FR md_gr_takeTest S T8 := FR.tr hF w92 rfl
    show Rl _ _ _ _ _ [iv z91] _ _
    refine l_ireturn rfl (retI_z (by omega)) ?_
    have w93 : 0 ≤ Xi T8 890 1 ∧ Xi T8 890 1 ≤ 5130 := hHT8.c _ _
    exact ⟨hHT8, hFT8, _, rfl, ⟨by omega, by omega⟩, (by first | assumption | omega), (by first | assumption | omega)⟩
def md_gr_takeTests : List rec := [(890, 891, 1, 2)]
abbrev Q_gr_takeTests (S : sS) : pst := fun r S1 => HI S1 ∧ FR md_gr_takeTests S S1 ∧ (∃ z : Int, r = some (iv z) ∧ (0 ≤ z ∧ z ≤ 1) ∧ (Xi S 890 1 ≤ Xi S1 890 1 ∧ Xi S1 890 1 ≤ Xi S 876 7) ∧ (SAY S1 (Xi S1 890 1)))
set_option maxRecDepth 100000 in
theorem t_gr_takeTests {S : sS} (hH : HI S) (ha : Xi S 890 1 ≤ Xi S 876 7) (hs : SAY S (Xi S 890 1)) (d : Nat) : Mt lay0 (d + 6) m_gr_takeTests [.ref 890] S (Q_gr_takeTests S) := by
  refine Mt_R rfl rfl ?_
  have hF : FR md_gr_takeTests S S := FR.rf
  have w1 : 0 ≤ Xi S 876 7 ∧ Xi S 876 7 ≤ 5130 := hH.c _ _
  have w2 : 0 ≤ Xi S 890 1 ∧ Xi S 890 1 ≤ 5130 := hH.c _ _
  have C8 : ∀ (n8 : Nat) (T1 : sS) (_ : HI T1) (_ : FR md_gr_takeTests S T1) (v1 : Int) (v2 : Int), (0 ≤ v1 ∧ v1 ≤ 1) → (0 ≤ v2 ∧ v2 ≤ 5000) → (SAY T1 (Xi T1 890 1)) → (Xi S 890 1 ≤ Xi T1 890 1 ∧ Xi T1 890 1 ≤ Xi S 876 7) → n8 = (5001 - v2).toNat → Rl lay0 (d + 5) m_gr_takeTests 8 [(0, .ref 890), (1, iv v1), (2, iv v2)] [] T1 (Q_gr_takeTests S) := by
    intro n8
    induction n8 using Nat.strongRecOn with
    | ind n8 ih8 =>
      intro T1 hHT1 hFT1 v1 v2 w3 w4 hs8 w5 hm8
      have w6 : Xi T1 876 7 = Xi S 876 7 := hFT1.x _ _ rfl
      have w7 : 0 ≤ Xi T1 890 1 ∧ Xi T1 890 1 ≤ 5130 := hHT1.c _ _
      have C40 : ∀  (T2 : sS) (_ : HI T2) (_ : FR md_gr_takeTests S T2) (v1 : Int), (0 ≤ v1 ∧ v1 ≤ 1) → (SAY T2 (Xi T2 890 1)) → (Xi S 890 1 ≤ Xi T2 890 1 ∧ Xi T2 890 1 ≤ Xi S 876 7) → Rl lay0 (d + 5) m_gr_takeTests 40 [(1, iv v1)] [] T2 (Q_gr_takeTests S) := by
        intro T2 hHT2 hFT2 v1 w8 hs40 w9
        have w10 : Xi T2 876 7 = Xi S 876 7 := hFT2.x _ _ rfl
        have w11 : 0 ≤ Xi T2 890 1 ∧ Xi T2 890 1 ≤ 5130 := hHT2.c _ _
        refine l_iload_n rfl rfl ?_
        refine l_ireturn rfl (retI_z (by omega)) ?_
        have w12 : 0 ≤ Xi T2 890 1 ∧ Xi T2 890 1 ≤ 5130 := hHT2.c _ _
        exact ⟨hHT2, hFT2, _, rfl, ⟨by omega, by omega⟩, (by first | assumption | omega), (by first | assumption | omega)⟩
      refine l_iload_n rfl rfl ?_
      refine l_sipush rfl rfl ?_
      refine l_icmp_ge rfl rfl (by unfold rg; omega) (by unfold rg; omega) (fun w13 => ?_) (fun w14 => ?_)
      · have w15 : 0 ≤ Xi T1 890 1 ∧ Xi T1 890 1 ≤ 5130 := hHT1.c _ _
        exact Rl_weak (C40 T1 hHT1 hFT1 (v1) (by omega) (by first | assumption | omega) (by omega)) (And.intro rfl (True.intro))
      · refine l_iload_n rfl rfl ?_
        refine l_if_eq rfl rfl (by unfold rg; omega) (fun w16 => ?_) (fun w17 => ?_)
        · have w18 : 0 ≤ Xi T1 890 1 ∧ Xi T1 890 1 ≤ 5130 := hHT1.c _ _
          exact Rl_weak (C40 T1 hHT1 hFT1 (v1) (by omega) (by first | assumption | omega) (by omega)) (And.intro rfl (True.intro))
        · refine l_aload_n rfl rfl ?_
          refine l_bipush rfl rfl ?_
          have w19 : 0 ≤ Xi T1 876 7 ∧ Xi T1 876 7 ≤ 5130 := hHT1.c _ _
          have w20 : 0 ≤ Xi T1 890 1 ∧ Xi T1 890 1 ≤ 5130 := hHT1.c _ _
          refine l_callV rfl rfl rfl (t_gr_take hHT1 16 ⟨by omega, by omega⟩ (by first | assumption | omega) (by first | assumption | omega) (by first | assumption | omega) _) ?_
          rintro _ T3 ⟨hHT3, w26, z25, rfl, w25, w21, w22, w23, w24⟩
          have hFT3 : FR md_gr_takeTests S T3 := FR.tr hFT1 w26 rfl
          show Rl _ _ _ _ _ [iv z25] _ _
          refine l_if_eq rfl rfl (by unfold rg; omega) (fun w27 => ?_) (fun w28 => ?_)
          · have w29 : 0 ≤ Xi T3 890 1 ∧ Xi T3 890 1 ≤ 5130 := hHT3.c _ _
            exact Rl_weak (C40 T3 hHT3 hFT3 (v1) (by omega) (by first | assumption | omega) (by omega)) (And.intro rfl (True.intro))
          · refine l_aload_n rfl rfl ?_
            refine l_iconst rfl ?_
            have w30 : Xi T3 876 7 = Xi T1 876 7 := (show Xi T3 876 7 = Xi T1 876 7 from w26.x _ _ rfl)
            have w31 : 0 ≤ Xi T1 876 7 ∧ Xi T1 876 7 ≤ 5130 := hHT1.c _ _
            have w32 : 0 ≤ Xi T3 890 1 ∧ Xi T3 890 1 ≤ 5130 := hHT3.c _ _
            refine l_callV rfl rfl rfl (t_gr_takeTest hHT3 0 ⟨by omega, by omega⟩ (by first | assumption | omega) (by first | assumption | omega) _) ?_
            rintro _ T4 ⟨hHT4, w36, z35, rfl, w35, w33, w34⟩
            have hFT4 : FR md_gr_takeTests S T4 := FR.tr hFT3 w36 rfl
            show Rl _ _ _ _ _ [iv z35] _ _
            refine l_istore_n rfl rfl rfl ?_
            refine l_iinc rfl rfl rfl rfl ?_
            refine l_goto rfl rfl ?_
            have w37 : 0 ≤ Xi T4 890 1 ∧ Xi T4 890 1 ≤ 5130 := hHT4.c _ _
            exact Rl_weak (ih8 _ (by omega) T4 hHT4 hFT4 (z35) ((v2 + 1)) (by omega) (by omega) (by first | assumption | omega) (by omega) rfl) (And.intro rfl (And.intro rfl (And.intro rfl (True.intro))))
  refine l_aload_n rfl rfl ?_
  refine l_iconst rfl ?_
  have w38 : 0 ≤ Xi S 876 7 ∧ Xi S 876 7 ≤ 5130 := hH.c _ _
  have w39 : 0 ≤ Xi S 890 1 ∧ Xi S 890 1 ≤ 5130 := hH.c _ _
  refine l_callV rfl rfl rfl (t_gr_takeTest hH 0 ⟨by omega, by omega⟩ (by first | assumption | omega) (by first | assumption | omega) _) ?_
  rintro _ T5 ⟨hHT5, w43, z42, rfl, w42, w40, w41⟩
  have hFT5 : FR md_gr_takeTests S T5 := FR.tr hF w43 rfl
  show Rl _ _ _ _ _ [iv z42] _ _
  refine l_istore_n rfl rfl rfl ?_
  refine l_iconst rfl ?_
  refine l_istore_n rfl rfl rfl ?_
  have w44 : 0 ≤ Xi T5 890 1 ∧ Xi T5 890 1 ≤ 5130 := hHT5.c _ _
  exact Rl_weak (C8 _ T5 hHT5 hFT5 (z42) (0) (by omega) (by omega) (by first | assumption | omega) (by omega) rfl) (And.intro rfl (And.intro rfl (And.intro rfl (True.intro))))
def md_gr_takeActing : List rec := [(890, 891, 1, 2)]
abbrev Q_gr_takeActing (S : sS) : pst := fun r S1 => HI S1 ∧ FR md_gr_takeActing S S1 ∧ (∃ z : Int, r = some (iv z) ∧ (0 ≤ z ∧ z ≤ 1) ∧ (Xi S 890 1 ≤ Xi S1 890 1 ∧ Xi S1 890 1 ≤ Xi S 876 7) ∧ (SAY S1 (Xi S1 890 1)))
set_option maxRecDepth 100000 in
theorem t_gr_takeActing {S : sS} (hH : HI S) (ha : Xi S 890 1 ≤ Xi S 876 7) (hs : SAY S (Xi S 890 1)) (d : Nat) : Mt lay0 (d + 3) m_gr_takeActing [.ref 890] S (Q_gr_takeActing S) := by
  refine Mt_R rfl rfl ?_
  have hF : FR md_gr_takeActing S S := FR.rf
  have w1 : 0 ≤ Xi S 876 7 ∧ Xi S 876 7 ≤ 5130 := hH.c _ _
  have w2 : 0 ≤ Xi S 890 1 ∧ Xi S 890 1 ≤ 5130 := hH.c _ _
  refine l_aload_n rfl rfl ?_
  have w3 : 0 ≤ Xi S 876 7 ∧ Xi S 876 7 ≤ 5130 := hH.c _ _
  have w4 : 0 ≤ Xi S 890 1 ∧ Xi S 890 1 ≤ 5130 := hH.c _ _
  refine l_callV rfl rfl rfl (t_gr_takeRun hH (by first | assumption | omega) (by first | assumption | omega) _) ?_
  rintro _ T1 ⟨hHT1, w9, z8, rfl, w8, w5, w6, w7⟩
  have hFT1 : FR md_gr_takeActing S T1 := FR.tr hF w9 rfl
  show Rl _ _ _ _ _ [iv z8] _ _
  refine l_if_eq rfl rfl (by unfold rg; omega) (fun w10 => ?_) (fun w11 => ?_)
  · refine l_iconst rfl ?_
    refine l_ireturn rfl rfl ?_
    have w12 : 0 ≤ Xi T1 890 1 ∧ Xi T1 890 1 ≤ 5130 := hHT1.c _ _
    exact ⟨hHT1, hFT1, _, rfl, ⟨by omega, by omega⟩, (by first | assumption | omega), (by first | assumption | omega)⟩
  · refine l_aload_n rfl rfl ?_
    have w13 : Xi T1 876 7 = Xi S 876 7 := (show Xi T1 876 7 = Xi S 876 7 from w9.x _ _ rfl)
    have w14 : 0 ≤ Xi S 876 7 ∧ Xi S 876 7 ≤ 5130 := hH.c _ _
    have w15 : 0 ≤ Xi T1 890 1 ∧ Xi T1 890 1 ≤ 5130 := hHT1.c _ _
    refine l_callV rfl rfl rfl (t_gr_takeArt hHT1 (by first | assumption | omega) (by first | assumption | omega) _) ?_
    rintro _ T2 ⟨hHT2, w20, z19, rfl, w19, w16, w17, w18⟩
    have hFT2 : FR md_gr_takeActing S T2 := FR.tr hFT1 w20 rfl
    show Rl _ _ _ _ _ [iv z19] _ _
    refine l_if_eq rfl rfl (by unfold rg; omega) (fun w21 => ?_) (fun w22 => ?_)
    · refine l_iconst rfl ?_
      refine l_goto rfl rfl ?_
      refine l_ireturn rfl rfl ?_
      have w23 : 0 ≤ Xi T2 890 1 ∧ Xi T2 890 1 ≤ 5130 := hHT2.c _ _
      exact ⟨hHT2, hFT2, _, rfl, ⟨by omega, by omega⟩, (by first | assumption | omega), (by first | assumption | omega)⟩
    · refine l_aload_n rfl rfl ?_
      have w24 : Xi T2 876 7 = Xi S 876 7 := (show Xi T2 876 7 = Xi T1 876 7 from w20.x _ _ rfl).trans ((show Xi T1 876 7 = Xi S 876 7 from w9.x _ _ rfl))
      have w25 : 0 ≤ Xi S 876 7 ∧ Xi S 876 7 ≤ 5130 := hH.c _ _
      have w26 : 0 ≤ Xi T2 890 1 ∧ Xi T2 890 1 ≤ 5130 := hHT2.c _ _
      refine l_callV rfl rfl rfl (t_gr_takeRun hHT2 (by first | assumption | omega) (by first | assumption | omega) _) ?_
      rintro _ T3 ⟨hHT3, w31, z30, rfl, w30, w27, w28, w29⟩
      have hFT3 : FR md_gr_takeActing S T3 := FR.tr hFT2 w31 rfl
      show Rl _ _ _ _ _ [iv z30] _ _
      refine l_if_eq rfl rfl (by unfold rg; omega) (fun w32 => ?_) (fun w33 => ?_)
      · refine l_iconst rfl ?_
        refine l_ireturn rfl rfl ?_
        have w34 : 0 ≤ Xi T3 890 1 ∧ Xi T3 890 1 ≤ 5130 := hHT3.c _ _
        exact ⟨hHT3, hFT3, _, rfl, ⟨by omega, by omega⟩, (by first | assumption | omega), (by first | assumption | omega)⟩
      · refine l_iconst rfl ?_
        refine l_goto rfl rfl ?_
        refine l_ireturn rfl rfl ?_
        have w35 : 0 ≤ Xi T3 890 1 ∧ Xi T3 890 1 ≤ 5130 := hHT3.c _ _
        exact ⟨hHT3, hFT3, _, rfl, ⟨by omega, by omega⟩, (by first | assumption | omega), (by first | assumption | omega)⟩
def md_gr_takeList : List rec := [(890, 891, 1, 2)]
abbrev Q_gr_takeList (S : sS) : pst := fun r S1 => HI S1 ∧ FR md_gr_takeList S S1 ∧ (∃ z : Int, r = some (iv z) ∧ (0 ≤ z ∧ z ≤ 1) ∧ (Xi S 890 1 ≤ Xi S1 890 1 ∧ Xi S1 890 1 ≤ Xi S 876 7) ∧ (SAY S1 (Xi S1 890 1)))
set_option maxRecDepth 100000 in
theorem t_gr_takeList {S : sS} (hH : HI S) (ha : Xi S 890 1 ≤ Xi S 876 7) (hs : SAY S (Xi S 890 1)) (d : Nat) : Mt lay0 (d + 4) m_gr_takeList [.ref 890] S (Q_gr_takeList S) := by
  refine Mt_R rfl rfl ?_
  have hF : FR md_gr_takeList S S := FR.rf
  have w1 : 0 ≤ Xi S 876 7 ∧ Xi S 876 7 ≤ 5130 := hH.c _ _
  have w2 : 0 ≤ Xi S 890 1 ∧ Xi S 890 1 ≤ 5130 := hH.c _ _
  have C7 : ∀ (n7 : Nat) (T1 : sS) (_ : HI T1) (_ : FR md_gr_takeList S T1) (v1 : Int) (v2 : Int), (0 ≤ v1 ∧ v1 ≤ 1) → (0 ≤ v2 ∧ v2 ≤ 5000) → (SAY T1 (Xi T1 890 1)) → (Xi S 890 1 ≤ Xi T1 890 1 ∧ Xi T1 890 1 ≤ Xi S 876 7) → n7 = (5001 - v2).toNat → Rl lay0 (d + 3) m_gr_takeList 7 [(0, .ref 890), (1, iv v1), (2, iv v2)] [] T1 (Q_gr_takeList S) := by
    intro n7
    induction n7 using Nat.strongRecOn with
    | ind n7 ih7 =>
      intro T1 hHT1 hFT1 v1 v2 w3 w4 hs7 w5 hm7
      have w6 : Xi T1 876 7 = Xi S 876 7 := hFT1.x _ _ rfl
      have w7 : 0 ≤ Xi T1 890 1 ∧ Xi T1 890 1 ≤ 5130 := hHT1.c _ _
      have C36 : ∀  (T2 : sS) (_ : HI T2) (_ : FR md_gr_takeList S T2) (v1 : Int), (0 ≤ v1 ∧ v1 ≤ 1) → (SAY T2 (Xi T2 890 1)) → (Xi S 890 1 ≤ Xi T2 890 1 ∧ Xi T2 890 1 ≤ Xi S 876 7) → Rl lay0 (d + 3) m_gr_takeList 36 [(1, iv v1)] [] T2 (Q_gr_takeList S) := by
        intro T2 hHT2 hFT2 v1 w8 hs36 w9
        have w10 : Xi T2 876 7 = Xi S 876 7 := hFT2.x _ _ rfl
        have w11 : 0 ≤ Xi T2 890 1 ∧ Xi T2 890 1 ≤ 5130 := hHT2.c _ _
        refine l_iload_n rfl rfl ?_
        refine l_ireturn rfl (retI_z (by omega)) ?_
        have w12 : 0 ≤ Xi T2 890 1 ∧ Xi T2 890 1 ≤ 5130 := hHT2.c _ _
        exact ⟨hHT2, hFT2, _, rfl, ⟨by omega, by omega⟩, (by first | assumption | omega), (by first | assumption | omega)⟩
      refine l_iload_n rfl rfl ?_
      refine l_sipush rfl rfl ?_
      refine l_icmp_ge rfl rfl (by unfold rg; omega) (by unfold rg; omega) (fun w13 => ?_) (fun w14 => ?_)
      · have w15 : 0 ≤ Xi T1 890 1 ∧ Xi T1 890 1 ≤ 5130 := hHT1.c _ _
        exact Rl_weak (C36 T1 hHT1 hFT1 (v1) (by omega) (by first | assumption | omega) (by omega)) (And.intro rfl (True.intro))
      · refine l_iload_n rfl rfl ?_
        refine l_if_eq rfl rfl (by unfold rg; omega) (fun w16 => ?_) (fun w17 => ?_)
        · have w18 : 0 ≤ Xi T1 890 1 ∧ Xi T1 890 1 ≤ 5130 := hHT1.c _ _
          exact Rl_weak (C36 T1 hHT1 hFT1 (v1) (by omega) (by first | assumption | omega) (by omega)) (And.intro rfl (True.intro))
        · refine l_aload_n rfl rfl ?_
          have w19 : 0 ≤ Xi T1 876 7 ∧ Xi T1 876 7 ≤ 5130 := hHT1.c _ _
          have w20 : 0 ≤ Xi T1 890 1 ∧ Xi T1 890 1 ≤ 5130 := hHT1.c _ _
          refine l_callV rfl rfl rfl (t_gr_takeBetween hHT1 (by first | assumption | omega) (by first | assumption | omega) _) ?_
          rintro _ T3 ⟨hHT3, w24, z23, rfl, w23, w21, w22⟩
          have hFT3 : FR md_gr_takeList S T3 := FR.tr hFT1 w24 rfl
          show Rl _ _ _ _ _ [iv z23] _ _
          refine l_if_eq rfl rfl (by unfold rg; omega) (fun w25 => ?_) (fun w26 => ?_)
          · have w27 : 0 ≤ Xi T3 890 1 ∧ Xi T3 890 1 ≤ 5130 := hHT3.c _ _
            exact Rl_weak (C36 T3 hHT3 hFT3 (v1) (by omega) (by first | assumption | omega) (by omega)) (And.intro rfl (True.intro))
          · refine l_aload_n rfl rfl ?_
            have w28 : Xi T3 876 7 = Xi T1 876 7 := (show Xi T3 876 7 = Xi T1 876 7 from w24.x _ _ rfl)
            have w29 : 0 ≤ Xi T1 876 7 ∧ Xi T1 876 7 ≤ 5130 := hHT1.c _ _
            have w30 : 0 ≤ Xi T3 890 1 ∧ Xi T3 890 1 ≤ 5130 := hHT3.c _ _
            refine l_callV rfl rfl rfl (t_gr_takeName hHT3 (by first | assumption | omega) (by first | assumption | omega) _) ?_
            rintro _ T4 ⟨hHT4, w34, z33, rfl, w33, w31, w32⟩
            have hFT4 : FR md_gr_takeList S T4 := FR.tr hFT3 w34 rfl
            show Rl _ _ _ _ _ [iv z33] _ _
            refine l_istore_n rfl rfl rfl ?_
            refine l_iinc rfl rfl rfl rfl ?_
            refine l_goto rfl rfl ?_
            have w35 : 0 ≤ Xi T4 890 1 ∧ Xi T4 890 1 ≤ 5130 := hHT4.c _ _
            exact Rl_weak (ih7 _ (by omega) T4 hHT4 hFT4 (z33) ((v2 + 1)) (by omega) (by omega) (by first | assumption | omega) (by omega) rfl) (And.intro rfl (And.intro rfl (And.intro rfl (True.intro))))
  refine l_aload_n rfl rfl ?_
  have w36 : 0 ≤ Xi S 876 7 ∧ Xi S 876 7 ≤ 5130 := hH.c _ _
  have w37 : 0 ≤ Xi S 890 1 ∧ Xi S 890 1 ≤ 5130 := hH.c _ _
  refine l_callV rfl rfl rfl (t_gr_takeName hH (by first | assumption | omega) (by first | assumption | omega) _) ?_
  rintro _ T5 ⟨hHT5, w41, z40, rfl, w40, w38, w39⟩
  have hFT5 : FR md_gr_takeList S T5 := FR.tr hF w41 rfl
  show Rl _ _ _ _ _ [iv z40] _ _
  refine l_istore_n rfl rfl rfl ?_
  refine l_iconst rfl ?_
  refine l_istore_n rfl rfl rfl ?_
  have w42 : 0 ≤ Xi T5 890 1 ∧ Xi T5 890 1 ≤ 5130 := hHT5.c _ _
  exact Rl_weak (C7 _ T5 hHT5 hFT5 (z40) (0) (by omega) (by omega) (by first | assumption | omega) (by omega) rfl) (And.intro rfl (And.intro rfl (And.intro rfl (True.intro))))
def md_gr_checkRuns : List rec := [(890, 891, 1, 2), (890, 891, 2, 3)]
abbrev Q_gr_checkRuns (S : sS) (alone : Int) : pst := fun r S1 => HI S1 ∧ FR md_gr_checkRuns S S1 ∧ (∃ z : Int, r = some (iv z) ∧ (0 ≤ z ∧ z ≤ 1) ∧ (Xi S 890 1 ≤ Xi S1 890 1 ∧ Xi S1 890 1 ≤ Xi S 876 7) ∧ (SAY S1 (Xi S1 890 1)) ∧ (14 ≤ Xi S1 890 2))
set_option maxRecDepth 100000 in
theorem t_gr_checkRuns {S : sS} (hH : HI S) (alone : Int) (halone : 0 ≤ alone ∧ alone ≤ 1) (ha : Xi S 890 1 ≤ Xi S 876 7) (hs : SAY S (Xi S 890 1)) (d : Nat) : Mt lay0 (d + 4) m_gr_checkRuns [.ref 890, iv alone] S (Q_gr_checkRuns S alone) := by
  refine Mt_R rfl rfl ?_
  have hF : FR md_gr_checkRuns S S := FR.rf
  have w1 : 0 ≤ Xi S 876 7 ∧ Xi S 876 7 ≤ 5130 := hH.c _ _
  have w2 : 0 ≤ Xi S 890 1 ∧ Xi S 890 1 ≤ 5130 := hH.c _ _
  have w3 : 0 ≤ Xi S 890 2 ∧ Xi S 890 2 ≤ 20 := hH.c _ _
  have C56 : ∀  (T1 : sS) (_ : HI T1) (_ : FR md_gr_checkRuns S T1), (SAY T1 (Xi T1 890 1)) → (Xi S 890 1 ≤ Xi T1 890 1 ∧ Xi T1 890 1 ≤ Xi S 876 7) → (14 ≤ Xi T1 890 2) → Rl lay0 (d + 3) m_gr_checkRuns 56 [(0, .ref 890), (1, iv alone)] [] T1 (Q_gr_checkRuns S alone) := by
    intro T1 hHT1 hFT1 hs56 w4 w5
    have w6 : Xi T1 876 7 = Xi S 876 7 := hFT1.x _ _ rfl
    have w7 : 0 ≤ Xi T1 890 1 ∧ Xi T1 890 1 ≤ 5130 := hHT1.c _ _
    have w8 : 0 ≤ Xi T1 890 2 ∧ Xi T1 890 2 ≤ 20 := hHT1.c _ _
    have C58 : ∀ (n58 : Nat) (T2 : sS) (_ : HI T2) (_ : FR md_gr_checkRuns S T2) (v2 : Int), (0 ≤ v2 ∧ v2 ≤ 5000) → (SAY T2 (Xi T2 890 1)) → (Xi S 890 1 ≤ Xi T2 890 1 ∧ Xi T2 890 1 ≤ Xi S 876 7) → (14 ≤ Xi T2 890 2) → n58 = (5001 - v2).toNat → Rl lay0 (d + 3) m_gr_checkRuns 58 [(0, .ref 890), (1, iv alone), (2, iv v2)] [] T2 (Q_gr_checkRuns S alone) := by
      intro n58
      induction n58 using Nat.strongRecOn with
      | ind n58 ih58 =>
        intro T2 hHT2 hFT2 v2 w9 hs58 w10 w11 hm58
        have w12 : Xi T2 876 7 = Xi S 876 7 := hFT2.x _ _ rfl
        have w13 : 0 ≤ Xi T2 890 1 ∧ Xi T2 890 1 ≤ 5130 := hHT2.c _ _
        have w14 : 0 ≤ Xi T2 890 2 ∧ Xi T2 890 2 ≤ 20 := hHT2.c _ _
        have C97 : ∀  (T3 : sS) (_ : HI T3) (_ : FR md_gr_checkRuns S T3), (SAY T3 (Xi T3 890 1)) → (Xi S 890 1 ≤ Xi T3 890 1 ∧ Xi T3 890 1 ≤ Xi S 876 7) → (14 ≤ Xi T3 890 2) → Rl lay0 (d + 3) m_gr_checkRuns 97 [(0, .ref 890)] [] T3 (Q_gr_checkRuns S alone) := by
          intro T3 hHT3 hFT3 hs97 w15 w16
          have w17 : Xi T3 876 7 = Xi S 876 7 := hFT3.x _ _ rfl
          have w18 : 0 ≤ Xi T3 890 1 ∧ Xi T3 890 1 ≤ 5130 := hHT3.c _ _
          have w19 : 0 ≤ Xi T3 890 2 ∧ Xi T3 890 2 ≤ 20 := hHT3.c _ _
          refine l_aload_n rfl rfl ?_
          refine l_bipush rfl rfl ?_
          have w20 : 0 ≤ Xi T3 876 7 ∧ Xi T3 876 7 ≤ 5130 := hHT3.c _ _
          have w21 : 0 ≤ Xi T3 890 1 ∧ Xi T3 890 1 ≤ 5130 := hHT3.c _ _
          refine l_callV rfl rfl rfl (t_gr_take hHT3 103 ⟨by omega, by omega⟩ (by first | assumption | omega) (by first | assumption | omega) (by first | assumption | omega) _) ?_
          rintro _ T4 ⟨hHT4, w27, z26, rfl, w26, w22, w23, w24, w25⟩
          have hFT4 : FR md_gr_checkRuns S T4 := FR.tr hFT3 w27 rfl
          show Rl _ _ _ _ _ [iv z26] _ _
          refine l_ireturn rfl (retI_z (by omega)) ?_
          have w28 : 0 ≤ Xi T4 890 1 ∧ Xi T4 890 1 ≤ 5130 := hHT4.c _ _
          have w29 : Xi T4 890 2 = Xi T3 890 2 := (show Xi T4 890 2 = Xi T3 890 2 from w27.x _ _ rfl)
          have w30 : 0 ≤ Xi T3 890 2 ∧ Xi T3 890 2 ≤ 20 := hHT3.c _ _
          exact ⟨hHT4, hFT4, _, rfl, ⟨by omega, by omega⟩, (by first | assumption | omega), (by first | assumption | omega), (by first | assumption | omega)⟩
        refine l_iload_n rfl rfl ?_
        refine l_sipush rfl rfl ?_
        refine l_icmp_ge rfl rfl (by unfold rg; omega) (by unfold rg; omega) (fun w31 => ?_) (fun w32 => ?_)
        · have w33 : 0 ≤ Xi T2 890 1 ∧ Xi T2 890 1 ≤ 5130 := hHT2.c _ _
          have w34 : 0 ≤ Xi T2 890 2 ∧ Xi T2 890 2 ≤ 20 := hHT2.c _ _
          exact Rl_weak (C97 T2 hHT2 hFT2  (by first | assumption | omega) (by omega) (by omega)) (And.intro rfl (True.intro))
        · refine l_iload_n rfl rfl ?_
          refine l_if_ne rfl rfl (by unfold rg; omega) (fun w35 => ?_) (fun w36 => ?_)
          · have w37 : 0 ≤ Xi T2 890 1 ∧ Xi T2 890 1 ≤ 5130 := hHT2.c _ _
            have w38 : 0 ≤ Xi T2 890 2 ∧ Xi T2 890 2 ≤ 20 := hHT2.c _ _
            exact Rl_weak (C97 T2 hHT2 hFT2  (by first | assumption | omega) (by omega) (by omega)) (And.intro rfl (True.intro))
          · refine l_aload_n rfl rfl ?_
            have w39 : 0 ≤ Xi T2 876 7 ∧ Xi T2 876 7 ≤ 5130 := hHT2.c _ _
            have w40 : 0 ≤ Xi T2 890 1 ∧ Xi T2 890 1 ≤ 5130 := hHT2.c _ _
            refine l_callV rfl rfl rfl (t_gr_takeBetween hHT2 (by first | assumption | omega) (by first | assumption | omega) _) ?_
            rintro _ T5 ⟨hHT5, w44, z43, rfl, w43, w41, w42⟩
            have hFT5 : FR md_gr_checkRuns S T5 := FR.tr hFT2 w44 rfl
            show Rl _ _ _ _ _ [iv z43] _ _
            refine l_if_eq rfl rfl (by unfold rg; omega) (fun w45 => ?_) (fun w46 => ?_)
            · have w47 : 0 ≤ Xi T5 890 1 ∧ Xi T5 890 1 ≤ 5130 := hHT5.c _ _
              have w48 : Xi T5 890 2 = Xi T2 890 2 := (show Xi T5 890 2 = Xi T2 890 2 from w44.x _ _ rfl)
              have w49 : 0 ≤ Xi T2 890 2 ∧ Xi T2 890 2 ≤ 20 := hHT2.c _ _
              exact Rl_weak (C97 T5 hHT5 hFT5  (by first | assumption | omega) (by omega) (by omega)) (And.intro rfl (True.intro))
            · refine l_aload_n rfl rfl ?_
              refine l_bipush rfl rfl ?_
              refine l_pfi rfl rfl rfl rfl ?_
              obtain ⟨U6, eU6⟩ : ∃ T : sS, T = uI T5 890 2 (Int32.ofInt 16) := ⟨_, rfl⟩
              rw [← eU6]
              have hHU6 : HI U6 := by rw [eU6]; exact HI_w hHT5 (show 0 ≤ 16 by omega) (show 16 ≤ 20 by omega)
              have hFU6 : FR md_gr_checkRuns S U6 := by rw [eU6]; exact FR.wI hFT5 (mdf_i (r := (890, 891, 2, 3)) (List.mem_of_getElem? (i := 1) rfl) (inR_i (by omega) (by omega) (by omega) (by omega)))
              have w50 : Xi U6 890 2 = 16 := by rw [eU6]; exact Xi_same (by unfold rg; omega)
              have hso79 : SAY U6 (Xi U6 890 1) := SAY_sort eU6 (by assumption) (by decide)
              refine l_aload_n rfl rfl ?_
              have w51 : Xi U6 876 7 = Xi T2 876 7 := (show Xi U6 876 7 = Xi T5 876 7 from by rw [eU6]; exact Xi_ne (by omega)).trans ((show Xi T5 876 7 = Xi T2 876 7 from w44.x _ _ rfl))
              have w52 : 0 ≤ Xi T2 876 7 ∧ Xi T2 876 7 ≤ 5130 := hHT2.c _ _
              have w53 : Xi U6 890 1 = Xi T5 890 1 := (show Xi U6 890 1 = Xi T5 890 1 from by rw [eU6]; exact Xi_ne (by omega))
              have w54 : 0 ≤ Xi T5 890 1 ∧ Xi T5 890 1 ≤ 5130 := hHT5.c _ _
              refine l_callV rfl rfl rfl (t_gr_takeRun hHU6 (by first | assumption | omega) (by first | assumption | omega) _) ?_
              rintro _ T7 ⟨hHT7, w59, z58, rfl, w58, w55, w56, w57⟩
              have hFT7 : FR md_gr_checkRuns S T7 := FR.tr hFU6 w59 rfl
              show Rl _ _ _ _ _ [iv z58] _ _
              refine l_if_ne rfl rfl (by unfold rg; omega) (fun w60 => ?_) (fun w61 => ?_)
              · refine l_iinc rfl rfl rfl rfl ?_
                refine l_goto rfl rfl ?_
                have w62 : 0 ≤ Xi T7 890 1 ∧ Xi T7 890 1 ≤ 5130 := hHT7.c _ _
                have w63 : Xi T7 890 2 = Xi U6 890 2 := (show Xi T7 890 2 = Xi U6 890 2 from w59.x _ _ rfl)
                have w64 : 0 ≤ Xi U6 890 2 ∧ Xi U6 890 2 ≤ 20 := hHU6.c _ _
                exact Rl_weak (ih58 _ (by omega) T7 hHT7 hFT7 ((v2 + 1)) (by omega) (by first | assumption | omega) (by omega) (by omega) rfl) (And.intro rfl (And.intro rfl (And.intro rfl (True.intro))))
              · refine l_iconst rfl ?_
                refine l_ireturn rfl rfl ?_
                have w65 : 0 ≤ Xi T7 890 1 ∧ Xi T7 890 1 ≤ 5130 := hHT7.c _ _
                have w66 : Xi T7 890 2 = Xi U6 890 2 := (show Xi T7 890 2 = Xi U6 890 2 from w59.x _ _ rfl)
                have w67 : 0 ≤ Xi U6 890 2 ∧ Xi U6 890 2 ≤ 20 := hHU6.c _ _
                exact ⟨hHT7, hFT7, _, rfl, ⟨by omega, by omega⟩, (by first | assumption | omega), (by first | assumption | omega), (by first | assumption | omega)⟩
    refine l_iconst rfl ?_
    refine l_istore_n rfl rfl rfl ?_
    have w68 : 0 ≤ Xi T1 890 1 ∧ Xi T1 890 1 ≤ 5130 := hHT1.c _ _
    have w69 : 0 ≤ Xi T1 890 2 ∧ Xi T1 890 2 ≤ 20 := hHT1.c _ _
    exact Rl_weak (C58 _ T1 hHT1 hFT1 (0) (by omega) (by first | assumption | omega) (by omega) (by omega) rfl) (And.intro rfl (And.intro rfl (And.intro rfl (True.intro))))
  refine l_aload_n rfl rfl ?_
  refine l_bipush rfl rfl ?_
  refine l_pfi rfl rfl rfl rfl ?_
  obtain ⟨U8, eU8⟩ : ∃ T : sS, T = uI S 890 2 (Int32.ofInt 15) := ⟨_, rfl⟩
  rw [← eU8]
  have hHU8 : HI U8 := by rw [eU8]; exact HI_w hH (show 0 ≤ 15 by omega) (show 15 ≤ 20 by omega)
  have hFU8 : FR md_gr_checkRuns S U8 := by rw [eU8]; exact FR.wI hF (mdf_i (r := (890, 891, 2, 3)) (List.mem_of_getElem? (i := 1) rfl) (inR_i (by omega) (by omega) (by omega) (by omega)))
  have w70 : Xi U8 890 2 = 15 := by rw [eU8]; exact Xi_same (by unfold rg; omega)
  have hso3 : SAY U8 (Xi U8 890 1) := SAY_sort eU8 (by assumption) (by decide)
  refine l_aload_n rfl rfl ?_
  have w71 : Xi U8 876 7 = Xi S 876 7 := (show Xi U8 876 7 = Xi S 876 7 from by rw [eU8]; exact Xi_ne (by omega))
  have w72 : 0 ≤ Xi S 876 7 ∧ Xi S 876 7 ≤ 5130 := hH.c _ _
  have w73 : Xi U8 890 1 = Xi S 890 1 := (show Xi U8 890 1 = Xi S 890 1 from by rw [eU8]; exact Xi_ne (by omega))
  have w74 : 0 ≤ Xi S 890 1 ∧ Xi S 890 1 ≤ 5130 := hH.c _ _
  refine l_callV rfl rfl rfl (t_gr_takeRun hHU8 (by first | assumption | omega) (by first | assumption | omega) _) ?_
  rintro _ T9 ⟨hHT9, w79, z78, rfl, w78, w75, w76, w77⟩
  have hFT9 : FR md_gr_checkRuns S T9 := FR.tr hFU8 w79 rfl
  show Rl _ _ _ _ _ [iv z78] _ _
  refine l_if_ne rfl rfl (by unfold rg; omega) (fun w80 => ?_) (fun w81 => ?_)
  · refine l_iload_n rfl rfl ?_
    refine l_if_ne rfl rfl (by unfold rg; omega) (fun w82 => ?_) (fun w83 => ?_)
    · have w84 : 0 ≤ Xi T9 890 1 ∧ Xi T9 890 1 ≤ 5130 := hHT9.c _ _
      have w85 : Xi T9 890 2 = Xi U8 890 2 := (show Xi T9 890 2 = Xi U8 890 2 from w79.x _ _ rfl)
      have w86 : 0 ≤ Xi U8 890 2 ∧ Xi U8 890 2 ≤ 20 := hHU8.c _ _
      exact Rl_weak (C56 T9 hHT9 hFT9  (by first | assumption | omega) (by omega) (by omega)) (And.intro rfl (And.intro rfl (True.intro)))
    · refine l_aload_n rfl rfl ?_
      refine l_bipush rfl rfl ?_
      have w87 : Xi T9 876 7 = Xi S 876 7 := (show Xi T9 876 7 = Xi U8 876 7 from w79.x _ _ rfl).trans ((show Xi U8 876 7 = Xi S 876 7 from by rw [eU8]; exact Xi_ne (by omega)))
      have w88 : 0 ≤ Xi S 876 7 ∧ Xi S 876 7 ≤ 5130 := hH.c _ _
      have w89 : 0 ≤ Xi T9 890 1 ∧ Xi T9 890 1 ≤ 5130 := hHT9.c _ _
      refine l_callV rfl rfl rfl (t_gr_take hHT9 7 ⟨by omega, by omega⟩ (by first | assumption | omega) (by first | assumption | omega) (by first | assumption | omega) _) ?_
      rintro _ T10 ⟨hHT10, w95, z94, rfl, w94, w90, w91, w92, w93⟩
      have hFT10 : FR md_gr_checkRuns S T10 := FR.tr hFT9 w95 rfl
      show Rl _ _ _ _ _ [iv z94] _ _
      refine l_if_eq rfl rfl (by unfold rg; omega) (fun w96 => ?_) (fun w97 => ?_)
      · have w98 : 0 ≤ Xi T10 890 1 ∧ Xi T10 890 1 ≤ 5130 := hHT10.c _ _
        have w99 : Xi T10 890 2 = Xi U8 890 2 := (show Xi T10 890 2 = Xi T9 890 2 from w95.x _ _ rfl).trans ((show Xi T9 890 2 = Xi U8 890 2 from w79.x _ _ rfl))
        have w100 : 0 ≤ Xi U8 890 2 ∧ Xi U8 890 2 ≤ 20 := hHU8.c _ _
        exact Rl_weak (C56 T10 hHT10 hFT10  (by first | assumption | omega) (by omega) (by omega)) (And.intro rfl (And.intro rfl (True.intro)))
      · refine l_aload_n rfl rfl ?_
        refine l_bipush rfl rfl ?_
        refine l_pfi rfl rfl rfl rfl ?_
        obtain ⟨U11, eU11⟩ : ∃ T : sS, T = uI T10 890 2 (Int32.ofInt 14) := ⟨_, rfl⟩
        rw [← eU11]
        have hHU11 : HI U11 := by rw [eU11]; exact HI_w hHT10 (show 0 ≤ 14 by omega) (show 14 ≤ 20 by omega)
        have hFU11 : FR md_gr_checkRuns S U11 := by rw [eU11]; exact FR.wI hFT10 (mdf_i (r := (890, 891, 2, 3)) (List.mem_of_getElem? (i := 1) rfl) (inR_i (by omega) (by omega) (by omega) (by omega)))
        have w101 : Xi U11 890 2 = 14 := by rw [eU11]; exact Xi_same (by unfold rg; omega)
        have hso31 : SAY U11 (Xi U11 890 1) := SAY_sort eU11 (by assumption) (by decide)
        refine l_aload_n rfl rfl ?_
        have w102 : Xi U11 876 7 = Xi S 876 7 := (show Xi U11 876 7 = Xi T10 876 7 from by rw [eU11]; exact Xi_ne (by omega)).trans ( (show Xi T10 876 7 = Xi T9 876 7 from w95.x _ _ rfl).trans ( (show Xi T9 876 7 = Xi U8 876 7 from w79.x _ _ rfl).trans ((show Xi U8 876 7 = Xi S 876 7 from by rw [eU8]; exact Xi_ne (by omega)))))
        have w103 : 0 ≤ Xi S 876 7 ∧ Xi S 876 7 ≤ 5130 := hH.c _ _
        have w104 : Xi U11 890 1 = Xi T10 890 1 := (show Xi U11 890 1 = Xi T10 890 1 from by rw [eU11]; exact Xi_ne (by omega))
        have w105 : 0 ≤ Xi T10 890 1 ∧ Xi T10 890 1 ≤ 5130 := hHT10.c _ _
        refine l_callV rfl rfl rfl (t_gr_takeName hHU11 (by first | assumption | omega) (by first | assumption | omega) _) ?_
        rintro _ T12 ⟨hHT12, w109, z108, rfl, w108, w106, w107⟩
        have hFT12 : FR md_gr_checkRuns S T12 := FR.tr hFU11 w109 rfl
        show Rl _ _ _ _ _ [iv z108] _ _
        refine l_if_eq rfl rfl (by unfold rg; omega) (fun w110 => ?_) (fun w111 => ?_)
        · refine l_iconst rfl ?_
          refine l_ireturn rfl rfl ?_
          have w112 : 0 ≤ Xi T12 890 1 ∧ Xi T12 890 1 ≤ 5130 := hHT12.c _ _
          have w113 : Xi T12 890 2 = Xi U11 890 2 := (show Xi T12 890 2 = Xi U11 890 2 from w109.x _ _ rfl)
          have w114 : 0 ≤ Xi U11 890 2 ∧ Xi U11 890 2 ≤ 20 := hHU11.c _ _
          exact ⟨hHT12, hFT12, _, rfl, ⟨by omega, by omega⟩, (by first | assumption | omega), (by first | assumption | omega), (by first | assumption | omega)⟩
        · refine l_aload_n rfl rfl ?_
          refine l_bipush rfl rfl ?_
          have w115 : Xi T12 876 7 = Xi S 876 7 := (show Xi T12 876 7 = Xi U11 876 7 from w109.x _ _ rfl).trans ( (show Xi U11 876 7 = Xi T10 876 7 from by rw [eU11]; exact Xi_ne (by omega)).trans ( (show Xi T10 876 7 = Xi T9 876 7 from w95.x _ _ rfl).trans ( (show Xi T9 876 7 = Xi U8 876 7 from w79.x _ _ rfl).trans ((show Xi U8 876 7 = Xi S 876 7 from by rw [eU8]; exact Xi_ne (by omega))))))
          have w116 : 0 ≤ Xi S 876 7 ∧ Xi S 876 7 ≤ 5130 := hH.c _ _
          have w117 : 0 ≤ Xi T12 890 1 ∧ Xi T12 890 1 ≤ 5130 := hHT12.c _ _
          refine l_callV rfl rfl rfl (t_gr_take hHT12 103 ⟨by omega, by omega⟩ (by first | assumption | omega) (by first | assumption | omega) (by first | assumption | omega) _) ?_
          rintro _ T13 ⟨hHT13, w123, z122, rfl, w122, w118, w119, w120, w121⟩
          have hFT13 : FR md_gr_checkRuns S T13 := FR.tr hFT12 w123 rfl
          show Rl _ _ _ _ _ [iv z122] _ _
          refine l_if_eq rfl rfl (by unfold rg; omega) (fun w124 => ?_) (fun w125 => ?_)
          · refine l_iconst rfl ?_
            refine l_ireturn rfl rfl ?_
            have w126 : 0 ≤ Xi T13 890 1 ∧ Xi T13 890 1 ≤ 5130 := hHT13.c _ _
            have w127 : Xi T13 890 2 = Xi U11 890 2 := (show Xi T13 890 2 = Xi T12 890 2 from w123.x _ _ rfl).trans ((show Xi T12 890 2 = Xi U11 890 2 from w109.x _ _ rfl))
            have w128 : 0 ≤ Xi U11 890 2 ∧ Xi U11 890 2 ≤ 20 := hHU11.c _ _
            exact ⟨hHT13, hFT13, _, rfl, ⟨by omega, by omega⟩, (by first | assumption | omega), (by first | assumption | omega), (by first | assumption | omega)⟩
          · refine l_iconst rfl ?_
            refine l_goto rfl rfl ?_
            refine l_ireturn rfl rfl ?_
            have w129 : 0 ≤ Xi T13 890 1 ∧ Xi T13 890 1 ≤ 5130 := hHT13.c _ _
            have w130 : Xi T13 890 2 = Xi U11 890 2 := (show Xi T13 890 2 = Xi T12 890 2 from w123.x _ _ rfl).trans ((show Xi T12 890 2 = Xi U11 890 2 from w109.x _ _ rfl))
            have w131 : 0 ≤ Xi U11 890 2 ∧ Xi U11 890 2 ≤ 20 := hHU11.c _ _
            exact ⟨hHT13, hFT13, _, rfl, ⟨by omega, by omega⟩, (by first | assumption | omega), (by first | assumption | omega), (by first | assumption | omega)⟩
  · refine l_iconst rfl ?_
    refine l_ireturn rfl rfl ?_
    have w132 : 0 ≤ Xi T9 890 1 ∧ Xi T9 890 1 ≤ 5130 := hHT9.c _ _
    have w133 : Xi T9 890 2 = Xi U8 890 2 := (show Xi T9 890 2 = Xi U8 890 2 from w79.x _ _ rfl)
    have w134 : 0 ≤ Xi U8 890 2 ∧ Xi U8 890 2 ≤ 20 := hHU8.c _ _
    exact ⟨hHT9, hFT9, _, rfl, ⟨by omega, by omega⟩, (by first | assumption | omega), (by first | assumption | omega), (by first | assumption | omega)⟩
def md_gr_takePhrase : List rec := [(890, 891, 1, 2)]
abbrev Q_gr_takePhrase (S : sS) : pst := fun r S1 => HI S1 ∧ FR md_gr_takePhrase S S1 ∧ (∃ z : Int, r = some (iv z) ∧ (0 ≤ z ∧ z ≤ 1) ∧ (Xi S 890 1 ≤ Xi S1 890 1 ∧ Xi S1 890 1 ≤ Xi S 876 7) ∧ (z = 1 → SAY S1 (Xi S1 890 1)))
set_option maxRecDepth 100000 in
theorem t_gr_takePhrase {S : sS} (hH : HI S) (ha : Xi S 890 1 ≤ Xi S 876 7) (hs : SAY S (Xi S 890 1)) (d : Nat) : Mt lay0 (d + 4) m_gr_takePhrase [.ref 890] S (Q_gr_takePhrase S) := by
  refine Mt_R rfl rfl ?_
  have hF : FR md_gr_takePhrase S S := FR.rf
  have w1 : 0 ≤ Xi S 876 7 ∧ Xi S 876 7 ≤ 5130 := hH.c _ _
  have w2 : 0 ≤ Xi S 890 1 ∧ Xi S 890 1 ≤ 5130 := hH.c _ _
  refine l_aload_n rfl rfl ?_
  refine l_bipush rfl rfl ?_
  have w3 : 0 ≤ Xi S 876 7 ∧ Xi S 876 7 ≤ 5130 := hH.c _ _
  have w4 : 0 ≤ Xi S 890 1 ∧ Xi S 890 1 ≤ 5130 := hH.c _ _
  refine l_callV rfl rfl rfl (t_gr_take__2 hH 43 ⟨by omega, by omega⟩ (by first | assumption | omega) _) ?_
  rintro _ T1 ⟨hHT1, w9, z8, rfl, w8, w5, w6, w7⟩
  have hFT1 : FR md_gr_takePhrase S T1 := FR.tr hF w9 rfl
  show Rl _ _ _ _ _ [iv z8] _ _
  refine l_if_eq rfl rfl (by unfold rg; omega) (fun w10 => ?_) (fun w11 => ?_)
  · refine l_aload_n rfl rfl ?_
    have hs16 : SAY T1 (Xi T1 890 1) := by rw [show Xi T1 890 1 = Xi S 890 1 by omega]; exact SAY_fr (m877 hFT1 rfl) hs
    refine l_bipush rfl rfl ?_
    have w12 : Xi T1 876 7 = Xi S 876 7 := (show Xi T1 876 7 = Xi S 876 7 from w9.x _ _ rfl)
    have w13 : 0 ≤ Xi S 876 7 ∧ Xi S 876 7 ≤ 5130 := hH.c _ _
    have w14 : 0 ≤ Xi T1 890 1 ∧ Xi T1 890 1 ≤ 5130 := hHT1.c _ _
    refine l_callV rfl rfl rfl (t_gr_take hHT1 45 ⟨by omega, by omega⟩ (by first | assumption | omega) (by first | assumption | omega) (by first | assumption | omega) _) ?_
    rintro _ T2 ⟨hHT2, w20, z19, rfl, w19, w15, w16, w17, w18⟩
    have hFT2 : FR md_gr_takePhrase S T2 := FR.tr hFT1 w20 rfl
    show Rl _ _ _ _ _ [iv z19] _ _
    refine l_if_eq rfl rfl (by unfold rg; omega) (fun w21 => ?_) (fun w22 => ?_)
    · refine l_aload_n rfl rfl ?_
      refine l_bipush rfl rfl ?_
      have w23 : Xi T2 876 7 = Xi S 876 7 := (show Xi T2 876 7 = Xi T1 876 7 from w20.x _ _ rfl).trans ((show Xi T1 876 7 = Xi S 876 7 from w9.x _ _ rfl))
      have w24 : 0 ≤ Xi S 876 7 ∧ Xi S 876 7 ≤ 5130 := hH.c _ _
      have w25 : 0 ≤ Xi T2 890 1 ∧ Xi T2 890 1 ≤ 5130 := hHT2.c _ _
      refine l_callV rfl rfl rfl (t_gr_take hHT2 46 ⟨by omega, by omega⟩ (by first | assumption | omega) (by first | assumption | omega) (by first | assumption | omega) _) ?_
      rintro _ T3 ⟨hHT3, w31, z30, rfl, w30, w26, w27, w28, w29⟩
      have hFT3 : FR md_gr_takePhrase S T3 := FR.tr hFT2 w31 rfl
      show Rl _ _ _ _ _ [iv z30] _ _
      refine l_if_ne rfl rfl (by unfold rg; omega) (fun w32 => ?_) (fun w33 => ?_)
      · refine l_aload_n rfl rfl ?_
        refine l_iconst rfl ?_
        have w34 : Xi T3 876 7 = Xi S 876 7 := (show Xi T3 876 7 = Xi T2 876 7 from w31.x _ _ rfl).trans ( (show Xi T2 876 7 = Xi T1 876 7 from w20.x _ _ rfl).trans ((show Xi T1 876 7 = Xi S 876 7 from w9.x _ _ rfl)))
        have w35 : 0 ≤ Xi S 876 7 ∧ Xi S 876 7 ≤ 5130 := hH.c _ _
        have w36 : 0 ≤ Xi T3 890 1 ∧ Xi T3 890 1 ≤ 5130 := hHT3.c _ _
        refine l_callV rfl rfl rfl (t_gr_take hHT3 2 ⟨by omega, by omega⟩ (by first | assumption | omega) (by first | assumption | omega) (by first | assumption | omega) _) ?_
        rintro _ T4 ⟨hHT4, w42, z41, rfl, w41, w37, w38, w39, w40⟩
        have hFT4 : FR md_gr_takePhrase S T4 := FR.tr hFT3 w42 rfl
        show Rl _ _ _ _ _ [iv z41] _ _
        refine l_if_eq rfl rfl (by unfold rg; omega) (fun w43 => ?_) (fun w44 => ?_)
        · refine l_iconst rfl ?_
          refine l_ireturn rfl rfl ?_
          have w45 : 0 ≤ Xi T4 890 1 ∧ Xi T4 890 1 ≤ 5130 := hHT4.c _ _
          exact ⟨hHT4, hFT4, _, rfl, ⟨by omega, by omega⟩, (by omega), (by first | (intro _; assumption) | (intro hz; exact say_two2 (T := T3) hs (by omega) (m877 (by assumption) rfl) (m877 (by assumption) rfl) (by omega) (by omega) (by omega)))⟩
        · refine l_aload_n rfl rfl ?_
          have w46 : Xi T4 876 7 = Xi S 876 7 := (show Xi T4 876 7 = Xi T3 876 7 from w42.x _ _ rfl).trans ( (show Xi T3 876 7 = Xi T2 876 7 from w31.x _ _ rfl).trans ( (show Xi T2 876 7 = Xi T1 876 7 from w20.x _ _ rfl).trans ((show Xi T1 876 7 = Xi S 876 7 from w9.x _ _ rfl))))
          have w47 : 0 ≤ Xi S 876 7 ∧ Xi S 876 7 ≤ 5130 := hH.c _ _
          have w48 : 0 ≤ Xi T4 890 1 ∧ Xi T4 890 1 ≤ 5130 := hHT4.c _ _
          refine l_callV rfl rfl rfl (t_gr_takeRun hHT4 (by first | assumption | omega) (by first | assumption | omega) _) ?_
          rintro _ T5 ⟨hHT5, w53, z52, rfl, w52, w49, w50, w51⟩
          have hFT5 : FR md_gr_takePhrase S T5 := FR.tr hFT4 w53 rfl
          show Rl _ _ _ _ _ [iv z52] _ _
          refine l_if_eq rfl rfl (by unfold rg; omega) (fun w54 => ?_) (fun w55 => ?_)
          · refine l_iconst rfl ?_
            refine l_ireturn rfl rfl ?_
            have w56 : 0 ≤ Xi T5 890 1 ∧ Xi T5 890 1 ≤ 5130 := hHT5.c _ _
            exact ⟨hHT5, hFT5, _, rfl, ⟨by omega, by omega⟩, (by omega), (by first | (intro _; assumption) | (intro hz; exact say_two2 (T := T4) hs (by omega) (m877 (by assumption) rfl) (m877 (by assumption) rfl) (by omega) (by omega) (by omega)))⟩
          · refine l_aload_n rfl rfl ?_
            refine l_bipush rfl rfl ?_
            have w57 : Xi T5 876 7 = Xi S 876 7 := (show Xi T5 876 7 = Xi T4 876 7 from w53.x _ _ rfl).trans ( (show Xi T4 876 7 = Xi T3 876 7 from w42.x _ _ rfl).trans ( (show Xi T3 876 7 = Xi T2 876 7 from w31.x _ _ rfl).trans ( (show Xi T2 876 7 = Xi T1 876 7 from w20.x _ _ rfl).trans ((show Xi T1 876 7 = Xi S 876 7 from w9.x _ _ rfl)))))
            have w58 : 0 ≤ Xi S 876 7 ∧ Xi S 876 7 ≤ 5130 := hH.c _ _
            have w59 : 0 ≤ Xi T5 890 1 ∧ Xi T5 890 1 ≤ 5130 := hHT5.c _ _
            refine l_callV rfl rfl rfl (t_gr_take hHT5 7 ⟨by omega, by omega⟩ (by first | assumption | omega) (by first | assumption | omega) (by first | assumption | omega) _) ?_
            rintro _ T6 ⟨hHT6, w65, z64, rfl, w64, w60, w61, w62, w63⟩
            have hFT6 : FR md_gr_takePhrase S T6 := FR.tr hFT5 w65 rfl
            show Rl _ _ _ _ _ [iv z64] _ _
            refine l_if_eq rfl rfl (by unfold rg; omega) (fun w66 => ?_) (fun w67 => ?_)
            · refine l_iconst rfl ?_
              refine l_ireturn rfl rfl ?_
              have w68 : 0 ≤ Xi T6 890 1 ∧ Xi T6 890 1 ≤ 5130 := hHT6.c _ _
              exact ⟨hHT6, hFT6, _, rfl, ⟨by omega, by omega⟩, (by omega), (by first | (intro _; assumption) | (intro hz; exact say_two2 (T := T5) hs (by omega) (m877 (by assumption) rfl) (m877 (by assumption) rfl) (by omega) (by omega) (by omega)))⟩
            · refine l_aload_n rfl rfl ?_
              have w69 : Xi T6 876 7 = Xi S 876 7 := (show Xi T6 876 7 = Xi T5 876 7 from w65.x _ _ rfl).trans ( (show Xi T5 876 7 = Xi T4 876 7 from w53.x _ _ rfl).trans ( (show Xi T4 876 7 = Xi T3 876 7 from w42.x _ _ rfl).trans ( (show Xi T3 876 7 = Xi T2 876 7 from w31.x _ _ rfl).trans ( (show Xi T2 876 7 = Xi T1 876 7 from w20.x _ _ rfl).trans ((show Xi T1 876 7 = Xi S 876 7 from w9.x _ _ rfl))))))
              have w70 : 0 ≤ Xi S 876 7 ∧ Xi S 876 7 ≤ 5130 := hH.c _ _
              have w71 : 0 ≤ Xi T6 890 1 ∧ Xi T6 890 1 ≤ 5130 := hHT6.c _ _
              refine l_callV rfl rfl rfl (t_gr_takeThing hHT6 (by first | assumption | omega) (by first | assumption | omega) _) ?_
              rintro _ T7 ⟨hHT7, w75, z74, rfl, w74, w72, w73⟩
              have hFT7 : FR md_gr_takePhrase S T7 := FR.tr hFT6 w75 rfl
              show Rl _ _ _ _ _ [iv z74] _ _
              refine l_if_eq rfl rfl (by unfold rg; omega) (fun w76 => ?_) (fun w77 => ?_)
              · refine l_iconst rfl ?_
                refine l_ireturn rfl rfl ?_
                have w78 : 0 ≤ Xi T7 890 1 ∧ Xi T7 890 1 ≤ 5130 := hHT7.c _ _
                exact ⟨hHT7, hFT7, _, rfl, ⟨by omega, by omega⟩, (by omega), (by first | (intro _; assumption) | (intro hz; exact say_two2 (T := T6) hs (by omega) (m877 (by assumption) rfl) (m877 (by assumption) rfl) (by omega) (by omega) (by omega)))⟩
              · refine l_aload_n rfl rfl ?_
                refine l_bipush rfl rfl ?_
                have w79 : Xi T7 876 7 = Xi S 876 7 := (show Xi T7 876 7 = Xi T6 876 7 from w75.x _ _ rfl).trans ( (show Xi T6 876 7 = Xi T5 876 7 from w65.x _ _ rfl).trans ( (show Xi T5 876 7 = Xi T4 876 7 from w53.x _ _ rfl).trans ( (show Xi T4 876 7 = Xi T3 876 7 from w42.x _ _ rfl).trans ( (show Xi T3 876 7 = Xi T2 876 7 from w31.x _ _ rfl).trans ( (show Xi T2 876 7 = Xi T1 876 7 from w20.x _ _ rfl).trans ((show Xi T1 876 7 = Xi S 876 7 from w9.x _ _ rfl)))))))
                have w80 : 0 ≤ Xi S 876 7 ∧ Xi S 876 7 ≤ 5130 := hH.c _ _
                have w81 : 0 ≤ Xi T7 890 1 ∧ Xi T7 890 1 ≤ 5130 := hHT7.c _ _
                refine l_callV rfl rfl rfl (t_gr_take hHT7 10 ⟨by omega, by omega⟩ (by first | assumption | omega) (by first | assumption | omega) (by first | assumption | omega) _) ?_
                rintro _ T8 ⟨hHT8, w87, z86, rfl, w86, w82, w83, w84, w85⟩
                have hFT8 : FR md_gr_takePhrase S T8 := FR.tr hFT7 w87 rfl
                show Rl _ _ _ _ _ [iv z86] _ _
                refine l_if_eq rfl rfl (by unfold rg; omega) (fun w88 => ?_) (fun w89 => ?_)
                · refine l_iconst rfl ?_
                  refine l_ireturn rfl rfl ?_
                  have w90 : 0 ≤ Xi T8 890 1 ∧ Xi T8 890 1 ≤ 5130 := hHT8.c _ _
                  exact ⟨hHT8, hFT8, _, rfl, ⟨by omega, by omega⟩, (by omega), (by first | (intro _; assumption) | (intro hz; exact say_two2 (T := T7) hs (by omega) (m877 (by assumption) rfl) (m877 (by assumption) rfl) (by omega) (by omega) (by omega)))⟩
                · refine l_aload_n rfl rfl ?_
                  refine l_bipush rfl rfl ?_
                  have w91 : Xi T8 876 7 = Xi S 876 7 := (show Xi T8 876 7 = Xi T7 876 7 from w87.x _ _ rfl).trans ( (show Xi T7 876 7 = Xi T6 876 7 from w75.x _ _ rfl).trans ( (show Xi T6 876 7 = Xi T5 876 7 from w65.x _ _ rfl).trans ( (show Xi T5 876 7 = Xi T4 876 7 from w53.x _ _ rfl).trans ( (show Xi T4 876 7 = Xi T3 876 7 from w42.x _ _ rfl).trans ( (show Xi T3 876 7 = Xi T2 876 7 from w31.x _ _ rfl).trans ( (show Xi T2 876 7 = Xi T1 876 7 from w20.x _ _ rfl).trans ((show Xi T1 876 7 = Xi S 876 7 from w9.x _ _ rfl))))))))
                  have w92 : 0 ≤ Xi S 876 7 ∧ Xi S 876 7 ≤ 5130 := hH.c _ _
                  have w93 : 0 ≤ Xi T8 890 1 ∧ Xi T8 890 1 ≤ 5130 := hHT8.c _ _
                  refine l_callV rfl rfl rfl (t_gr_take hHT8 101 ⟨by omega, by omega⟩ (by first | assumption | omega) (by first | assumption | omega) (by first | assumption | omega) _) ?_
                  rintro _ T9 ⟨hHT9, w99, z98, rfl, w98, w94, w95, w96, w97⟩
                  have hFT9 : FR md_gr_takePhrase S T9 := FR.tr hFT8 w99 rfl
                  show Rl _ _ _ _ _ [iv z98] _ _
                  refine l_if_eq rfl rfl (by unfold rg; omega) (fun w100 => ?_) (fun w101 => ?_)
                  · refine l_iconst rfl ?_
                    refine l_ireturn rfl rfl ?_
                    have w102 : 0 ≤ Xi T9 890 1 ∧ Xi T9 890 1 ≤ 5130 := hHT9.c _ _
                    exact ⟨hHT9, hFT9, _, rfl, ⟨by omega, by omega⟩, (by omega), (by first | (intro _; assumption) | (intro hz; exact say_two2 (T := T8) hs (by omega) (m877 (by assumption) rfl) (m877 (by assumption) rfl) (by omega) (by omega) (by omega)))⟩
                  · refine l_iconst rfl ?_
                    refine l_goto rfl rfl ?_
                    refine l_ireturn rfl rfl ?_
                    have w103 : 0 ≤ Xi T9 890 1 ∧ Xi T9 890 1 ≤ 5130 := hHT9.c _ _
                    exact ⟨hHT9, hFT9, _, rfl, ⟨by omega, by omega⟩, (by omega), (by first | (intro _; assumption) | (intro hz; exact say_two2 (T := T8) hs (by omega) (m877 (by assumption) rfl) (m877 (by assumption) rfl) (by omega) (by omega) (by omega)))⟩
      · refine l_aload_n rfl rfl ?_
        refine l_bipush rfl rfl ?_
        have w104 : Xi T3 876 7 = Xi S 876 7 := (show Xi T3 876 7 = Xi T2 876 7 from w31.x _ _ rfl).trans ( (show Xi T2 876 7 = Xi T1 876 7 from w20.x _ _ rfl).trans ((show Xi T1 876 7 = Xi S 876 7 from w9.x _ _ rfl)))
        have w105 : 0 ≤ Xi S 876 7 ∧ Xi S 876 7 ≤ 5130 := hH.c _ _
        have w106 : 0 ≤ Xi T3 890 1 ∧ Xi T3 890 1 ≤ 5130 := hHT3.c _ _
        refine l_callV rfl rfl rfl (t_gr_take hHT3 47 ⟨by omega, by omega⟩ (by first | assumption | omega) (by first | assumption | omega) (by first | assumption | omega) _) ?_
        rintro _ T10 ⟨hHT10, w112, z111, rfl, w111, w107, w108, w109, w110⟩
        have hFT10 : FR md_gr_takePhrase S T10 := FR.tr hFT3 w112 rfl
        show Rl _ _ _ _ _ [iv z111] _ _
        refine l_if_eq rfl rfl (by unfold rg; omega) (fun w113 => ?_) (fun w114 => ?_)
        · refine l_aload_n rfl rfl ?_
          refine l_bipush rfl rfl ?_
          have w115 : Xi T10 876 7 = Xi S 876 7 := (show Xi T10 876 7 = Xi T3 876 7 from w112.x _ _ rfl).trans ( (show Xi T3 876 7 = Xi T2 876 7 from w31.x _ _ rfl).trans ( (show Xi T2 876 7 = Xi T1 876 7 from w20.x _ _ rfl).trans ((show Xi T1 876 7 = Xi S 876 7 from w9.x _ _ rfl))))
          have w116 : 0 ≤ Xi S 876 7 ∧ Xi S 876 7 ≤ 5130 := hH.c _ _
          have w117 : 0 ≤ Xi T10 890 1 ∧ Xi T10 890 1 ≤ 5130 := hHT10.c _ _
          refine l_callV rfl rfl rfl (t_gr_take hHT10 49 ⟨by omega, by omega⟩ (by first | assumption | omega) (by first | assumption | omega) (by first | assumption | omega) _) ?_
          rintro _ T11 ⟨hHT11, w123, z122, rfl, w122, w118, w119, w120, w121⟩
          have hFT11 : FR md_gr_takePhrase S T11 := FR.tr hFT10 w123 rfl
          show Rl _ _ _ _ _ [iv z122] _ _
          refine l_if_eq rfl rfl (by unfold rg; omega) (fun w124 => ?_) (fun w125 => ?_)
          · refine l_aload_n rfl rfl ?_
            refine l_bipush rfl rfl ?_
            have w126 : Xi T11 876 7 = Xi S 876 7 := (show Xi T11 876 7 = Xi T10 876 7 from w123.x _ _ rfl).trans ( (show Xi T10 876 7 = Xi T3 876 7 from w112.x _ _ rfl).trans ( (show Xi T3 876 7 = Xi T2 876 7 from w31.x _ _ rfl).trans ( (show Xi T2 876 7 = Xi T1 876 7 from w20.x _ _ rfl).trans ((show Xi T1 876 7 = Xi S 876 7 from w9.x _ _ rfl)))))
            have w127 : 0 ≤ Xi S 876 7 ∧ Xi S 876 7 ≤ 5130 := hH.c _ _
            have w128 : 0 ≤ Xi T11 890 1 ∧ Xi T11 890 1 ≤ 5130 := hHT11.c _ _
            refine l_callV rfl rfl rfl (t_gr_take hHT11 48 ⟨by omega, by omega⟩ (by first | assumption | omega) (by first | assumption | omega) (by first | assumption | omega) _) ?_
            rintro _ T12 ⟨hHT12, w134, z133, rfl, w133, w129, w130, w131, w132⟩
            have hFT12 : FR md_gr_takePhrase S T12 := FR.tr hFT11 w134 rfl
            show Rl _ _ _ _ _ [iv z133] _ _
            refine l_ireturn rfl (retI_z (by omega)) ?_
            have w135 : 0 ≤ Xi T12 890 1 ∧ Xi T12 890 1 ≤ 5130 := hHT12.c _ _
            exact ⟨hHT12, hFT12, _, rfl, ⟨by omega, by omega⟩, (by omega), (by first | (intro _; assumption) | (intro hz; exact say_two2 (T := T11) hs (by omega) (m877 (by assumption) rfl) (m877 (by assumption) rfl) (by omega) (by omega) (by omega)))⟩
          · refine l_aload_n rfl rfl ?_
            have w136 : Xi T11 876 7 = Xi S 876 7 := (show Xi T11 876 7 = Xi T10 876 7 from w123.x _ _ rfl).trans ( (show Xi T10 876 7 = Xi T3 876 7 from w112.x _ _ rfl).trans ( (show Xi T3 876 7 = Xi T2 876 7 from w31.x _ _ rfl).trans ( (show Xi T2 876 7 = Xi T1 876 7 from w20.x _ _ rfl).trans ((show Xi T1 876 7 = Xi S 876 7 from w9.x _ _ rfl)))))
            have w137 : 0 ≤ Xi S 876 7 ∧ Xi S 876 7 ≤ 5130 := hH.c _ _
            have w138 : 0 ≤ Xi T11 890 1 ∧ Xi T11 890 1 ≤ 5130 := hHT11.c _ _
            refine l_callV rfl rfl rfl (t_gr_takeRun hHT11 (by first | assumption | omega) (by first | assumption | omega) _) ?_
            rintro _ T13 ⟨hHT13, w143, z142, rfl, w142, w139, w140, w141⟩
            have hFT13 : FR md_gr_takePhrase S T13 := FR.tr hFT11 w143 rfl
            show Rl _ _ _ _ _ [iv z142] _ _
            refine l_istore_n rfl rfl rfl ?_
            refine l_aload_n rfl rfl ?_
            refine l_gfr rfl rfl rfl rfl rfl (hHT13.r 890 0 876 rfl) ?_
            refine l_aload_n rfl rfl ?_
            refine l_gfi rfl rfl rfl rfl rfl ?_
            have w144 : 0 ≤ (Xi T13 890 1) ∧ (Xi T13 890 1) ≤ 5130 := hHT13.c _ _
            have w145 : Xi T13 876 7 = Xi S 876 7 := (show Xi T13 876 7 = Xi T11 876 7 from w143.x _ _ rfl).trans ( (show Xi T11 876 7 = Xi T10 876 7 from w123.x _ _ rfl).trans ( (show Xi T10 876 7 = Xi T3 876 7 from w112.x _ _ rfl).trans ( (show Xi T3 876 7 = Xi T2 876 7 from w31.x _ _ rfl).trans ( (show Xi T2 876 7 = Xi T1 876 7 from w20.x _ _ rfl).trans ((show Xi T1 876 7 = Xi S 876 7 from w9.x _ _ rfl))))))
            have w146 : 0 ≤ Xi S 876 7 ∧ Xi S 876 7 ≤ 5130 := hH.c _ _
            refine l_callV rfl rfl rfl (t_to_typeAt hHT13 (Xi T13 890 1) ⟨by omega, by omega⟩ _) ?_
            rintro _ _ ⟨rfl, z148, rfl, w148, w147⟩
            show Rl _ _ _ _ _ [iv z148] _ _
            refine l_istore_n rfl rfl rfl ?_
            refine l_iload_n rfl rfl ?_
            refine l_callS rfl rfl (by decide) rfl (t_rs_isArt hHT13 z148 ⟨by omega, by omega⟩ _) ?_
            rintro _ _ ⟨rfl, z150, rfl, w150, w149⟩
            show Rl _ _ _ _ _ [iv z150] _ _
            refine l_if_ne rfl rfl (by unfold rg; omega) (fun w151 => ?_) (fun w152 => ?_)
            · refine l_iconst rfl ?_
              refine l_goto rfl rfl ?_
              refine l_istore_n rfl rfl rfl ?_
              refine l_iload_n rfl rfl ?_
              refine l_if_eq rfl rfl (by unfold rg; omega) (fun w153 => ?_) (fun w154 => ?_)
              · refine l_iconst rfl ?_
                refine l_ireturn rfl rfl ?_
                have w155 : 0 ≤ Xi T13 890 1 ∧ Xi T13 890 1 ≤ 5130 := hHT13.c _ _
                exact ⟨hHT13, hFT13, _, rfl, ⟨by omega, by omega⟩, (by omega), (by first | (intro _; assumption) | (intro hz; exact say_two2 (T := T11) hs (by omega) (m877 (by assumption) rfl) (m877 (by assumption) rfl) (by omega) (by omega) (by omega)))⟩
              · refine l_iload_n rfl rfl ?_
                refine l_if_eq rfl rfl (by unfold rg; omega) (fun w156 => absurd w156 (by omega)) (fun w157 => ?_)
                · refine l_aload_n rfl rfl ?_
                  have w158 : Xi T13 876 7 = Xi S 876 7 := (show Xi T13 876 7 = Xi T11 876 7 from w143.x _ _ rfl).trans ( (show Xi T11 876 7 = Xi T10 876 7 from w123.x _ _ rfl).trans ( (show Xi T10 876 7 = Xi T3 876 7 from w112.x _ _ rfl).trans ( (show Xi T3 876 7 = Xi T2 876 7 from w31.x _ _ rfl).trans ( (show Xi T2 876 7 = Xi T1 876 7 from w20.x _ _ rfl).trans ((show Xi T1 876 7 = Xi S 876 7 from w9.x _ _ rfl))))))
                  have w159 : 0 ≤ Xi S 876 7 ∧ Xi S 876 7 ≤ 5130 := hH.c _ _
                  have w160 : 0 ≤ Xi T13 890 1 ∧ Xi T13 890 1 ≤ 5130 := hHT13.c _ _
                  refine l_callV rfl rfl rfl (t_gr_takeThing hHT13 (by first | assumption | omega) (by first | assumption | omega) _) ?_
                  rintro _ T14 ⟨hHT14, w164, z163, rfl, w163, w161, w162⟩
                  have hFT14 : FR md_gr_takePhrase S T14 := FR.tr hFT13 w164 rfl
                  show Rl _ _ _ _ _ [iv z163] _ _
                  refine l_if_eq rfl rfl (by unfold rg; omega) (fun w165 => ?_) (fun w166 => ?_)
                  · refine l_iconst rfl ?_
                    refine l_ireturn rfl rfl ?_
                    have w167 : 0 ≤ Xi T14 890 1 ∧ Xi T14 890 1 ≤ 5130 := hHT14.c _ _
                    exact ⟨hHT14, hFT14, _, rfl, ⟨by omega, by omega⟩, (by omega), (by first | (intro _; assumption) | (intro hz; exact say_two2 (T := T13) hs (by omega) (m877 (by assumption) rfl) (m877 (by assumption) rfl) (by omega) (by omega) (by omega)))⟩
                  · refine l_iconst rfl ?_
                    refine l_goto rfl rfl ?_
                    refine l_ireturn rfl rfl ?_
                    have w168 : 0 ≤ Xi T14 890 1 ∧ Xi T14 890 1 ≤ 5130 := hHT14.c _ _
                    exact ⟨hHT14, hFT14, _, rfl, ⟨by omega, by omega⟩, (by omega), (by first | (intro _; assumption) | (intro hz; exact say_two2 (T := T13) hs (by omega) (m877 (by assumption) rfl) (m877 (by assumption) rfl) (by omega) (by omega) (by omega)))⟩
            · refine l_iload_n rfl rfl ?_
              refine l_bipush rfl rfl ?_
              refine l_icmp_eq rfl rfl (by unfold rg; omega) (by unfold rg; omega) (fun w169 => ?_) (fun w170 => ?_)
              · refine l_iconst rfl ?_
                refine l_goto rfl rfl ?_
                refine l_istore_n rfl rfl rfl ?_
                refine l_iload_n rfl rfl ?_
                refine l_if_eq rfl rfl (by unfold rg; omega) (fun w171 => ?_) (fun w172 => ?_)
                · refine l_iconst rfl ?_
                  refine l_ireturn rfl rfl ?_
                  have w173 : 0 ≤ Xi T13 890 1 ∧ Xi T13 890 1 ≤ 5130 := hHT13.c _ _
                  exact ⟨hHT13, hFT13, _, rfl, ⟨by omega, by omega⟩, (by omega), (by first | (intro _; assumption) | (intro hz; exact say_two2 (T := T11) hs (by omega) (m877 (by assumption) rfl) (m877 (by assumption) rfl) (by omega) (by omega) (by omega)))⟩
                · refine l_iload_n rfl rfl ?_
                  refine l_if_eq rfl rfl (by unfold rg; omega) (fun w174 => absurd w174 (by omega)) (fun w175 => ?_)
                  · refine l_aload_n rfl rfl ?_
                    have w176 : Xi T13 876 7 = Xi S 876 7 := (show Xi T13 876 7 = Xi T11 876 7 from w143.x _ _ rfl).trans ( (show Xi T11 876 7 = Xi T10 876 7 from w123.x _ _ rfl).trans ( (show Xi T10 876 7 = Xi T3 876 7 from w112.x _ _ rfl).trans ( (show Xi T3 876 7 = Xi T2 876 7 from w31.x _ _ rfl).trans ( (show Xi T2 876 7 = Xi T1 876 7 from w20.x _ _ rfl).trans ((show Xi T1 876 7 = Xi S 876 7 from w9.x _ _ rfl))))))
                    have w177 : 0 ≤ Xi S 876 7 ∧ Xi S 876 7 ≤ 5130 := hH.c _ _
                    have w178 : 0 ≤ Xi T13 890 1 ∧ Xi T13 890 1 ≤ 5130 := hHT13.c _ _
                    refine l_callV rfl rfl rfl (t_gr_takeThing hHT13 (by first | assumption | omega) (by first | assumption | omega) _) ?_
                    rintro _ T15 ⟨hHT15, w182, z181, rfl, w181, w179, w180⟩
                    have hFT15 : FR md_gr_takePhrase S T15 := FR.tr hFT13 w182 rfl
                    show Rl _ _ _ _ _ [iv z181] _ _
                    refine l_if_eq rfl rfl (by unfold rg; omega) (fun w183 => ?_) (fun w184 => ?_)
                    · refine l_iconst rfl ?_
                      refine l_ireturn rfl rfl ?_
                      have w185 : 0 ≤ Xi T15 890 1 ∧ Xi T15 890 1 ≤ 5130 := hHT15.c _ _
                      exact ⟨hHT15, hFT15, _, rfl, ⟨by omega, by omega⟩, (by omega), (by first | (intro _; assumption) | (intro hz; exact say_two2 (T := T13) hs (by omega) (m877 (by assumption) rfl) (m877 (by assumption) rfl) (by omega) (by omega) (by omega)))⟩
                    · refine l_iconst rfl ?_
                      refine l_goto rfl rfl ?_
                      refine l_ireturn rfl rfl ?_
                      have w186 : 0 ≤ Xi T15 890 1 ∧ Xi T15 890 1 ≤ 5130 := hHT15.c _ _
                      exact ⟨hHT15, hFT15, _, rfl, ⟨by omega, by omega⟩, (by omega), (by first | (intro _; assumption) | (intro hz; exact say_two2 (T := T13) hs (by omega) (m877 (by assumption) rfl) (m877 (by assumption) rfl) (by omega) (by omega) (by omega)))⟩
              · refine l_iload_n rfl rfl ?_
                refine l_bipush rfl rfl ?_
                refine l_icmp_ne rfl rfl (by unfold rg; omega) (by unfold rg; omega) (fun w187 => ?_) (fun w188 => ?_)
                · refine l_iconst rfl ?_
                  refine l_istore_n rfl rfl rfl ?_
                  refine l_iload_n rfl rfl ?_
                  refine l_if_eq rfl rfl (by unfold rg; omega) (fun w189 => ?_) (fun w190 => ?_)
                  · refine l_iconst rfl ?_
                    refine l_ireturn rfl rfl ?_
                    have w191 : 0 ≤ Xi T13 890 1 ∧ Xi T13 890 1 ≤ 5130 := hHT13.c _ _
                    exact ⟨hHT13, hFT13, _, rfl, ⟨by omega, by omega⟩, (by omega), (by first | (intro _; assumption) | (intro hz; exact say_two2 (T := T11) hs (by omega) (m877 (by assumption) rfl) (m877 (by assumption) rfl) (by omega) (by omega) (by omega)))⟩
                  · refine l_iload_n rfl rfl ?_
                    refine l_if_eq rfl rfl (by unfold rg; omega) (fun w192 => ?_) (fun w193 => absurd w193 (by omega))
                    · refine l_iconst rfl ?_
                      refine l_goto rfl rfl ?_
                      refine l_ireturn rfl rfl ?_
                      have w194 : 0 ≤ Xi T13 890 1 ∧ Xi T13 890 1 ≤ 5130 := hHT13.c _ _
                      exact ⟨hHT13, hFT13, _, rfl, ⟨by omega, by omega⟩, (by omega), (by first | (intro _; assumption) | (intro hz; exact say_two2 (T := T11) hs (by omega) (m877 (by assumption) rfl) (m877 (by assumption) rfl) (by omega) (by omega) (by omega)))⟩
                · refine l_iconst rfl ?_
                  refine l_goto rfl rfl ?_
                  refine l_istore_n rfl rfl rfl ?_
                  refine l_iload_n rfl rfl ?_
                  refine l_if_eq rfl rfl (by unfold rg; omega) (fun w195 => ?_) (fun w196 => ?_)
                  · refine l_iconst rfl ?_
                    refine l_ireturn rfl rfl ?_
                    have w197 : 0 ≤ Xi T13 890 1 ∧ Xi T13 890 1 ≤ 5130 := hHT13.c _ _
                    exact ⟨hHT13, hFT13, _, rfl, ⟨by omega, by omega⟩, (by omega), (by first | (intro _; assumption) | (intro hz; exact say_two2 (T := T11) hs (by omega) (m877 (by assumption) rfl) (m877 (by assumption) rfl) (by omega) (by omega) (by omega)))⟩
                  · refine l_iload_n rfl rfl ?_
                    refine l_if_eq rfl rfl (by unfold rg; omega) (fun w198 => absurd w198 (by omega)) (fun w199 => ?_)
                    · refine l_aload_n rfl rfl ?_
                      have w200 : Xi T13 876 7 = Xi S 876 7 := (show Xi T13 876 7 = Xi T11 876 7 from w143.x _ _ rfl).trans ( (show Xi T11 876 7 = Xi T10 876 7 from w123.x _ _ rfl).trans ( (show Xi T10 876 7 = Xi T3 876 7 from w112.x _ _ rfl).trans ( (show Xi T3 876 7 = Xi T2 876 7 from w31.x _ _ rfl).trans ( (show Xi T2 876 7 = Xi T1 876 7 from w20.x _ _ rfl).trans ((show Xi T1 876 7 = Xi S 876 7 from w9.x _ _ rfl))))))
                      have w201 : 0 ≤ Xi S 876 7 ∧ Xi S 876 7 ≤ 5130 := hH.c _ _
                      have w202 : 0 ≤ Xi T13 890 1 ∧ Xi T13 890 1 ≤ 5130 := hHT13.c _ _
                      refine l_callV rfl rfl rfl (t_gr_takeThing hHT13 (by first | assumption | omega) (by first | assumption | omega) _) ?_
                      rintro _ T16 ⟨hHT16, w206, z205, rfl, w205, w203, w204⟩
                      have hFT16 : FR md_gr_takePhrase S T16 := FR.tr hFT13 w206 rfl
                      show Rl _ _ _ _ _ [iv z205] _ _
                      refine l_if_eq rfl rfl (by unfold rg; omega) (fun w207 => ?_) (fun w208 => ?_)
                      · refine l_iconst rfl ?_
                        refine l_ireturn rfl rfl ?_
                        have w209 : 0 ≤ Xi T16 890 1 ∧ Xi T16 890 1 ≤ 5130 := hHT16.c _ _
                        exact ⟨hHT16, hFT16, _, rfl, ⟨by omega, by omega⟩, (by omega), (by first | (intro _; assumption) | (intro hz; exact say_two2 (T := T13) hs (by omega) (m877 (by assumption) rfl) (m877 (by assumption) rfl) (by omega) (by omega) (by omega)))⟩
                      · refine l_iconst rfl ?_
                        refine l_goto rfl rfl ?_
                        refine l_ireturn rfl rfl ?_
                        have w210 : 0 ≤ Xi T16 890 1 ∧ Xi T16 890 1 ≤ 5130 := hHT16.c _ _
                        exact ⟨hHT16, hFT16, _, rfl, ⟨by omega, by omega⟩, (by omega), (by first | (intro _; assumption) | (intro hz; exact say_two2 (T := T13) hs (by omega) (m877 (by assumption) rfl) (m877 (by assumption) rfl) (by omega) (by omega) (by omega)))⟩
        · refine l_aload_n rfl rfl ?_
          refine l_iconst rfl ?_
          have w211 : Xi T10 876 7 = Xi S 876 7 := (show Xi T10 876 7 = Xi T3 876 7 from w112.x _ _ rfl).trans ( (show Xi T3 876 7 = Xi T2 876 7 from w31.x _ _ rfl).trans ( (show Xi T2 876 7 = Xi T1 876 7 from w20.x _ _ rfl).trans ((show Xi T1 876 7 = Xi S 876 7 from w9.x _ _ rfl))))
          have w212 : 0 ≤ Xi S 876 7 ∧ Xi S 876 7 ≤ 5130 := hH.c _ _
          have w213 : 0 ≤ Xi T10 890 1 ∧ Xi T10 890 1 ≤ 5130 := hHT10.c _ _
          refine l_callV rfl rfl rfl (t_gr_take hHT10 2 ⟨by omega, by omega⟩ (by first | assumption | omega) (by first | assumption | omega) (by first | assumption | omega) _) ?_
          rintro _ T17 ⟨hHT17, w219, z218, rfl, w218, w214, w215, w216, w217⟩
          have hFT17 : FR md_gr_takePhrase S T17 := FR.tr hFT10 w219 rfl
          show Rl _ _ _ _ _ [iv z218] _ _
          refine l_if_eq rfl rfl (by unfold rg; omega) (fun w220 => ?_) (fun w221 => ?_)
          · refine l_iconst rfl ?_
            refine l_ireturn rfl rfl ?_
            have w222 : 0 ≤ Xi T17 890 1 ∧ Xi T17 890 1 ≤ 5130 := hHT17.c _ _
            exact ⟨hHT17, hFT17, _, rfl, ⟨by omega, by omega⟩, (by omega), (by first | (intro _; assumption) | (intro hz; exact say_two2 (T := T10) hs (by omega) (m877 (by assumption) rfl) (m877 (by assumption) rfl) (by omega) (by omega) (by omega)))⟩
          · refine l_aload_n rfl rfl ?_
            have w223 : Xi T17 876 7 = Xi S 876 7 := (show Xi T17 876 7 = Xi T10 876 7 from w219.x _ _ rfl).trans ( (show Xi T10 876 7 = Xi T3 876 7 from w112.x _ _ rfl).trans ( (show Xi T3 876 7 = Xi T2 876 7 from w31.x _ _ rfl).trans ( (show Xi T2 876 7 = Xi T1 876 7 from w20.x _ _ rfl).trans ((show Xi T1 876 7 = Xi S 876 7 from w9.x _ _ rfl)))))
            have w224 : 0 ≤ Xi S 876 7 ∧ Xi S 876 7 ≤ 5130 := hH.c _ _
            have w225 : 0 ≤ Xi T17 890 1 ∧ Xi T17 890 1 ≤ 5130 := hHT17.c _ _
            refine l_callV rfl rfl rfl (t_gr_takeRun hHT17 (by first | assumption | omega) (by first | assumption | omega) _) ?_
            rintro _ T18 ⟨hHT18, w230, z229, rfl, w229, w226, w227, w228⟩
            have hFT18 : FR md_gr_takePhrase S T18 := FR.tr hFT17 w230 rfl
            show Rl _ _ _ _ _ [iv z229] _ _
            refine l_if_eq rfl rfl (by unfold rg; omega) (fun w231 => ?_) (fun w232 => ?_)
            · refine l_iconst rfl ?_
              refine l_ireturn rfl rfl ?_
              have w233 : 0 ≤ Xi T18 890 1 ∧ Xi T18 890 1 ≤ 5130 := hHT18.c _ _
              exact ⟨hHT18, hFT18, _, rfl, ⟨by omega, by omega⟩, (by omega), (by first | (intro _; assumption) | (intro hz; exact say_two2 (T := T17) hs (by omega) (m877 (by assumption) rfl) (m877 (by assumption) rfl) (by omega) (by omega) (by omega)))⟩
            · refine l_aload_n rfl rfl ?_
              refine l_bipush rfl rfl ?_
              have w234 : Xi T18 876 7 = Xi S 876 7 := (show Xi T18 876 7 = Xi T17 876 7 from w230.x _ _ rfl).trans ( (show Xi T17 876 7 = Xi T10 876 7 from w219.x _ _ rfl).trans ( (show Xi T10 876 7 = Xi T3 876 7 from w112.x _ _ rfl).trans ( (show Xi T3 876 7 = Xi T2 876 7 from w31.x _ _ rfl).trans ( (show Xi T2 876 7 = Xi T1 876 7 from w20.x _ _ rfl).trans ((show Xi T1 876 7 = Xi S 876 7 from w9.x _ _ rfl))))))
              have w235 : 0 ≤ Xi S 876 7 ∧ Xi S 876 7 ≤ 5130 := hH.c _ _
              have w236 : 0 ≤ Xi T18 890 1 ∧ Xi T18 890 1 ≤ 5130 := hHT18.c _ _
              refine l_callV rfl rfl rfl (t_gr_take hHT18 7 ⟨by omega, by omega⟩ (by first | assumption | omega) (by first | assumption | omega) (by first | assumption | omega) _) ?_
              rintro _ T19 ⟨hHT19, w242, z241, rfl, w241, w237, w238, w239, w240⟩
              have hFT19 : FR md_gr_takePhrase S T19 := FR.tr hFT18 w242 rfl
              show Rl _ _ _ _ _ [iv z241] _ _
              refine l_if_eq rfl rfl (by unfold rg; omega) (fun w243 => ?_) (fun w244 => ?_)
              · refine l_iconst rfl ?_
                refine l_ireturn rfl rfl ?_
                have w245 : 0 ≤ Xi T19 890 1 ∧ Xi T19 890 1 ≤ 5130 := hHT19.c _ _
                exact ⟨hHT19, hFT19, _, rfl, ⟨by omega, by omega⟩, (by omega), (by first | (intro _; assumption) | (intro hz; exact say_two2 (T := T18) hs (by omega) (m877 (by assumption) rfl) (m877 (by assumption) rfl) (by omega) (by omega) (by omega)))⟩
              · refine l_aload_n rfl rfl ?_
                have w246 : Xi T19 876 7 = Xi S 876 7 := (show Xi T19 876 7 = Xi T18 876 7 from w242.x _ _ rfl).trans ( (show Xi T18 876 7 = Xi T17 876 7 from w230.x _ _ rfl).trans ( (show Xi T17 876 7 = Xi T10 876 7 from w219.x _ _ rfl).trans ( (show Xi T10 876 7 = Xi T3 876 7 from w112.x _ _ rfl).trans ( (show Xi T3 876 7 = Xi T2 876 7 from w31.x _ _ rfl).trans ( (show Xi T2 876 7 = Xi T1 876 7 from w20.x _ _ rfl).trans ((show Xi T1 876 7 = Xi S 876 7 from w9.x _ _ rfl)))))))
                have w247 : 0 ≤ Xi S 876 7 ∧ Xi S 876 7 ≤ 5130 := hH.c _ _
                have w248 : 0 ≤ Xi T19 890 1 ∧ Xi T19 890 1 ≤ 5130 := hHT19.c _ _
                refine l_callV rfl rfl rfl (t_gr_takeThing hHT19 (by first | assumption | omega) (by first | assumption | omega) _) ?_
                rintro _ T20 ⟨hHT20, w252, z251, rfl, w251, w249, w250⟩
                have hFT20 : FR md_gr_takePhrase S T20 := FR.tr hFT19 w252 rfl
                show Rl _ _ _ _ _ [iv z251] _ _
                refine l_if_eq rfl rfl (by unfold rg; omega) (fun w253 => ?_) (fun w254 => ?_)
                · refine l_iconst rfl ?_
                  refine l_ireturn rfl rfl ?_
                  have w255 : 0 ≤ Xi T20 890 1 ∧ Xi T20 890 1 ≤ 5130 := hHT20.c _ _
                  exact ⟨hHT20, hFT20, _, rfl, ⟨by omega, by omega⟩, (by omega), (by first | (intro _; assumption) | (intro hz; exact say_two2 (T := T19) hs (by omega) (m877 (by assumption) rfl) (m877 (by assumption) rfl) (by omega) (by omega) (by omega)))⟩
                · refine l_aload_n rfl rfl ?_
                  refine l_bipush rfl rfl ?_
                  have w256 : Xi T20 876 7 = Xi S 876 7 := (show Xi T20 876 7 = Xi T19 876 7 from w252.x _ _ rfl).trans ( (show Xi T19 876 7 = Xi T18 876 7 from w242.x _ _ rfl).trans ( (show Xi T18 876 7 = Xi T17 876 7 from w230.x _ _ rfl).trans ( (show Xi T17 876 7 = Xi T10 876 7 from w219.x _ _ rfl).trans ( (show Xi T10 876 7 = Xi T3 876 7 from w112.x _ _ rfl).trans ( (show Xi T3 876 7 = Xi T2 876 7 from w31.x _ _ rfl).trans ( (show Xi T2 876 7 = Xi T1 876 7 from w20.x _ _ rfl).trans ((show Xi T1 876 7 = Xi S 876 7 from w9.x _ _ rfl))))))))
                  have w257 : 0 ≤ Xi S 876 7 ∧ Xi S 876 7 ≤ 5130 := hH.c _ _
                  have w258 : 0 ≤ Xi T20 890 1 ∧ Xi T20 890 1 ≤ 5130 := hHT20.c _ _
                  refine l_callV rfl rfl rfl (t_gr_take hHT20 10 ⟨by omega, by omega⟩ (by first | assumption | omega) (by first | assumption | omega) (by first | assumption | omega) _) ?_
                  rintro _ T21 ⟨hHT21, w264, z263, rfl, w263, w259, w260, w261, w262⟩
                  have hFT21 : FR md_gr_takePhrase S T21 := FR.tr hFT20 w264 rfl
                  show Rl _ _ _ _ _ [iv z263] _ _
                  refine l_if_eq rfl rfl (by unfold rg; omega) (fun w265 => ?_) (fun w266 => ?_)
                  · refine l_iconst rfl ?_
                    refine l_ireturn rfl rfl ?_
                    have w267 : 0 ≤ Xi T21 890 1 ∧ Xi T21 890 1 ≤ 5130 := hHT21.c _ _
                    exact ⟨hHT21, hFT21, _, rfl, ⟨by omega, by omega⟩, (by omega), (by first | (intro _; assumption) | (intro hz; exact say_two2 (T := T20) hs (by omega) (m877 (by assumption) rfl) (m877 (by assumption) rfl) (by omega) (by omega) (by omega)))⟩
                  · refine l_aload_n rfl rfl ?_
                    refine l_bipush rfl rfl ?_
                    have w268 : Xi T21 876 7 = Xi S 876 7 := (show Xi T21 876 7 = Xi T20 876 7 from w264.x _ _ rfl).trans ( (show Xi T20 876 7 = Xi T19 876 7 from w252.x _ _ rfl).trans ( (show Xi T19 876 7 = Xi T18 876 7 from w242.x _ _ rfl).trans ( (show Xi T18 876 7 = Xi T17 876 7 from w230.x _ _ rfl).trans ( (show Xi T17 876 7 = Xi T10 876 7 from w219.x _ _ rfl).trans ( (show Xi T10 876 7 = Xi T3 876 7 from w112.x _ _ rfl).trans ( (show Xi T3 876 7 = Xi T2 876 7 from w31.x _ _ rfl).trans ( (show Xi T2 876 7 = Xi T1 876 7 from w20.x _ _ rfl).trans ((show Xi T1 876 7 = Xi S 876 7 from w9.x _ _ rfl)))))))))
                    have w269 : 0 ≤ Xi S 876 7 ∧ Xi S 876 7 ≤ 5130 := hH.c _ _
                    have w270 : 0 ≤ Xi T21 890 1 ∧ Xi T21 890 1 ≤ 5130 := hHT21.c _ _
                    refine l_callV rfl rfl rfl (t_gr_take hHT21 101 ⟨by omega, by omega⟩ (by first | assumption | omega) (by first | assumption | omega) (by first | assumption | omega) _) ?_
                    rintro _ T22 ⟨hHT22, w276, z275, rfl, w275, w271, w272, w273, w274⟩
                    have hFT22 : FR md_gr_takePhrase S T22 := FR.tr hFT21 w276 rfl
                    show Rl _ _ _ _ _ [iv z275] _ _
                    refine l_if_eq rfl rfl (by unfold rg; omega) (fun w277 => ?_) (fun w278 => ?_)
                    · refine l_iconst rfl ?_
                      refine l_ireturn rfl rfl ?_
                      have w279 : 0 ≤ Xi T22 890 1 ∧ Xi T22 890 1 ≤ 5130 := hHT22.c _ _
                      exact ⟨hHT22, hFT22, _, rfl, ⟨by omega, by omega⟩, (by omega), (by first | (intro _; assumption) | (intro hz; exact say_two2 (T := T21) hs (by omega) (m877 (by assumption) rfl) (m877 (by assumption) rfl) (by omega) (by omega) (by omega)))⟩
                    · refine l_iconst rfl ?_
                      refine l_goto rfl rfl ?_
                      refine l_ireturn rfl rfl ?_
                      have w280 : 0 ≤ Xi T22 890 1 ∧ Xi T22 890 1 ≤ 5130 := hHT22.c _ _
                      exact ⟨hHT22, hFT22, _, rfl, ⟨by omega, by omega⟩, (by omega), (by first | (intro _; assumption) | (intro hz; exact say_two2 (T := T21) hs (by omega) (m877 (by assumption) rfl) (m877 (by assumption) rfl) (by omega) (by omega) (by omega)))⟩
    · refine l_aload_n rfl rfl ?_
      have w281 : Xi T2 876 7 = Xi S 876 7 := (show Xi T2 876 7 = Xi T1 876 7 from w20.x _ _ rfl).trans ((show Xi T1 876 7 = Xi S 876 7 from w9.x _ _ rfl))
      have w282 : 0 ≤ Xi S 876 7 ∧ Xi S 876 7 ≤ 5130 := hH.c _ _
      have w283 : 0 ≤ Xi T2 890 1 ∧ Xi T2 890 1 ≤ 5130 := hHT2.c _ _
      refine l_callV rfl rfl rfl (t_gr_takeThing hHT2 (by first | assumption | omega) (by first | assumption | omega) _) ?_
      rintro _ T23 ⟨hHT23, w287, z286, rfl, w286, w284, w285⟩
      have hFT23 : FR md_gr_takePhrase S T23 := FR.tr hFT2 w287 rfl
      show Rl _ _ _ _ _ [iv z286] _ _
      refine l_if_eq rfl rfl (by unfold rg; omega) (fun w288 => ?_) (fun w289 => ?_)
      · refine l_iconst rfl ?_
        refine l_ireturn rfl rfl ?_
        have w290 : 0 ≤ Xi T23 890 1 ∧ Xi T23 890 1 ≤ 5130 := hHT23.c _ _
        exact ⟨hHT23, hFT23, _, rfl, ⟨by omega, by omega⟩, (by omega), (by first | (intro _; assumption) | (intro hz; exact say_two2 (T := T2) hs (by omega) (m877 (by assumption) rfl) (m877 (by assumption) rfl) (by omega) (by omega) (by omega)))⟩
      · refine l_aload_n rfl rfl ?_
        refine l_bipush rfl rfl ?_
        have w291 : Xi T23 876 7 = Xi S 876 7 := (show Xi T23 876 7 = Xi T2 876 7 from w287.x _ _ rfl).trans ( (show Xi T2 876 7 = Xi T1 876 7 from w20.x _ _ rfl).trans ((show Xi T1 876 7 = Xi S 876 7 from w9.x _ _ rfl)))
        have w292 : 0 ≤ Xi S 876 7 ∧ Xi S 876 7 ≤ 5130 := hH.c _ _
        have w293 : 0 ≤ Xi T23 890 1 ∧ Xi T23 890 1 ≤ 5130 := hHT23.c _ _
        refine l_callV rfl rfl rfl (t_gr_take hHT23 11 ⟨by omega, by omega⟩ (by first | assumption | omega) (by first | assumption | omega) (by first | assumption | omega) _) ?_
        rintro _ T24 ⟨hHT24, w299, z298, rfl, w298, w294, w295, w296, w297⟩
        have hFT24 : FR md_gr_takePhrase S T24 := FR.tr hFT23 w299 rfl
        show Rl _ _ _ _ _ [iv z298] _ _
        refine l_if_eq rfl rfl (by unfold rg; omega) (fun w300 => ?_) (fun w301 => ?_)
        · refine l_iconst rfl ?_
          refine l_ireturn rfl rfl ?_
          have w302 : 0 ≤ Xi T24 890 1 ∧ Xi T24 890 1 ≤ 5130 := hHT24.c _ _
          exact ⟨hHT24, hFT24, _, rfl, ⟨by omega, by omega⟩, (by omega), (by first | (intro _; assumption) | (intro hz; exact say_two2 (T := T23) hs (by omega) (m877 (by assumption) rfl) (m877 (by assumption) rfl) (by omega) (by omega) (by omega)))⟩
        · refine l_aload_n rfl rfl ?_
          have w303 : Xi T24 876 7 = Xi S 876 7 := (show Xi T24 876 7 = Xi T23 876 7 from w299.x _ _ rfl).trans ( (show Xi T23 876 7 = Xi T2 876 7 from w287.x _ _ rfl).trans ( (show Xi T2 876 7 = Xi T1 876 7 from w20.x _ _ rfl).trans ((show Xi T1 876 7 = Xi S 876 7 from w9.x _ _ rfl))))
          have w304 : 0 ≤ Xi S 876 7 ∧ Xi S 876 7 ≤ 5130 := hH.c _ _
          have w305 : 0 ≤ Xi T24 890 1 ∧ Xi T24 890 1 ≤ 5130 := hHT24.c _ _
          refine l_callV rfl rfl rfl (t_gr_takeThing hHT24 (by first | assumption | omega) (by first | assumption | omega) _) ?_
          rintro _ T25 ⟨hHT25, w309, z308, rfl, w308, w306, w307⟩
          have hFT25 : FR md_gr_takePhrase S T25 := FR.tr hFT24 w309 rfl
          show Rl _ _ _ _ _ [iv z308] _ _
          refine l_if_eq rfl rfl (by unfold rg; omega) (fun w310 => ?_) (fun w311 => ?_)
          · refine l_iconst rfl ?_
            refine l_ireturn rfl rfl ?_
            have w312 : 0 ≤ Xi T25 890 1 ∧ Xi T25 890 1 ≤ 5130 := hHT25.c _ _
            exact ⟨hHT25, hFT25, _, rfl, ⟨by omega, by omega⟩, (by omega), (by first | (intro _; assumption) | (intro hz; exact say_two2 (T := T24) hs (by omega) (m877 (by assumption) rfl) (m877 (by assumption) rfl) (by omega) (by omega) (by omega)))⟩
          · refine l_iconst rfl ?_
            refine l_goto rfl rfl ?_
            refine l_ireturn rfl rfl ?_
            have w313 : 0 ≤ Xi T25 890 1 ∧ Xi T25 890 1 ≤ 5130 := hHT25.c _ _
            exact ⟨hHT25, hFT25, _, rfl, ⟨by omega, by omega⟩, (by omega), (by first | (intro _; assumption) | (intro hz; exact say_two2 (T := T24) hs (by omega) (m877 (by assumption) rfl) (m877 (by assumption) rfl) (by omega) (by omega) (by omega)))⟩
  · refine l_aload_n rfl rfl ?_
    refine l_bipush rfl rfl ?_
    have w314 : Xi T1 876 7 = Xi S 876 7 := (show Xi T1 876 7 = Xi S 876 7 from w9.x _ _ rfl)
    have w315 : 0 ≤ Xi S 876 7 ∧ Xi S 876 7 ≤ 5130 := hH.c _ _
    have w316 : 0 ≤ Xi T1 890 1 ∧ Xi T1 890 1 ≤ 5130 := hHT1.c _ _
    refine l_callV rfl rfl rfl (t_gr_take__2 hHT1 102 ⟨by omega, by omega⟩ (by first | assumption | omega) _) ?_
    rintro _ T26 ⟨hHT26, w321, z320, rfl, w320, w317, w318, w319⟩
    have hFT26 : FR md_gr_takePhrase S T26 := FR.tr hFT1 w321 rfl
    show Rl _ _ _ _ _ [iv z320] _ _
    refine l_ireturn rfl (retI_z (by omega)) ?_
    have w322 : 0 ≤ Xi T26 890 1 ∧ Xi T26 890 1 ≤ 5130 := hHT26.c _ _
    exact ⟨hHT26, hFT26, _, rfl, ⟨by omega, by omega⟩, (by omega), (by first | (intro _; assumption) | (intro hz; exact say_two2 (T := T1) hs (by omega) (m877 (by assumption) rfl) (m877 (by assumption) rfl) (by omega) (by omega) (by omega)))⟩
def md_gr_takePhrases : List rec := [(890, 891, 1, 2)]
abbrev Q_gr_takePhrases (S : sS) : pst := fun r S1 => HI S1 ∧ FR md_gr_takePhrases S S1 ∧ (∃ z : Int, r = some (iv z) ∧ (0 ≤ z ∧ z ≤ 1) ∧ (Xi S 890 1 ≤ Xi S1 890 1 ∧ Xi S1 890 1 ≤ Xi S 876 7) ∧ (z = 1 → SAY S1 (Xi S1 890 1)))
set_option maxRecDepth 100000 in
theorem t_gr_takePhrases {S : sS} (hH : HI S) (ha : Xi S 890 1 ≤ Xi S 876 7) (hs : SAY S (Xi S 890 1)) (d : Nat) : Mt lay0 (d + 6) m_gr_takePhrases [.ref 890] S (Q_gr_takePhrases S) := by
  refine Mt_R rfl rfl ?_
  have hF : FR md_gr_takePhrases S S := FR.rf
  have w1 : 0 ≤ Xi S 876 7 ∧ Xi S 876 7 ≤ 5130 := hH.c _ _
  have w2 : 0 ≤ Xi S 890 1 ∧ Xi S 890 1 ≤ 5130 := hH.c _ _
  have C4 : ∀ (n4 : Nat) (T1 : sS) (_ : HI T1) (_ : FR md_gr_takePhrases S T1) (v1 : Int) (v2 : Int), (0 ≤ v1 ∧ v1 ≤ 1) → (0 ≤ v2 ∧ v2 ≤ 5000) → (v1 = 1 → SAY T1 (Xi T1 890 1)) → (Xi S 890 1 ≤ Xi T1 890 1 ∧ Xi T1 890 1 ≤ Xi S 876 7) → n4 = (5001 - v2).toNat → Rl lay0 (d + 5) m_gr_takePhrases 4 [(0, .ref 890), (1, iv v1), (2, iv v2)] [] T1 (Q_gr_takePhrases S) := by
    intro n4
    induction n4 using Nat.strongRecOn with
    | ind n4 ih4 =>
      intro T1 hHT1 hFT1 v1 v2 w3 w4 hs4 w5 hm4
      have w6 : Xi T1 876 7 = Xi S 876 7 := hFT1.x _ _ rfl
      have w7 : 0 ≤ Xi T1 890 1 ∧ Xi T1 890 1 ≤ 5130 := hHT1.c _ _
      have C56 : ∀  (T2 : sS) (_ : HI T2) (_ : FR md_gr_takePhrases S T2) (v1 : Int), (0 ≤ v1 ∧ v1 ≤ 1) → (v1 = 1 → SAY T2 (Xi T2 890 1)) → (Xi S 890 1 ≤ Xi T2 890 1 ∧ Xi T2 890 1 ≤ Xi S 876 7) → Rl lay0 (d + 5) m_gr_takePhrases 56 [(1, iv v1)] [] T2 (Q_gr_takePhrases S) := by
        intro T2 hHT2 hFT2 v1 w8 hs56 w9
        have w10 : Xi T2 876 7 = Xi S 876 7 := hFT2.x _ _ rfl
        have w11 : 0 ≤ Xi T2 890 1 ∧ Xi T2 890 1 ≤ 5130 := hHT2.c _ _
        refine l_iload_n rfl rfl ?_
        refine l_ireturn rfl (retI_z (by omega)) ?_
        have w12 : 0 ≤ Xi T2 890 1 ∧ Xi T2 890 1 ≤ 5130 := hHT2.c _ _
        exact ⟨hHT2, hFT2, _, rfl, ⟨by omega, by omega⟩, (by first | assumption | omega), (by first | assumption | omega)⟩
      refine l_iload_n rfl rfl ?_
      refine l_sipush rfl rfl ?_
      refine l_icmp_ge rfl rfl (by unfold rg; omega) (by unfold rg; omega) (fun w13 => ?_) (fun w14 => ?_)
      · have w15 : 0 ≤ Xi T1 890 1 ∧ Xi T1 890 1 ≤ 5130 := hHT1.c _ _
        exact Rl_weak (C56 T1 hHT1 hFT1 (v1) (by omega) (by first | assumption | (intro _; assumption) | (intro hz; omega)) (by omega)) (And.intro rfl (True.intro))
      · refine l_iload_n rfl rfl ?_
        refine l_if_eq rfl rfl (by unfold rg; omega) (fun w16 => ?_) (fun w17 => ?_)
        · have w18 : 0 ≤ Xi T1 890 1 ∧ Xi T1 890 1 ≤ 5130 := hHT1.c _ _
          exact Rl_weak (C56 T1 hHT1 hFT1 (v1) (by omega) (by first | assumption | (intro _; assumption) | (intro hz; omega)) (by omega)) (And.intro rfl (True.intro))
        · refine l_iload_n rfl rfl ?_
          refine l_if_eq rfl rfl (by unfold rg; omega) (fun w19 => ?_) (fun w20 => ?_)
          · refine l_aload_n rfl rfl ?_
            refine l_bipush rfl rfl ?_
            have w21 : 0 ≤ Xi T1 876 7 ∧ Xi T1 876 7 ≤ 5130 := hHT1.c _ _
            have w22 : 0 ≤ Xi T1 890 1 ∧ Xi T1 890 1 ≤ 5130 := hHT1.c _ _
            refine l_callV rfl rfl rfl (t_gr_take hHT1 44 ⟨by omega, by omega⟩ (by first | assumption | omega) (by first | assumption | exact hs4 (by omega)) (by first | assumption | omega) _) ?_
            rintro _ T3 ⟨hHT3, w28, z27, rfl, w27, w23, w24, w25, w26⟩
            have hFT3 : FR md_gr_takePhrases S T3 := FR.tr hFT1 w28 rfl
            show Rl _ _ _ _ _ [iv z27] _ _
            refine l_if_eq rfl rfl (by unfold rg; omega) (fun w29 => ?_) (fun w30 => ?_)
            · refine l_aload_n rfl rfl ?_
              have w31 : Xi T3 876 7 = Xi T1 876 7 := (show Xi T3 876 7 = Xi T1 876 7 from w28.x _ _ rfl)
              have w32 : 0 ≤ Xi T1 876 7 ∧ Xi T1 876 7 ≤ 5130 := hHT1.c _ _
              have w33 : 0 ≤ Xi T3 890 1 ∧ Xi T3 890 1 ≤ 5130 := hHT3.c _ _
              refine l_callV rfl rfl rfl (t_gr_takePhrase hHT3 (by first | assumption | omega) (by first | assumption | exact hs4 (by omega)) _) ?_
              rintro _ T4 ⟨hHT4, w37, z36, rfl, w36, w34, w35⟩
              have hFT4 : FR md_gr_takePhrases S T4 := FR.tr hFT3 w37 rfl
              show Rl _ _ _ _ _ [iv z36] _ _
              refine l_istore_n rfl rfl rfl ?_
              refine l_iinc rfl rfl rfl rfl ?_
              refine l_goto rfl rfl ?_
              have w38 : 0 ≤ Xi T4 890 1 ∧ Xi T4 890 1 ≤ 5130 := hHT4.c _ _
              exact Rl_weak (ih4 _ (by omega) T4 hHT4 hFT4 (z36) ((v2 + 1)) (by omega) (by omega) (by first | assumption | (intro _; assumption)) (by omega) rfl) (And.intro rfl (And.intro rfl (And.intro rfl (True.intro))))
            · refine l_aload_n rfl rfl ?_
              refine l_iconst rfl ?_
              have w39 : Xi T3 876 7 = Xi T1 876 7 := (show Xi T3 876 7 = Xi T1 876 7 from w28.x _ _ rfl)
              have w40 : 0 ≤ Xi T1 876 7 ∧ Xi T1 876 7 ≤ 5130 := hHT1.c _ _
              have w41 : 0 ≤ Xi T3 890 1 ∧ Xi T3 890 1 ≤ 5130 := hHT3.c _ _
              refine l_callV rfl rfl rfl (t_gr_takeTest hHT3 1 ⟨by omega, by omega⟩ (by first | assumption | omega) (by first | assumption | exact hs4 (by omega)) _) ?_
              rintro _ T5 ⟨hHT5, w45, z44, rfl, w44, w42, w43⟩
              have hFT5 : FR md_gr_takePhrases S T5 := FR.tr hFT3 w45 rfl
              show Rl _ _ _ _ _ [iv z44] _ _
              refine l_goto rfl rfl ?_
              refine l_istore_n rfl rfl rfl ?_
              refine l_iinc rfl rfl rfl rfl ?_
              refine l_goto rfl rfl ?_
              have w46 : 0 ≤ Xi T5 890 1 ∧ Xi T5 890 1 ≤ 5130 := hHT5.c _ _
              exact Rl_weak (ih4 _ (by omega) T5 hHT5 hFT5 (z44) ((v2 + 1)) (by omega) (by omega) (by first | assumption | (intro _; assumption)) (by omega) rfl) (And.intro rfl (And.intro rfl (And.intro rfl (True.intro))))
          · refine l_aload_n rfl rfl ?_
            refine l_bipush rfl rfl ?_
            have w47 : 0 ≤ Xi T1 876 7 ∧ Xi T1 876 7 ≤ 5130 := hHT1.c _ _
            have w48 : 0 ≤ Xi T1 890 1 ∧ Xi T1 890 1 ≤ 5130 := hHT1.c _ _
            refine l_callV rfl rfl rfl (t_gr_take hHT1 105 ⟨by omega, by omega⟩ (by first | assumption | omega) (by first | assumption | exact hs4 (by omega)) (by first | assumption | omega) _) ?_
            rintro _ T6 ⟨hHT6, w54, z53, rfl, w53, w49, w50, w51, w52⟩
            have hFT6 : FR md_gr_takePhrases S T6 := FR.tr hFT1 w54 rfl
            show Rl _ _ _ _ _ [iv z53] _ _
            refine l_if_eq rfl rfl (by unfold rg; omega) (fun w55 => ?_) (fun w56 => ?_)
            · have w57 : 0 ≤ Xi T6 890 1 ∧ Xi T6 890 1 ≤ 5130 := hHT6.c _ _
              exact Rl_weak (C56 T6 hHT6 hFT6 (v1) (by omega) (by first | assumption | (intro _; assumption) | (intro hz; omega)) (by omega)) (And.intro rfl (True.intro))
            · refine l_aload_n rfl rfl ?_
              refine l_bipush rfl rfl ?_
              have w58 : Xi T6 876 7 = Xi T1 876 7 := (show Xi T6 876 7 = Xi T1 876 7 from w54.x _ _ rfl)
              have w59 : 0 ≤ Xi T1 876 7 ∧ Xi T1 876 7 ≤ 5130 := hHT1.c _ _
              have w60 : 0 ≤ Xi T6 890 1 ∧ Xi T6 890 1 ≤ 5130 := hHT6.c _ _
              refine l_callV rfl rfl rfl (t_gr_take hHT6 44 ⟨by omega, by omega⟩ (by first | assumption | omega) (by first | assumption | exact hs4 (by omega)) (by first | assumption | omega) _) ?_
              rintro _ T7 ⟨hHT7, w66, z65, rfl, w65, w61, w62, w63, w64⟩
              have hFT7 : FR md_gr_takePhrases S T7 := FR.tr hFT6 w66 rfl
              show Rl _ _ _ _ _ [iv z65] _ _
              refine l_if_eq rfl rfl (by unfold rg; omega) (fun w67 => ?_) (fun w68 => ?_)
              · refine l_aload_n rfl rfl ?_
                have w69 : Xi T7 876 7 = Xi T1 876 7 := (show Xi T7 876 7 = Xi T6 876 7 from w66.x _ _ rfl).trans ((show Xi T6 876 7 = Xi T1 876 7 from w54.x _ _ rfl))
                have w70 : 0 ≤ Xi T1 876 7 ∧ Xi T1 876 7 ≤ 5130 := hHT1.c _ _
                have w71 : 0 ≤ Xi T7 890 1 ∧ Xi T7 890 1 ≤ 5130 := hHT7.c _ _
                refine l_callV rfl rfl rfl (t_gr_takePhrase hHT7 (by first | assumption | omega) (by first | assumption | exact hs4 (by omega)) _) ?_
                rintro _ T8 ⟨hHT8, w75, z74, rfl, w74, w72, w73⟩
                have hFT8 : FR md_gr_takePhrases S T8 := FR.tr hFT7 w75 rfl
                show Rl _ _ _ _ _ [iv z74] _ _
                refine l_istore_n rfl rfl rfl ?_
                refine l_iinc rfl rfl rfl rfl ?_
                refine l_goto rfl rfl ?_
                have w76 : 0 ≤ Xi T8 890 1 ∧ Xi T8 890 1 ≤ 5130 := hHT8.c _ _
                exact Rl_weak (ih4 _ (by omega) T8 hHT8 hFT8 (z74) ((v2 + 1)) (by omega) (by omega) (by first | assumption | (intro _; assumption)) (by omega) rfl) (And.intro rfl (And.intro rfl (And.intro rfl (True.intro))))
              · refine l_aload_n rfl rfl ?_
                refine l_iconst rfl ?_
                have w77 : Xi T7 876 7 = Xi T1 876 7 := (show Xi T7 876 7 = Xi T6 876 7 from w66.x _ _ rfl).trans ((show Xi T6 876 7 = Xi T1 876 7 from w54.x _ _ rfl))
                have w78 : 0 ≤ Xi T1 876 7 ∧ Xi T1 876 7 ≤ 5130 := hHT1.c _ _
                have w79 : 0 ≤ Xi T7 890 1 ∧ Xi T7 890 1 ≤ 5130 := hHT7.c _ _
                refine l_callV rfl rfl rfl (t_gr_takeTest hHT7 1 ⟨by omega, by omega⟩ (by first | assumption | omega) (by first | assumption | exact hs4 (by omega)) _) ?_
                rintro _ T9 ⟨hHT9, w83, z82, rfl, w82, w80, w81⟩
                have hFT9 : FR md_gr_takePhrases S T9 := FR.tr hFT7 w83 rfl
                show Rl _ _ _ _ _ [iv z82] _ _
                refine l_goto rfl rfl ?_
                refine l_istore_n rfl rfl rfl ?_
                refine l_iinc rfl rfl rfl rfl ?_
                refine l_goto rfl rfl ?_
                have w84 : 0 ≤ Xi T9 890 1 ∧ Xi T9 890 1 ≤ 5130 := hHT9.c _ _
                exact Rl_weak (ih4 _ (by omega) T9 hHT9 hFT9 (z82) ((v2 + 1)) (by omega) (by omega) (by first | assumption | (intro _; assumption)) (by omega) rfl) (And.intro rfl (And.intro rfl (And.intro rfl (True.intro))))
  refine l_iconst rfl ?_
  refine l_istore_n rfl rfl rfl ?_
  refine l_iconst rfl ?_
  refine l_istore_n rfl rfl rfl ?_
  have w85 : 0 ≤ Xi S 890 1 ∧ Xi S 890 1 ≤ 5130 := hH.c _ _
  exact Rl_weak (C4 _ S hH hF (1) (0) (by omega) (by omega) (by first | assumption | (intro _; assumption)) (by omega) rfl) (And.intro rfl (And.intro rfl (And.intro rfl (True.intro))))
def md_gr_checkBe : List rec := [(890, 891, 1, 2), (890, 891, 2, 3)]
abbrev Q_gr_checkBe (S : sS) : pst := fun r S1 => HI S1 ∧ FR md_gr_checkBe S S1 ∧ (∃ z : Int, r = some (iv z) ∧ (0 ≤ z ∧ z ≤ 1) ∧ (9 ≤ Xi S1 890 2 ∨ z = 0))
set_option maxRecDepth 100000 in
theorem t_gr_checkBe {S : sS} (hH : HI S) (ha : Xi S 890 1 ≤ Xi S 876 7) (hs : SAY S (Xi S 890 1)) (h0 : Xi S 890 1 = 0) (d : Nat) : Mt lay0 (d + 5) m_gr_checkBe [.ref 890] S (Q_gr_checkBe S) := by
  refine Mt_R rfl rfl ?_
  have hF : FR md_gr_checkBe S S := FR.rf
  have w1 : 0 ≤ Xi S 876 7 ∧ Xi S 876 7 ≤ 5130 := hH.c _ _
  have w2 : 0 ≤ Xi S 890 1 ∧ Xi S 890 1 ≤ 5130 := hH.c _ _
  refine l_aload_n rfl rfl ?_
  refine l_gfr rfl rfl rfl rfl rfl (hH.r 890 0 876 rfl) ?_
  refine l_iconst rfl ?_
  refine l_callV rfl rfl rfl (t_to_beginsProperty hH 0 ⟨by omega, by omega⟩ _) ?_
  rintro _ _ ⟨rfl, z4, rfl, w4, w3⟩
  show Rl _ _ _ _ _ [iv z4] _ _
  refine l_if_eq rfl rfl (by unfold rg; omega) (fun w5 => ?_) (fun w6 => ?_)
  · refine l_aload_n rfl rfl ?_
    have w7 : 0 ≤ Xi S 876 7 ∧ Xi S 876 7 ≤ 5130 := hH.c _ _
    have w8 : 0 ≤ Xi S 890 1 ∧ Xi S 890 1 ≤ 5130 := hH.c _ _
    refine l_callV rfl rfl rfl (t_gr_takeList hH (by first | assumption | omega) (by first | assumption | omega) _) ?_
    rintro _ T1 ⟨hHT1, w12, z11, rfl, w11, w9, w10⟩
    have hFT1 : FR md_gr_checkBe S T1 := FR.tr hF w12 rfl
    show Rl _ _ _ _ _ [iv z11] _ _
    refine l_if_eq rfl rfl (by unfold rg; omega) (fun w13 => ?_) (fun w14 => ?_)
    · refine l_iconst rfl ?_
      refine l_ireturn rfl rfl ?_
      have w15 : Xi T1 890 2 = Xi S 890 2 := (show Xi T1 890 2 = Xi S 890 2 from w12.x _ _ rfl)
      have w16 : 0 ≤ Xi S 890 2 ∧ Xi S 890 2 ≤ 20 := hH.c _ _
      exact ⟨hHT1, hFT1, _, rfl, ⟨by omega, by omega⟩, (by first | assumption | omega)⟩
    · refine l_aload_n rfl rfl ?_
      have w17 : Xi T1 876 7 = Xi S 876 7 := (show Xi T1 876 7 = Xi S 876 7 from w12.x _ _ rfl)
      have w18 : 0 ≤ Xi S 876 7 ∧ Xi S 876 7 ≤ 5130 := hH.c _ _
      have w19 : 0 ≤ Xi T1 890 1 ∧ Xi T1 890 1 ≤ 5130 := hHT1.c _ _
      refine l_callV rfl rfl rfl (t_gr_takeBe hHT1 (by first | assumption | omega) (by first | assumption | omega) _) ?_
      rintro _ T2 ⟨hHT2, w23, z22, rfl, w22, w20, w21⟩
      have hFT2 : FR md_gr_checkBe S T2 := FR.tr hFT1 w23 rfl
      show Rl _ _ _ _ _ [iv z22] _ _
      refine l_if_ne rfl rfl (by unfold rg; omega) (fun w24 => ?_) (fun w25 => ?_)
      · refine l_aload_n rfl rfl ?_
        refine l_gfr rfl rfl rfl rfl rfl (hHT2.r 890 0 876 rfl) ?_
        refine l_aload_n rfl rfl ?_
        refine l_gfi rfl rfl rfl rfl rfl ?_
        have w26 : 0 ≤ (Xi T2 890 1) ∧ (Xi T2 890 1) ≤ 5130 := hHT2.c _ _
        have w27 : Xi T2 876 7 = Xi S 876 7 := (show Xi T2 876 7 = Xi T1 876 7 from w23.x _ _ rfl).trans ((show Xi T1 876 7 = Xi S 876 7 from w12.x _ _ rfl))
        have w28 : 0 ≤ Xi S 876 7 ∧ Xi S 876 7 ≤ 5130 := hH.c _ _
        refine l_callV rfl rfl rfl (t_to_typeAt hHT2 (Xi T2 890 1) ⟨by omega, by omega⟩ _) ?_
        rintro _ _ ⟨rfl, z30, rfl, w30, w29⟩
        show Rl _ _ _ _ _ [iv z30] _ _
        refine l_istore_n rfl rfl rfl ?_
        refine l_aload_n rfl rfl ?_
        refine l_gfr rfl rfl rfl rfl rfl (hHT2.r 890 0 876 rfl) ?_
        refine l_aload_n rfl rfl ?_
        refine l_gfi rfl rfl rfl rfl rfl ?_
        refine l_iconst rfl ?_
        refine l_iadd rfl ?_
        have w31 : Xi T2 876 7 = Xi S 876 7 := (show Xi T2 876 7 = Xi T1 876 7 from w23.x _ _ rfl).trans ((show Xi T1 876 7 = Xi S 876 7 from w12.x _ _ rfl))
        have w32 : 0 ≤ Xi S 876 7 ∧ Xi S 876 7 ≤ 5130 := hH.c _ _
        refine l_callV rfl rfl rfl (t_to_typeAt hHT2 ((Xi T2 890 1) + 1) ⟨by omega, by omega⟩ _) ?_
        rintro _ _ ⟨rfl, z34, rfl, w34, w33⟩
        show Rl _ _ _ _ _ [iv z34] _ _
        refine l_istore_n rfl rfl rfl ?_
        refine l_iload_n rfl rfl ?_
        refine l_if_ne rfl rfl (by unfold rg; omega) (fun w35 => ?_) (fun w36 => ?_)
        · refine l_iload_n rfl rfl ?_
          refine l_iconst rfl ?_
          refine l_icmp_ne rfl rfl (by unfold rg; omega) (by unfold rg; omega) (fun w37 => ?_) (fun w38 => ?_)
          · refine l_iload_n rfl rfl ?_
            refine l_callS rfl rfl (by decide) rfl (t_rs_isArt hHT2 z30 ⟨by omega, by omega⟩ _) ?_
            rintro _ _ ⟨rfl, z40, rfl, w40, w39⟩
            show Rl _ _ _ _ _ [iv z40] _ _
            refine l_if_eq rfl rfl (by unfold rg; omega) (fun w41 => ?_) (fun w42 => ?_)
            · refine l_aload_n rfl rfl ?_
              have w43 : Xi T2 876 7 = Xi S 876 7 := (show Xi T2 876 7 = Xi T1 876 7 from w23.x _ _ rfl).trans ((show Xi T1 876 7 = Xi S 876 7 from w12.x _ _ rfl))
              have w44 : 0 ≤ Xi S 876 7 ∧ Xi S 876 7 ≤ 5130 := hH.c _ _
              have w45 : 0 ≤ Xi T2 890 1 ∧ Xi T2 890 1 ≤ 5130 := hHT2.c _ _
              refine l_callV rfl rfl rfl (t_gr_atPlace hHT2 _) ?_
              rintro _ _ ⟨rfl, z47, rfl, w47, w46⟩
              show Rl _ _ _ _ _ [iv z47] _ _
              refine l_if_eq rfl rfl (by unfold rg; omega) (fun w48 => ?_) (fun w49 => ?_)
              · refine l_aload_n rfl rfl ?_
                refine l_aload_n rfl rfl ?_
                refine l_bipush rfl rfl ?_
                have w50 : Xi T2 876 7 = Xi S 876 7 := (show Xi T2 876 7 = Xi T1 876 7 from w23.x _ _ rfl).trans ((show Xi T1 876 7 = Xi S 876 7 from w12.x _ _ rfl))
                have w51 : 0 ≤ Xi S 876 7 ∧ Xi S 876 7 ≤ 5130 := hH.c _ _
                have w52 : 0 ≤ Xi T2 890 1 ∧ Xi T2 890 1 ≤ 5130 := hHT2.c _ _
                refine l_callV rfl rfl rfl (t_gr_take hHT2 6 ⟨by omega, by omega⟩ (by first | assumption | omega) (by first | assumption | omega) (by first | assumption | omega) _) ?_
                rintro _ T3 ⟨hHT3, w58, z57, rfl, w57, w53, w54, w55, w56⟩
                have hFT3 : FR md_gr_checkBe S T3 := FR.tr hFT2 w58 rfl
                show Rl _ _ _ _ _ [iv z57, .ref 890] _ _
                refine l_if_ne rfl rfl (by unfold rg; omega) (fun w59 => ?_) (fun w60 => ?_)
                · refine l_iconst rfl ?_
                  refine l_goto rfl rfl ?_
                  have w61 : Xi T3 876 7 = Xi S 876 7 := (show Xi T3 876 7 = Xi T2 876 7 from w58.x _ _ rfl).trans ( (show Xi T2 876 7 = Xi T1 876 7 from w23.x _ _ rfl).trans ((show Xi T1 876 7 = Xi S 876 7 from w12.x _ _ rfl)))
                  have w62 : 0 ≤ Xi S 876 7 ∧ Xi S 876 7 ≤ 5130 := hH.c _ _
                  have w63 : 0 ≤ Xi T3 890 1 ∧ Xi T3 890 1 ≤ 5130 := hHT3.c _ _
                  refine l_callV rfl rfl rfl (t_gr_checkRuns hHT3 1 ⟨by omega, by omega⟩ (by first | assumption | omega) (by first | assumption | omega) _) ?_
                  rintro _ T4 ⟨hHT4, w68, z67, rfl, w67, w64, w65, w66⟩
                  have hFT4 : FR md_gr_checkBe S T4 := FR.tr hFT3 w68 rfl
                  show Rl _ _ _ _ _ [iv z67] _ _
                  refine l_ireturn rfl (retI_z (by omega)) ?_
                  have w69 : 0 ≤ Xi T4 890 2 ∧ Xi T4 890 2 ≤ 20 := hHT4.c _ _
                  exact ⟨hHT4, hFT4, _, rfl, ⟨by omega, by omega⟩, (by first | assumption | omega)⟩
                · refine l_aload_n rfl rfl ?_
                  refine l_bipush rfl rfl ?_
                  have w70 : Xi T3 876 7 = Xi S 876 7 := (show Xi T3 876 7 = Xi T2 876 7 from w58.x _ _ rfl).trans ( (show Xi T2 876 7 = Xi T1 876 7 from w23.x _ _ rfl).trans ((show Xi T1 876 7 = Xi S 876 7 from w12.x _ _ rfl)))
                  have w71 : 0 ≤ Xi S 876 7 ∧ Xi S 876 7 ≤ 5130 := hH.c _ _
                  have w72 : 0 ≤ Xi T3 890 1 ∧ Xi T3 890 1 ≤ 5130 := hHT3.c _ _
                  refine l_callV rfl rfl rfl (t_gr_take hHT3 32 ⟨by omega, by omega⟩ (by first | assumption | omega) (by first | assumption | omega) (by first | assumption | omega) _) ?_
                  rintro _ T5 ⟨hHT5, w78, z77, rfl, w77, w73, w74, w75, w76⟩
                  have hFT5 : FR md_gr_checkBe S T5 := FR.tr hFT3 w78 rfl
                  show Rl _ _ _ _ _ [iv z77, .ref 890] _ _
                  refine l_if_eq rfl rfl (by unfold rg; omega) (fun w79 => ?_) (fun w80 => ?_)
                  · refine l_iconst rfl ?_
                    have w81 : Xi T5 876 7 = Xi S 876 7 := (show Xi T5 876 7 = Xi T3 876 7 from w78.x _ _ rfl).trans ( (show Xi T3 876 7 = Xi T2 876 7 from w58.x _ _ rfl).trans ( (show Xi T2 876 7 = Xi T1 876 7 from w23.x _ _ rfl).trans ((show Xi T1 876 7 = Xi S 876 7 from w12.x _ _ rfl))))
                    have w82 : 0 ≤ Xi S 876 7 ∧ Xi S 876 7 ≤ 5130 := hH.c _ _
                    have w83 : 0 ≤ Xi T5 890 1 ∧ Xi T5 890 1 ≤ 5130 := hHT5.c _ _
                    refine l_callV rfl rfl rfl (t_gr_checkRuns hHT5 0 ⟨by omega, by omega⟩ (by first | assumption | omega) (by first | assumption | omega) _) ?_
                    rintro _ T6 ⟨hHT6, w88, z87, rfl, w87, w84, w85, w86⟩
                    have hFT6 : FR md_gr_checkBe S T6 := FR.tr hFT5 w88 rfl
                    show Rl _ _ _ _ _ [iv z87] _ _
                    refine l_ireturn rfl (retI_z (by omega)) ?_
                    have w89 : 0 ≤ Xi T6 890 2 ∧ Xi T6 890 2 ≤ 20 := hHT6.c _ _
                    exact ⟨hHT6, hFT6, _, rfl, ⟨by omega, by omega⟩, (by first | assumption | omega)⟩
                  · refine l_iconst rfl ?_
                    refine l_goto rfl rfl ?_
                    have w90 : Xi T5 876 7 = Xi S 876 7 := (show Xi T5 876 7 = Xi T3 876 7 from w78.x _ _ rfl).trans ( (show Xi T3 876 7 = Xi T2 876 7 from w58.x _ _ rfl).trans ( (show Xi T2 876 7 = Xi T1 876 7 from w23.x _ _ rfl).trans ((show Xi T1 876 7 = Xi S 876 7 from w12.x _ _ rfl))))
                    have w91 : 0 ≤ Xi S 876 7 ∧ Xi S 876 7 ≤ 5130 := hH.c _ _
                    have w92 : 0 ≤ Xi T5 890 1 ∧ Xi T5 890 1 ≤ 5130 := hHT5.c _ _
                    refine l_callV rfl rfl rfl (t_gr_checkRuns hHT5 1 ⟨by omega, by omega⟩ (by first | assumption | omega) (by first | assumption | omega) _) ?_
                    rintro _ T7 ⟨hHT7, w97, z96, rfl, w96, w93, w94, w95⟩
                    have hFT7 : FR md_gr_checkBe S T7 := FR.tr hFT5 w97 rfl
                    show Rl _ _ _ _ _ [iv z96] _ _
                    refine l_ireturn rfl (retI_z (by omega)) ?_
                    have w98 : 0 ≤ Xi T7 890 2 ∧ Xi T7 890 2 ≤ 20 := hHT7.c _ _
                    exact ⟨hHT7, hFT7, _, rfl, ⟨by omega, by omega⟩, (by first | assumption | omega)⟩
              · refine l_aload_n rfl rfl ?_
                refine l_bipush rfl rfl ?_
                refine l_pfi rfl rfl rfl rfl ?_
                obtain ⟨U8, eU8⟩ : ∃ T : sS, T = uI T2 890 2 (Int32.ofInt 13) := ⟨_, rfl⟩
                rw [← eU8]
                have hHU8 : HI U8 := by rw [eU8]; exact HI_w hHT2 (show 0 ≤ 13 by omega) (show 13 ≤ 20 by omega)
                have hFU8 : FR md_gr_checkBe S U8 := by rw [eU8]; exact FR.wI hFT2 (mdf_i (r := (890, 891, 2, 3)) (List.mem_of_getElem? (i := 1) rfl) (inR_i (by omega) (by omega) (by omega) (by omega)))
                have w99 : Xi U8 890 2 = 13 := by rw [eU8]; exact Xi_same (by unfold rg; omega)
                have hso321 : SAY U8 (Xi U8 890 1) := SAY_sort eU8 (by assumption) (by decide)
                refine l_aload_n rfl rfl ?_
                refine l_iconst rfl ?_
                have w100 : Xi U8 876 7 = Xi S 876 7 := (show Xi U8 876 7 = Xi T2 876 7 from by rw [eU8]; exact Xi_ne (by omega)).trans ( (show Xi T2 876 7 = Xi T1 876 7 from w23.x _ _ rfl).trans ((show Xi T1 876 7 = Xi S 876 7 from w12.x _ _ rfl)))
                have w101 : 0 ≤ Xi S 876 7 ∧ Xi S 876 7 ≤ 5130 := hH.c _ _
                have w102 : Xi U8 890 1 = Xi T2 890 1 := (show Xi U8 890 1 = Xi T2 890 1 from by rw [eU8]; exact Xi_ne (by omega))
                have w103 : 0 ≤ Xi T2 890 1 ∧ Xi T2 890 1 ≤ 5130 := hHT2.c _ _
                refine l_callV rfl rfl rfl (t_gr_takePlace hHU8 0 ⟨by omega, by omega⟩ (by first | assumption | omega) (by first | assumption | omega) (by first | omega | exact ⟨by omega, by rw [x877 eU8, show (Xi U8 890 1).toNat = (Xi T2 890 1).toNat by omega]; omega⟩) _) ?_
                rintro _ T9 ⟨hHT9, w107, z106, rfl, w106, w104, w105⟩
                have hFT9 : FR md_gr_checkBe S T9 := FR.tr hFU8 w107 rfl
                show Rl _ _ _ _ _ [iv z106] _ _
                refine l_if_eq rfl rfl (by unfold rg; omega) (fun w108 => ?_) (fun w109 => ?_)
                · refine l_iconst rfl ?_
                  refine l_ireturn rfl rfl ?_
                  have w110 : Xi T9 890 2 = Xi U8 890 2 := (show Xi T9 890 2 = Xi U8 890 2 from w107.x _ _ rfl)
                  have w111 : 0 ≤ Xi U8 890 2 ∧ Xi U8 890 2 ≤ 20 := hHU8.c _ _
                  exact ⟨hHT9, hFT9, _, rfl, ⟨by omega, by omega⟩, (by first | assumption | omega)⟩
                · refine l_aload_n rfl rfl ?_
                  refine l_bipush rfl rfl ?_
                  have w112 : Xi T9 876 7 = Xi S 876 7 := (show Xi T9 876 7 = Xi U8 876 7 from w107.x _ _ rfl).trans ( (show Xi U8 876 7 = Xi T2 876 7 from by rw [eU8]; exact Xi_ne (by omega)).trans ( (show Xi T2 876 7 = Xi T1 876 7 from w23.x _ _ rfl).trans ((show Xi T1 876 7 = Xi S 876 7 from w12.x _ _ rfl))))
                  have w113 : 0 ≤ Xi S 876 7 ∧ Xi S 876 7 ≤ 5130 := hH.c _ _
                  have w114 : 0 ≤ Xi T9 890 1 ∧ Xi T9 890 1 ≤ 5130 := hHT9.c _ _
                  refine l_callV rfl rfl rfl (t_gr_take hHT9 103 ⟨by omega, by omega⟩ (by first | assumption | omega) (by first | assumption | omega) (by first | assumption | omega) _) ?_
                  rintro _ T10 ⟨hHT10, w120, z119, rfl, w119, w115, w116, w117, w118⟩
                  have hFT10 : FR md_gr_checkBe S T10 := FR.tr hFT9 w120 rfl
                  show Rl _ _ _ _ _ [iv z119] _ _
                  refine l_if_eq rfl rfl (by unfold rg; omega) (fun w121 => ?_) (fun w122 => ?_)
                  · refine l_iconst rfl ?_
                    refine l_ireturn rfl rfl ?_
                    have w123 : Xi T10 890 2 = Xi U8 890 2 := (show Xi T10 890 2 = Xi T9 890 2 from w120.x _ _ rfl).trans ((show Xi T9 890 2 = Xi U8 890 2 from w107.x _ _ rfl))
                    have w124 : 0 ≤ Xi U8 890 2 ∧ Xi U8 890 2 ≤ 20 := hHU8.c _ _
                    exact ⟨hHT10, hFT10, _, rfl, ⟨by omega, by omega⟩, (by first | assumption | omega)⟩
                  · refine l_iconst rfl ?_
                    refine l_goto rfl rfl ?_
                    refine l_ireturn rfl rfl ?_
                    have w125 : Xi T10 890 2 = Xi U8 890 2 := (show Xi T10 890 2 = Xi T9 890 2 from w120.x _ _ rfl).trans ((show Xi T9 890 2 = Xi U8 890 2 from w107.x _ _ rfl))
                    have w126 : 0 ≤ Xi U8 890 2 ∧ Xi U8 890 2 ≤ 20 := hHU8.c _ _
                    exact ⟨hHT10, hFT10, _, rfl, ⟨by omega, by omega⟩, (by first | assumption | omega)⟩
            · refine l_aload_n rfl rfl ?_
              refine l_bipush rfl rfl ?_
              refine l_pfi rfl rfl rfl rfl ?_
              obtain ⟨U11, eU11⟩ : ∃ T : sS, T = uI T2 890 2 (Int32.ofInt 12) := ⟨_, rfl⟩
              rw [← eU11]
              have hHU11 : HI U11 := by rw [eU11]; exact HI_w hHT2 (show 0 ≤ 12 by omega) (show 12 ≤ 20 by omega)
              have hFU11 : FR md_gr_checkBe S U11 := by rw [eU11]; exact FR.wI hFT2 (mdf_i (r := (890, 891, 2, 3)) (List.mem_of_getElem? (i := 1) rfl) (inR_i (by omega) (by omega) (by omega) (by omega)))
              have w127 : Xi U11 890 2 = 12 := by rw [eU11]; exact Xi_same (by unfold rg; omega)
              have hso261 : SAY U11 (Xi U11 890 1) := SAY_sort eU11 (by assumption) (by decide)
              refine l_aload_n rfl rfl ?_
              refine l_dup rfl rfl ?_
              refine l_gfi rfl rfl rfl rfl rfl ?_
              have w128 : (Xi U11 890 1) = (Xi T2 890 1) := (show Xi U11 890 1 = Xi T2 890 1 from by rw [eU11]; exact Xi_ne (by omega))
              rw [w128]
              refine l_iconst rfl ?_
              refine l_iadd rfl ?_
              refine l_pfi rfl rfl rfl rfl ?_
              obtain ⟨U12, eU12⟩ : ∃ T : sS, T = uI U11 890 1 (Int32.ofInt ((Xi T2 890 1) + 1)) := ⟨_, rfl⟩
              rw [← eU12]
              have hHU12 : HI U12 := by rw [eU12]; exact HI_w hHU11 (show 0 ≤ ((Xi T2 890 1) + 1) by omega) (show ((Xi T2 890 1) + 1) ≤ 5130 by omega)
              have hFU12 : FR md_gr_checkBe S U12 := by rw [eU12]; exact FR.wI hFU11 (mdf_i (r := (890, 891, 1, 2)) (List.mem_of_getElem? (i := 0) rfl) (inR_i (by omega) (by omega) (by omega) (by omega)))
              have w129 : Xi U12 890 1 = ((Xi T2 890 1) + 1) := by rw [eU12]; exact Xi_same (by unfold rg; omega)
              have hs271 : SAY U12 (Xi U12 890 1) := SAY_1x eU11 eU12 (by omega) (by assumption) (by omega) (by omega) (by omega)
              refine l_aload_n rfl rfl ?_
              have w130 : Xi U12 876 7 = Xi S 876 7 := (show Xi U12 876 7 = Xi U11 876 7 from by rw [eU12]; exact Xi_ne (by omega)).trans ( (show Xi U11 876 7 = Xi T2 876 7 from by rw [eU11]; exact Xi_ne (by omega)).trans ( (show Xi T2 876 7 = Xi T1 876 7 from w23.x _ _ rfl).trans ((show Xi T1 876 7 = Xi S 876 7 from w12.x _ _ rfl))))
              have w131 : 0 ≤ Xi S 876 7 ∧ Xi S 876 7 ≤ 5130 := hH.c _ _
              have w132 : 0 ≤ Xi U12 890 1 ∧ Xi U12 890 1 ≤ 5130 := hHU12.c _ _
              refine l_callV rfl rfl rfl (t_gr_takeRun hHU12 (by first | assumption | omega) (by first | assumption | omega) _) ?_
              rintro _ T13 ⟨hHT13, w137, z136, rfl, w136, w133, w134, w135⟩
              have hFT13 : FR md_gr_checkBe S T13 := FR.tr hFU12 w137 rfl
              show Rl _ _ _ _ _ [iv z136] _ _
              refine l_if_eq rfl rfl (by unfold rg; omega) (fun w138 => ?_) (fun w139 => ?_)
              · refine l_iconst rfl ?_
                refine l_ireturn rfl rfl ?_
                have w140 : Xi T13 890 2 = Xi U11 890 2 := (show Xi T13 890 2 = Xi U12 890 2 from w137.x _ _ rfl).trans ((show Xi U12 890 2 = Xi U11 890 2 from by rw [eU12]; exact Xi_ne (by omega)))
                have w141 : 0 ≤ Xi U11 890 2 ∧ Xi U11 890 2 ≤ 20 := hHU11.c _ _
                exact ⟨hHT13, hFT13, _, rfl, ⟨by omega, by omega⟩, (by first | assumption | omega)⟩
              · refine l_aload_n rfl rfl ?_
                have w142 : Xi T13 876 7 = Xi S 876 7 := (show Xi T13 876 7 = Xi U12 876 7 from w137.x _ _ rfl).trans ( (show Xi U12 876 7 = Xi U11 876 7 from by rw [eU12]; exact Xi_ne (by omega)).trans ( (show Xi U11 876 7 = Xi T2 876 7 from by rw [eU11]; exact Xi_ne (by omega)).trans ( (show Xi T2 876 7 = Xi T1 876 7 from w23.x _ _ rfl).trans ((show Xi T1 876 7 = Xi S 876 7 from w12.x _ _ rfl)))))
                have w143 : 0 ≤ Xi S 876 7 ∧ Xi S 876 7 ≤ 5130 := hH.c _ _
                have w144 : 0 ≤ Xi T13 890 1 ∧ Xi T13 890 1 ≤ 5130 := hHT13.c _ _
                refine l_callV rfl rfl rfl (t_gr_atPlace hHT13 _) ?_
                rintro _ _ ⟨rfl, z146, rfl, w146, w145⟩
                show Rl _ _ _ _ _ [iv z146] _ _
                refine l_if_eq rfl rfl (by unfold rg; omega) (fun w147 => ?_) (fun w148 => ?_)
                · refine l_aload_n rfl rfl ?_
                  refine l_bipush rfl rfl ?_
                  have w149 : Xi T13 876 7 = Xi S 876 7 := (show Xi T13 876 7 = Xi U12 876 7 from w137.x _ _ rfl).trans ( (show Xi U12 876 7 = Xi U11 876 7 from by rw [eU12]; exact Xi_ne (by omega)).trans ( (show Xi U11 876 7 = Xi T2 876 7 from by rw [eU11]; exact Xi_ne (by omega)).trans ( (show Xi T2 876 7 = Xi T1 876 7 from w23.x _ _ rfl).trans ((show Xi T1 876 7 = Xi S 876 7 from w12.x _ _ rfl)))))
                  have w150 : 0 ≤ Xi S 876 7 ∧ Xi S 876 7 ≤ 5130 := hH.c _ _
                  have w151 : 0 ≤ Xi T13 890 1 ∧ Xi T13 890 1 ≤ 5130 := hHT13.c _ _
                  refine l_callV rfl rfl rfl (t_gr_take hHT13 103 ⟨by omega, by omega⟩ (by first | assumption | omega) (by first | assumption | omega) (by first | assumption | omega) _) ?_
                  rintro _ T14 ⟨hHT14, w157, z156, rfl, w156, w152, w153, w154, w155⟩
                  have hFT14 : FR md_gr_checkBe S T14 := FR.tr hFT13 w157 rfl
                  show Rl _ _ _ _ _ [iv z156] _ _
                  refine l_if_eq rfl rfl (by unfold rg; omega) (fun w158 => ?_) (fun w159 => ?_)
                  · refine l_iconst rfl ?_
                    refine l_ireturn rfl rfl ?_
                    have w160 : Xi T14 890 2 = Xi U11 890 2 := (show Xi T14 890 2 = Xi T13 890 2 from w157.x _ _ rfl).trans ( (show Xi T13 890 2 = Xi U12 890 2 from w137.x _ _ rfl).trans ((show Xi U12 890 2 = Xi U11 890 2 from by rw [eU12]; exact Xi_ne (by omega))))
                    have w161 : 0 ≤ Xi U11 890 2 ∧ Xi U11 890 2 ≤ 20 := hHU11.c _ _
                    exact ⟨hHT14, hFT14, _, rfl, ⟨by omega, by omega⟩, (by first | assumption | omega)⟩
                  · refine l_iconst rfl ?_
                    refine l_goto rfl rfl ?_
                    refine l_ireturn rfl rfl ?_
                    have w162 : Xi T14 890 2 = Xi U11 890 2 := (show Xi T14 890 2 = Xi T13 890 2 from w157.x _ _ rfl).trans ( (show Xi T13 890 2 = Xi U12 890 2 from w137.x _ _ rfl).trans ((show Xi U12 890 2 = Xi U11 890 2 from by rw [eU12]; exact Xi_ne (by omega))))
                    have w163 : 0 ≤ Xi U11 890 2 ∧ Xi U11 890 2 ≤ 20 := hHU11.c _ _
                    exact ⟨hHT14, hFT14, _, rfl, ⟨by omega, by omega⟩, (by first | assumption | omega)⟩
                · refine l_aload_n rfl rfl ?_
                  refine l_iconst rfl ?_
                  have w164 : Xi T13 876 7 = Xi S 876 7 := (show Xi T13 876 7 = Xi U12 876 7 from w137.x _ _ rfl).trans ( (show Xi U12 876 7 = Xi U11 876 7 from by rw [eU12]; exact Xi_ne (by omega)).trans ( (show Xi U11 876 7 = Xi T2 876 7 from by rw [eU11]; exact Xi_ne (by omega)).trans ( (show Xi T2 876 7 = Xi T1 876 7 from w23.x _ _ rfl).trans ((show Xi T1 876 7 = Xi S 876 7 from w12.x _ _ rfl)))))
                  have w165 : 0 ≤ Xi S 876 7 ∧ Xi S 876 7 ≤ 5130 := hH.c _ _
                  have w166 : 0 ≤ Xi T13 890 1 ∧ Xi T13 890 1 ≤ 5130 := hHT13.c _ _
                  refine l_callV rfl rfl rfl (t_gr_takePlace hHT13 0 ⟨by omega, by omega⟩ (by first | assumption | omega) (by first | assumption | omega) (by first | omega | exact ⟨by omega, by rw [x877 , show (Xi T13 890 1).toNat = (Xi U12 890 1).toNat by omega]; omega⟩) _) ?_
                  rintro _ T15 ⟨hHT15, w170, z169, rfl, w169, w167, w168⟩
                  have hFT15 : FR md_gr_checkBe S T15 := FR.tr hFT13 w170 rfl
                  show Rl _ _ _ _ _ [iv z169] _ _
                  refine l_if_eq rfl rfl (by unfold rg; omega) (fun w171 => ?_) (fun w172 => ?_)
                  · refine l_iconst rfl ?_
                    refine l_ireturn rfl rfl ?_
                    have w173 : Xi T15 890 2 = Xi U11 890 2 := (show Xi T15 890 2 = Xi T13 890 2 from w170.x _ _ rfl).trans ( (show Xi T13 890 2 = Xi U12 890 2 from w137.x _ _ rfl).trans ((show Xi U12 890 2 = Xi U11 890 2 from by rw [eU12]; exact Xi_ne (by omega))))
                    have w174 : 0 ≤ Xi U11 890 2 ∧ Xi U11 890 2 ≤ 20 := hHU11.c _ _
                    exact ⟨hHT15, hFT15, _, rfl, ⟨by omega, by omega⟩, (by first | assumption | omega)⟩
                  · refine l_aload_n rfl rfl ?_
                    refine l_bipush rfl rfl ?_
                    have w175 : Xi T15 876 7 = Xi S 876 7 := (show Xi T15 876 7 = Xi T13 876 7 from w170.x _ _ rfl).trans ( (show Xi T13 876 7 = Xi U12 876 7 from w137.x _ _ rfl).trans ( (show Xi U12 876 7 = Xi U11 876 7 from by rw [eU12]; exact Xi_ne (by omega)).trans ( (show Xi U11 876 7 = Xi T2 876 7 from by rw [eU11]; exact Xi_ne (by omega)).trans ( (show Xi T2 876 7 = Xi T1 876 7 from w23.x _ _ rfl).trans ((show Xi T1 876 7 = Xi S 876 7 from w12.x _ _ rfl))))))
                    have w176 : 0 ≤ Xi S 876 7 ∧ Xi S 876 7 ≤ 5130 := hH.c _ _
                    have w177 : 0 ≤ Xi T15 890 1 ∧ Xi T15 890 1 ≤ 5130 := hHT15.c _ _
                    refine l_callV rfl rfl rfl (t_gr_take hHT15 103 ⟨by omega, by omega⟩ (by first | assumption | omega) (by first | assumption | omega) (by first | assumption | omega) _) ?_
                    rintro _ T16 ⟨hHT16, w183, z182, rfl, w182, w178, w179, w180, w181⟩
                    have hFT16 : FR md_gr_checkBe S T16 := FR.tr hFT15 w183 rfl
                    show Rl _ _ _ _ _ [iv z182] _ _
                    refine l_if_eq rfl rfl (by unfold rg; omega) (fun w184 => ?_) (fun w185 => ?_)
                    · refine l_iconst rfl ?_
                      refine l_ireturn rfl rfl ?_
                      have w186 : Xi T16 890 2 = Xi U11 890 2 := (show Xi T16 890 2 = Xi T15 890 2 from w183.x _ _ rfl).trans ( (show Xi T15 890 2 = Xi T13 890 2 from w170.x _ _ rfl).trans ( (show Xi T13 890 2 = Xi U12 890 2 from w137.x _ _ rfl).trans ((show Xi U12 890 2 = Xi U11 890 2 from by rw [eU12]; exact Xi_ne (by omega)))))
                      have w187 : 0 ≤ Xi U11 890 2 ∧ Xi U11 890 2 ≤ 20 := hHU11.c _ _
                      exact ⟨hHT16, hFT16, _, rfl, ⟨by omega, by omega⟩, (by first | assumption | omega)⟩
                    · refine l_iconst rfl ?_
                      refine l_goto rfl rfl ?_
                      refine l_ireturn rfl rfl ?_
                      have w188 : Xi T16 890 2 = Xi U11 890 2 := (show Xi T16 890 2 = Xi T15 890 2 from w183.x _ _ rfl).trans ( (show Xi T15 890 2 = Xi T13 890 2 from w170.x _ _ rfl).trans ( (show Xi T13 890 2 = Xi U12 890 2 from w137.x _ _ rfl).trans ((show Xi U12 890 2 = Xi U11 890 2 from by rw [eU12]; exact Xi_ne (by omega)))))
                      have w189 : 0 ≤ Xi U11 890 2 ∧ Xi U11 890 2 ≤ 20 := hHU11.c _ _
                      exact ⟨hHT16, hFT16, _, rfl, ⟨by omega, by omega⟩, (by first | assumption | omega)⟩
          · refine l_iload_n rfl rfl ?_
            refine l_bipush rfl rfl ?_
            refine l_icmp_ne rfl rfl (by unfold rg; omega) (by unfold rg; omega) (fun w190 => ?_) (fun w191 => ?_)
            · refine l_iload_n rfl rfl ?_
              refine l_callS rfl rfl (by decide) rfl (t_rs_isArt hHT2 z30 ⟨by omega, by omega⟩ _) ?_
              rintro _ _ ⟨rfl, z193, rfl, w193, w192⟩
              show Rl _ _ _ _ _ [iv z193] _ _
              refine l_if_eq rfl rfl (by unfold rg; omega) (fun w194 => ?_) (fun w195 => ?_)
              · refine l_aload_n rfl rfl ?_
                have w196 : Xi T2 876 7 = Xi S 876 7 := (show Xi T2 876 7 = Xi T1 876 7 from w23.x _ _ rfl).trans ((show Xi T1 876 7 = Xi S 876 7 from w12.x _ _ rfl))
                have w197 : 0 ≤ Xi S 876 7 ∧ Xi S 876 7 ≤ 5130 := hH.c _ _
                have w198 : 0 ≤ Xi T2 890 1 ∧ Xi T2 890 1 ≤ 5130 := hHT2.c _ _
                refine l_callV rfl rfl rfl (t_gr_atPlace hHT2 _) ?_
                rintro _ _ ⟨rfl, z200, rfl, w200, w199⟩
                show Rl _ _ _ _ _ [iv z200] _ _
                refine l_if_eq rfl rfl (by unfold rg; omega) (fun w201 => ?_) (fun w202 => ?_)
                · refine l_aload_n rfl rfl ?_
                  refine l_aload_n rfl rfl ?_
                  refine l_bipush rfl rfl ?_
                  have w203 : Xi T2 876 7 = Xi S 876 7 := (show Xi T2 876 7 = Xi T1 876 7 from w23.x _ _ rfl).trans ((show Xi T1 876 7 = Xi S 876 7 from w12.x _ _ rfl))
                  have w204 : 0 ≤ Xi S 876 7 ∧ Xi S 876 7 ≤ 5130 := hH.c _ _
                  have w205 : 0 ≤ Xi T2 890 1 ∧ Xi T2 890 1 ≤ 5130 := hHT2.c _ _
                  refine l_callV rfl rfl rfl (t_gr_take hHT2 6 ⟨by omega, by omega⟩ (by first | assumption | omega) (by first | assumption | omega) (by first | assumption | omega) _) ?_
                  rintro _ T17 ⟨hHT17, w211, z210, rfl, w210, w206, w207, w208, w209⟩
                  have hFT17 : FR md_gr_checkBe S T17 := FR.tr hFT2 w211 rfl
                  show Rl _ _ _ _ _ [iv z210, .ref 890] _ _
                  refine l_if_ne rfl rfl (by unfold rg; omega) (fun w212 => ?_) (fun w213 => ?_)
                  · refine l_iconst rfl ?_
                    refine l_goto rfl rfl ?_
                    have w214 : Xi T17 876 7 = Xi S 876 7 := (show Xi T17 876 7 = Xi T2 876 7 from w211.x _ _ rfl).trans ( (show Xi T2 876 7 = Xi T1 876 7 from w23.x _ _ rfl).trans ((show Xi T1 876 7 = Xi S 876 7 from w12.x _ _ rfl)))
                    have w215 : 0 ≤ Xi S 876 7 ∧ Xi S 876 7 ≤ 5130 := hH.c _ _
                    have w216 : 0 ≤ Xi T17 890 1 ∧ Xi T17 890 1 ≤ 5130 := hHT17.c _ _
                    refine l_callV rfl rfl rfl (t_gr_checkRuns hHT17 1 ⟨by omega, by omega⟩ (by first | assumption | omega) (by first | assumption | omega) _) ?_
                    rintro _ T18 ⟨hHT18, w221, z220, rfl, w220, w217, w218, w219⟩
                    have hFT18 : FR md_gr_checkBe S T18 := FR.tr hFT17 w221 rfl
                    show Rl _ _ _ _ _ [iv z220] _ _
                    refine l_ireturn rfl (retI_z (by omega)) ?_
                    have w222 : 0 ≤ Xi T18 890 2 ∧ Xi T18 890 2 ≤ 20 := hHT18.c _ _
                    exact ⟨hHT18, hFT18, _, rfl, ⟨by omega, by omega⟩, (by first | assumption | omega)⟩
                  · refine l_aload_n rfl rfl ?_
                    refine l_bipush rfl rfl ?_
                    have w223 : Xi T17 876 7 = Xi S 876 7 := (show Xi T17 876 7 = Xi T2 876 7 from w211.x _ _ rfl).trans ( (show Xi T2 876 7 = Xi T1 876 7 from w23.x _ _ rfl).trans ((show Xi T1 876 7 = Xi S 876 7 from w12.x _ _ rfl)))
                    have w224 : 0 ≤ Xi S 876 7 ∧ Xi S 876 7 ≤ 5130 := hH.c _ _
                    have w225 : 0 ≤ Xi T17 890 1 ∧ Xi T17 890 1 ≤ 5130 := hHT17.c _ _
                    refine l_callV rfl rfl rfl (t_gr_take hHT17 32 ⟨by omega, by omega⟩ (by first | assumption | omega) (by first | assumption | omega) (by first | assumption | omega) _) ?_
                    rintro _ T19 ⟨hHT19, w231, z230, rfl, w230, w226, w227, w228, w229⟩
                    have hFT19 : FR md_gr_checkBe S T19 := FR.tr hFT17 w231 rfl
                    show Rl _ _ _ _ _ [iv z230, .ref 890] _ _
                    refine l_if_eq rfl rfl (by unfold rg; omega) (fun w232 => ?_) (fun w233 => ?_)
                    · refine l_iconst rfl ?_
                      have w234 : Xi T19 876 7 = Xi S 876 7 := (show Xi T19 876 7 = Xi T17 876 7 from w231.x _ _ rfl).trans ( (show Xi T17 876 7 = Xi T2 876 7 from w211.x _ _ rfl).trans ( (show Xi T2 876 7 = Xi T1 876 7 from w23.x _ _ rfl).trans ((show Xi T1 876 7 = Xi S 876 7 from w12.x _ _ rfl))))
                      have w235 : 0 ≤ Xi S 876 7 ∧ Xi S 876 7 ≤ 5130 := hH.c _ _
                      have w236 : 0 ≤ Xi T19 890 1 ∧ Xi T19 890 1 ≤ 5130 := hHT19.c _ _
                      refine l_callV rfl rfl rfl (t_gr_checkRuns hHT19 0 ⟨by omega, by omega⟩ (by first | assumption | omega) (by first | assumption | omega) _) ?_
                      rintro _ T20 ⟨hHT20, w241, z240, rfl, w240, w237, w238, w239⟩
                      have hFT20 : FR md_gr_checkBe S T20 := FR.tr hFT19 w241 rfl
                      show Rl _ _ _ _ _ [iv z240] _ _
                      refine l_ireturn rfl (retI_z (by omega)) ?_
                      have w242 : 0 ≤ Xi T20 890 2 ∧ Xi T20 890 2 ≤ 20 := hHT20.c _ _
                      exact ⟨hHT20, hFT20, _, rfl, ⟨by omega, by omega⟩, (by first | assumption | omega)⟩
                    · refine l_iconst rfl ?_
                      refine l_goto rfl rfl ?_
                      have w243 : Xi T19 876 7 = Xi S 876 7 := (show Xi T19 876 7 = Xi T17 876 7 from w231.x _ _ rfl).trans ( (show Xi T17 876 7 = Xi T2 876 7 from w211.x _ _ rfl).trans ( (show Xi T2 876 7 = Xi T1 876 7 from w23.x _ _ rfl).trans ((show Xi T1 876 7 = Xi S 876 7 from w12.x _ _ rfl))))
                      have w244 : 0 ≤ Xi S 876 7 ∧ Xi S 876 7 ≤ 5130 := hH.c _ _
                      have w245 : 0 ≤ Xi T19 890 1 ∧ Xi T19 890 1 ≤ 5130 := hHT19.c _ _
                      refine l_callV rfl rfl rfl (t_gr_checkRuns hHT19 1 ⟨by omega, by omega⟩ (by first | assumption | omega) (by first | assumption | omega) _) ?_
                      rintro _ T21 ⟨hHT21, w250, z249, rfl, w249, w246, w247, w248⟩
                      have hFT21 : FR md_gr_checkBe S T21 := FR.tr hFT19 w250 rfl
                      show Rl _ _ _ _ _ [iv z249] _ _
                      refine l_ireturn rfl (retI_z (by omega)) ?_
                      have w251 : 0 ≤ Xi T21 890 2 ∧ Xi T21 890 2 ≤ 20 := hHT21.c _ _
                      exact ⟨hHT21, hFT21, _, rfl, ⟨by omega, by omega⟩, (by first | assumption | omega)⟩
                · refine l_aload_n rfl rfl ?_
                  refine l_bipush rfl rfl ?_
                  refine l_pfi rfl rfl rfl rfl ?_
                  obtain ⟨U22, eU22⟩ : ∃ T : sS, T = uI T2 890 2 (Int32.ofInt 13) := ⟨_, rfl⟩
                  rw [← eU22]
                  have hHU22 : HI U22 := by rw [eU22]; exact HI_w hHT2 (show 0 ≤ 13 by omega) (show 13 ≤ 20 by omega)
                  have hFU22 : FR md_gr_checkBe S U22 := by rw [eU22]; exact FR.wI hFT2 (mdf_i (r := (890, 891, 2, 3)) (List.mem_of_getElem? (i := 1) rfl) (inR_i (by omega) (by omega) (by omega) (by omega)))
                  have w252 : Xi U22 890 2 = 13 := by rw [eU22]; exact Xi_same (by unfold rg; omega)
                  have hso321 : SAY U22 (Xi U22 890 1) := SAY_sort eU22 (by assumption) (by decide)
                  refine l_aload_n rfl rfl ?_
                  refine l_iconst rfl ?_
                  have w253 : Xi U22 876 7 = Xi S 876 7 := (show Xi U22 876 7 = Xi T2 876 7 from by rw [eU22]; exact Xi_ne (by omega)).trans ( (show Xi T2 876 7 = Xi T1 876 7 from w23.x _ _ rfl).trans ((show Xi T1 876 7 = Xi S 876 7 from w12.x _ _ rfl)))
                  have w254 : 0 ≤ Xi S 876 7 ∧ Xi S 876 7 ≤ 5130 := hH.c _ _
                  have w255 : Xi U22 890 1 = Xi T2 890 1 := (show Xi U22 890 1 = Xi T2 890 1 from by rw [eU22]; exact Xi_ne (by omega))
                  have w256 : 0 ≤ Xi T2 890 1 ∧ Xi T2 890 1 ≤ 5130 := hHT2.c _ _
                  refine l_callV rfl rfl rfl (t_gr_takePlace hHU22 0 ⟨by omega, by omega⟩ (by first | assumption | omega) (by first | assumption | omega) (by first | omega | exact ⟨by omega, by rw [x877 eU22, show (Xi U22 890 1).toNat = (Xi T2 890 1).toNat by omega]; omega⟩) _) ?_
                  rintro _ T23 ⟨hHT23, w260, z259, rfl, w259, w257, w258⟩
                  have hFT23 : FR md_gr_checkBe S T23 := FR.tr hFU22 w260 rfl
                  show Rl _ _ _ _ _ [iv z259] _ _
                  refine l_if_eq rfl rfl (by unfold rg; omega) (fun w261 => ?_) (fun w262 => ?_)
                  · refine l_iconst rfl ?_
                    refine l_ireturn rfl rfl ?_
                    have w263 : Xi T23 890 2 = Xi U22 890 2 := (show Xi T23 890 2 = Xi U22 890 2 from w260.x _ _ rfl)
                    have w264 : 0 ≤ Xi U22 890 2 ∧ Xi U22 890 2 ≤ 20 := hHU22.c _ _
                    exact ⟨hHT23, hFT23, _, rfl, ⟨by omega, by omega⟩, (by first | assumption | omega)⟩
                  · refine l_aload_n rfl rfl ?_
                    refine l_bipush rfl rfl ?_
                    have w265 : Xi T23 876 7 = Xi S 876 7 := (show Xi T23 876 7 = Xi U22 876 7 from w260.x _ _ rfl).trans ( (show Xi U22 876 7 = Xi T2 876 7 from by rw [eU22]; exact Xi_ne (by omega)).trans ( (show Xi T2 876 7 = Xi T1 876 7 from w23.x _ _ rfl).trans ((show Xi T1 876 7 = Xi S 876 7 from w12.x _ _ rfl))))
                    have w266 : 0 ≤ Xi S 876 7 ∧ Xi S 876 7 ≤ 5130 := hH.c _ _
                    have w267 : 0 ≤ Xi T23 890 1 ∧ Xi T23 890 1 ≤ 5130 := hHT23.c _ _
                    refine l_callV rfl rfl rfl (t_gr_take hHT23 103 ⟨by omega, by omega⟩ (by first | assumption | omega) (by first | assumption | omega) (by first | assumption | omega) _) ?_
                    rintro _ T24 ⟨hHT24, w273, z272, rfl, w272, w268, w269, w270, w271⟩
                    have hFT24 : FR md_gr_checkBe S T24 := FR.tr hFT23 w273 rfl
                    show Rl _ _ _ _ _ [iv z272] _ _
                    refine l_if_eq rfl rfl (by unfold rg; omega) (fun w274 => ?_) (fun w275 => ?_)
                    · refine l_iconst rfl ?_
                      refine l_ireturn rfl rfl ?_
                      have w276 : Xi T24 890 2 = Xi U22 890 2 := (show Xi T24 890 2 = Xi T23 890 2 from w273.x _ _ rfl).trans ((show Xi T23 890 2 = Xi U22 890 2 from w260.x _ _ rfl))
                      have w277 : 0 ≤ Xi U22 890 2 ∧ Xi U22 890 2 ≤ 20 := hHU22.c _ _
                      exact ⟨hHT24, hFT24, _, rfl, ⟨by omega, by omega⟩, (by first | assumption | omega)⟩
                    · refine l_iconst rfl ?_
                      refine l_goto rfl rfl ?_
                      refine l_ireturn rfl rfl ?_
                      have w278 : Xi T24 890 2 = Xi U22 890 2 := (show Xi T24 890 2 = Xi T23 890 2 from w273.x _ _ rfl).trans ((show Xi T23 890 2 = Xi U22 890 2 from w260.x _ _ rfl))
                      have w279 : 0 ≤ Xi U22 890 2 ∧ Xi U22 890 2 ≤ 20 := hHU22.c _ _
                      exact ⟨hHT24, hFT24, _, rfl, ⟨by omega, by omega⟩, (by first | assumption | omega)⟩
              · refine l_aload_n rfl rfl ?_
                refine l_bipush rfl rfl ?_
                refine l_pfi rfl rfl rfl rfl ?_
                obtain ⟨U25, eU25⟩ : ∃ T : sS, T = uI T2 890 2 (Int32.ofInt 12) := ⟨_, rfl⟩
                rw [← eU25]
                have hHU25 : HI U25 := by rw [eU25]; exact HI_w hHT2 (show 0 ≤ 12 by omega) (show 12 ≤ 20 by omega)
                have hFU25 : FR md_gr_checkBe S U25 := by rw [eU25]; exact FR.wI hFT2 (mdf_i (r := (890, 891, 2, 3)) (List.mem_of_getElem? (i := 1) rfl) (inR_i (by omega) (by omega) (by omega) (by omega)))
                have w280 : Xi U25 890 2 = 12 := by rw [eU25]; exact Xi_same (by unfold rg; omega)
                have hso261 : SAY U25 (Xi U25 890 1) := SAY_sort eU25 (by assumption) (by decide)
                refine l_aload_n rfl rfl ?_
                refine l_dup rfl rfl ?_
                refine l_gfi rfl rfl rfl rfl rfl ?_
                have w281 : (Xi U25 890 1) = (Xi T2 890 1) := (show Xi U25 890 1 = Xi T2 890 1 from by rw [eU25]; exact Xi_ne (by omega))
                rw [w281]
                refine l_iconst rfl ?_
                refine l_iadd rfl ?_
                refine l_pfi rfl rfl rfl rfl ?_
                obtain ⟨U26, eU26⟩ : ∃ T : sS, T = uI U25 890 1 (Int32.ofInt ((Xi T2 890 1) + 1)) := ⟨_, rfl⟩
                rw [← eU26]
                have hHU26 : HI U26 := by rw [eU26]; exact HI_w hHU25 (show 0 ≤ ((Xi T2 890 1) + 1) by omega) (show ((Xi T2 890 1) + 1) ≤ 5130 by omega)
                have hFU26 : FR md_gr_checkBe S U26 := by rw [eU26]; exact FR.wI hFU25 (mdf_i (r := (890, 891, 1, 2)) (List.mem_of_getElem? (i := 0) rfl) (inR_i (by omega) (by omega) (by omega) (by omega)))
                have w282 : Xi U26 890 1 = ((Xi T2 890 1) + 1) := by rw [eU26]; exact Xi_same (by unfold rg; omega)
                have hs271 : SAY U26 (Xi U26 890 1) := SAY_1x eU25 eU26 (by omega) (by assumption) (by omega) (by omega) (by omega)
                refine l_aload_n rfl rfl ?_
                have w283 : Xi U26 876 7 = Xi S 876 7 := (show Xi U26 876 7 = Xi U25 876 7 from by rw [eU26]; exact Xi_ne (by omega)).trans ( (show Xi U25 876 7 = Xi T2 876 7 from by rw [eU25]; exact Xi_ne (by omega)).trans ( (show Xi T2 876 7 = Xi T1 876 7 from w23.x _ _ rfl).trans ((show Xi T1 876 7 = Xi S 876 7 from w12.x _ _ rfl))))
                have w284 : 0 ≤ Xi S 876 7 ∧ Xi S 876 7 ≤ 5130 := hH.c _ _
                have w285 : 0 ≤ Xi U26 890 1 ∧ Xi U26 890 1 ≤ 5130 := hHU26.c _ _
                refine l_callV rfl rfl rfl (t_gr_takeRun hHU26 (by first | assumption | omega) (by first | assumption | omega) _) ?_
                rintro _ T27 ⟨hHT27, w290, z289, rfl, w289, w286, w287, w288⟩
                have hFT27 : FR md_gr_checkBe S T27 := FR.tr hFU26 w290 rfl
                show Rl _ _ _ _ _ [iv z289] _ _
                refine l_if_eq rfl rfl (by unfold rg; omega) (fun w291 => ?_) (fun w292 => ?_)
                · refine l_iconst rfl ?_
                  refine l_ireturn rfl rfl ?_
                  have w293 : Xi T27 890 2 = Xi U25 890 2 := (show Xi T27 890 2 = Xi U26 890 2 from w290.x _ _ rfl).trans ((show Xi U26 890 2 = Xi U25 890 2 from by rw [eU26]; exact Xi_ne (by omega)))
                  have w294 : 0 ≤ Xi U25 890 2 ∧ Xi U25 890 2 ≤ 20 := hHU25.c _ _
                  exact ⟨hHT27, hFT27, _, rfl, ⟨by omega, by omega⟩, (by first | assumption | omega)⟩
                · refine l_aload_n rfl rfl ?_
                  have w295 : Xi T27 876 7 = Xi S 876 7 := (show Xi T27 876 7 = Xi U26 876 7 from w290.x _ _ rfl).trans ( (show Xi U26 876 7 = Xi U25 876 7 from by rw [eU26]; exact Xi_ne (by omega)).trans ( (show Xi U25 876 7 = Xi T2 876 7 from by rw [eU25]; exact Xi_ne (by omega)).trans ( (show Xi T2 876 7 = Xi T1 876 7 from w23.x _ _ rfl).trans ((show Xi T1 876 7 = Xi S 876 7 from w12.x _ _ rfl)))))
                  have w296 : 0 ≤ Xi S 876 7 ∧ Xi S 876 7 ≤ 5130 := hH.c _ _
                  have w297 : 0 ≤ Xi T27 890 1 ∧ Xi T27 890 1 ≤ 5130 := hHT27.c _ _
                  refine l_callV rfl rfl rfl (t_gr_atPlace hHT27 _) ?_
                  rintro _ _ ⟨rfl, z299, rfl, w299, w298⟩
                  show Rl _ _ _ _ _ [iv z299] _ _
                  refine l_if_eq rfl rfl (by unfold rg; omega) (fun w300 => ?_) (fun w301 => ?_)
                  · refine l_aload_n rfl rfl ?_
                    refine l_bipush rfl rfl ?_
                    have w302 : Xi T27 876 7 = Xi S 876 7 := (show Xi T27 876 7 = Xi U26 876 7 from w290.x _ _ rfl).trans ( (show Xi U26 876 7 = Xi U25 876 7 from by rw [eU26]; exact Xi_ne (by omega)).trans ( (show Xi U25 876 7 = Xi T2 876 7 from by rw [eU25]; exact Xi_ne (by omega)).trans ( (show Xi T2 876 7 = Xi T1 876 7 from w23.x _ _ rfl).trans ((show Xi T1 876 7 = Xi S 876 7 from w12.x _ _ rfl)))))
                    have w303 : 0 ≤ Xi S 876 7 ∧ Xi S 876 7 ≤ 5130 := hH.c _ _
                    have w304 : 0 ≤ Xi T27 890 1 ∧ Xi T27 890 1 ≤ 5130 := hHT27.c _ _
                    refine l_callV rfl rfl rfl (t_gr_take hHT27 103 ⟨by omega, by omega⟩ (by first | assumption | omega) (by first | assumption | omega) (by first | assumption | omega) _) ?_
                    rintro _ T28 ⟨hHT28, w310, z309, rfl, w309, w305, w306, w307, w308⟩
                    have hFT28 : FR md_gr_checkBe S T28 := FR.tr hFT27 w310 rfl
                    show Rl _ _ _ _ _ [iv z309] _ _
                    refine l_if_eq rfl rfl (by unfold rg; omega) (fun w311 => ?_) (fun w312 => ?_)
                    · refine l_iconst rfl ?_
                      refine l_ireturn rfl rfl ?_
                      have w313 : Xi T28 890 2 = Xi U25 890 2 := (show Xi T28 890 2 = Xi T27 890 2 from w310.x _ _ rfl).trans ( (show Xi T27 890 2 = Xi U26 890 2 from w290.x _ _ rfl).trans ((show Xi U26 890 2 = Xi U25 890 2 from by rw [eU26]; exact Xi_ne (by omega))))
                      have w314 : 0 ≤ Xi U25 890 2 ∧ Xi U25 890 2 ≤ 20 := hHU25.c _ _
                      exact ⟨hHT28, hFT28, _, rfl, ⟨by omega, by omega⟩, (by first | assumption | omega)⟩
                    · refine l_iconst rfl ?_
                      refine l_goto rfl rfl ?_
                      refine l_ireturn rfl rfl ?_
                      have w315 : Xi T28 890 2 = Xi U25 890 2 := (show Xi T28 890 2 = Xi T27 890 2 from w310.x _ _ rfl).trans ( (show Xi T27 890 2 = Xi U26 890 2 from w290.x _ _ rfl).trans ((show Xi U26 890 2 = Xi U25 890 2 from by rw [eU26]; exact Xi_ne (by omega))))
                      have w316 : 0 ≤ Xi U25 890 2 ∧ Xi U25 890 2 ≤ 20 := hHU25.c _ _
                      exact ⟨hHT28, hFT28, _, rfl, ⟨by omega, by omega⟩, (by first | assumption | omega)⟩
                  · refine l_aload_n rfl rfl ?_
                    refine l_iconst rfl ?_
                    have w317 : Xi T27 876 7 = Xi S 876 7 := (show Xi T27 876 7 = Xi U26 876 7 from w290.x _ _ rfl).trans ( (show Xi U26 876 7 = Xi U25 876 7 from by rw [eU26]; exact Xi_ne (by omega)).trans ( (show Xi U25 876 7 = Xi T2 876 7 from by rw [eU25]; exact Xi_ne (by omega)).trans ( (show Xi T2 876 7 = Xi T1 876 7 from w23.x _ _ rfl).trans ((show Xi T1 876 7 = Xi S 876 7 from w12.x _ _ rfl)))))
                    have w318 : 0 ≤ Xi S 876 7 ∧ Xi S 876 7 ≤ 5130 := hH.c _ _
                    have w319 : 0 ≤ Xi T27 890 1 ∧ Xi T27 890 1 ≤ 5130 := hHT27.c _ _
                    refine l_callV rfl rfl rfl (t_gr_takePlace hHT27 0 ⟨by omega, by omega⟩ (by first | assumption | omega) (by first | assumption | omega) (by first | omega | exact ⟨by omega, by rw [x877 , show (Xi T27 890 1).toNat = (Xi U26 890 1).toNat by omega]; omega⟩) _) ?_
                    rintro _ T29 ⟨hHT29, w323, z322, rfl, w322, w320, w321⟩
                    have hFT29 : FR md_gr_checkBe S T29 := FR.tr hFT27 w323 rfl
                    show Rl _ _ _ _ _ [iv z322] _ _
                    refine l_if_eq rfl rfl (by unfold rg; omega) (fun w324 => ?_) (fun w325 => ?_)
                    · refine l_iconst rfl ?_
                      refine l_ireturn rfl rfl ?_
                      have w326 : Xi T29 890 2 = Xi U25 890 2 := (show Xi T29 890 2 = Xi T27 890 2 from w323.x _ _ rfl).trans ( (show Xi T27 890 2 = Xi U26 890 2 from w290.x _ _ rfl).trans ((show Xi U26 890 2 = Xi U25 890 2 from by rw [eU26]; exact Xi_ne (by omega))))
                      have w327 : 0 ≤ Xi U25 890 2 ∧ Xi U25 890 2 ≤ 20 := hHU25.c _ _
                      exact ⟨hHT29, hFT29, _, rfl, ⟨by omega, by omega⟩, (by first | assumption | omega)⟩
                    · refine l_aload_n rfl rfl ?_
                      refine l_bipush rfl rfl ?_
                      have w328 : Xi T29 876 7 = Xi S 876 7 := (show Xi T29 876 7 = Xi T27 876 7 from w323.x _ _ rfl).trans ( (show Xi T27 876 7 = Xi U26 876 7 from w290.x _ _ rfl).trans ( (show Xi U26 876 7 = Xi U25 876 7 from by rw [eU26]; exact Xi_ne (by omega)).trans ( (show Xi U25 876 7 = Xi T2 876 7 from by rw [eU25]; exact Xi_ne (by omega)).trans ( (show Xi T2 876 7 = Xi T1 876 7 from w23.x _ _ rfl).trans ((show Xi T1 876 7 = Xi S 876 7 from w12.x _ _ rfl))))))
                      have w329 : 0 ≤ Xi S 876 7 ∧ Xi S 876 7 ≤ 5130 := hH.c _ _
                      have w330 : 0 ≤ Xi T29 890 1 ∧ Xi T29 890 1 ≤ 5130 := hHT29.c _ _
                      refine l_callV rfl rfl rfl (t_gr_take hHT29 103 ⟨by omega, by omega⟩ (by first | assumption | omega) (by first | assumption | omega) (by first | assumption | omega) _) ?_
                      rintro _ T30 ⟨hHT30, w336, z335, rfl, w335, w331, w332, w333, w334⟩
                      have hFT30 : FR md_gr_checkBe S T30 := FR.tr hFT29 w336 rfl
                      show Rl _ _ _ _ _ [iv z335] _ _
                      refine l_if_eq rfl rfl (by unfold rg; omega) (fun w337 => ?_) (fun w338 => ?_)
                      · refine l_iconst rfl ?_
                        refine l_ireturn rfl rfl ?_
                        have w339 : Xi T30 890 2 = Xi U25 890 2 := (show Xi T30 890 2 = Xi T29 890 2 from w336.x _ _ rfl).trans ( (show Xi T29 890 2 = Xi T27 890 2 from w323.x _ _ rfl).trans ( (show Xi T27 890 2 = Xi U26 890 2 from w290.x _ _ rfl).trans ((show Xi U26 890 2 = Xi U25 890 2 from by rw [eU26]; exact Xi_ne (by omega)))))
                        have w340 : 0 ≤ Xi U25 890 2 ∧ Xi U25 890 2 ≤ 20 := hHU25.c _ _
                        exact ⟨hHT30, hFT30, _, rfl, ⟨by omega, by omega⟩, (by first | assumption | omega)⟩
                      · refine l_iconst rfl ?_
                        refine l_goto rfl rfl ?_
                        refine l_ireturn rfl rfl ?_
                        have w341 : Xi T30 890 2 = Xi U25 890 2 := (show Xi T30 890 2 = Xi T29 890 2 from w336.x _ _ rfl).trans ( (show Xi T29 890 2 = Xi T27 890 2 from w323.x _ _ rfl).trans ( (show Xi T27 890 2 = Xi U26 890 2 from w290.x _ _ rfl).trans ((show Xi U26 890 2 = Xi U25 890 2 from by rw [eU26]; exact Xi_ne (by omega)))))
                        have w342 : 0 ≤ Xi U25 890 2 ∧ Xi U25 890 2 ≤ 20 := hHU25.c _ _
                        exact ⟨hHT30, hFT30, _, rfl, ⟨by omega, by omega⟩, (by first | assumption | omega)⟩
            · refine l_aload_n rfl rfl ?_
              refine l_bipush rfl rfl ?_
              refine l_pfi rfl rfl rfl rfl ?_
              obtain ⟨U31, eU31⟩ : ∃ T : sS, T = uI T2 890 2 (Int32.ofInt 11) := ⟨_, rfl⟩
              rw [← eU31]
              have hHU31 : HI U31 := by rw [eU31]; exact HI_w hHT2 (show 0 ≤ 11 by omega) (show 11 ≤ 20 by omega)
              have hFU31 : FR md_gr_checkBe S U31 := by rw [eU31]; exact FR.wI hFT2 (mdf_i (r := (890, 891, 2, 3)) (List.mem_of_getElem? (i := 1) rfl) (inR_i (by omega) (by omega) (by omega) (by omega)))
              have w343 : Xi U31 890 2 = 11 := by rw [eU31]; exact Xi_same (by unfold rg; omega)
              have hso189 : SAY U31 (Xi U31 890 1) := SAY_sort eU31 (by assumption) (by decide)
              refine l_aload_n rfl rfl ?_
              refine l_dup rfl rfl ?_
              refine l_gfi rfl rfl rfl rfl rfl ?_
              have w344 : (Xi U31 890 1) = (Xi T2 890 1) := (show Xi U31 890 1 = Xi T2 890 1 from by rw [eU31]; exact Xi_ne (by omega))
              rw [w344]
              refine l_iconst rfl ?_
              refine l_iadd rfl ?_
              refine l_pfi rfl rfl rfl rfl ?_
              obtain ⟨U32, eU32⟩ : ∃ T : sS, T = uI U31 890 1 (Int32.ofInt ((Xi T2 890 1) + 2)) := ⟨_, rfl⟩
              rw [← eU32]
              have hHU32 : HI U32 := by rw [eU32]; exact HI_w hHU31 (show 0 ≤ ((Xi T2 890 1) + 2) by omega) (show ((Xi T2 890 1) + 2) ≤ 5130 by omega)
              have hFU32 : FR md_gr_checkBe S U32 := by rw [eU32]; exact FR.wI hFU31 (mdf_i (r := (890, 891, 1, 2)) (List.mem_of_getElem? (i := 0) rfl) (inR_i (by omega) (by omega) (by omega) (by omega)))
              have w345 : Xi U32 890 1 = ((Xi T2 890 1) + 2) := by rw [eU32]; exact Xi_same (by unfold rg; omega)
              have hs199 : SAY U32 (Xi U32 890 1) := SAY_2x eU31 eU32 (by omega) (by assumption) (by omega) (by omega) (by omega) (by omega)
              refine l_aload_n rfl rfl ?_
              refine l_bipush rfl rfl ?_
              have w346 : Xi U32 876 7 = Xi S 876 7 := (show Xi U32 876 7 = Xi U31 876 7 from by rw [eU32]; exact Xi_ne (by omega)).trans ( (show Xi U31 876 7 = Xi T2 876 7 from by rw [eU31]; exact Xi_ne (by omega)).trans ( (show Xi T2 876 7 = Xi T1 876 7 from w23.x _ _ rfl).trans ((show Xi T1 876 7 = Xi S 876 7 from w12.x _ _ rfl))))
              have w347 : 0 ≤ Xi S 876 7 ∧ Xi S 876 7 ≤ 5130 := hH.c _ _
              have w348 : 0 ≤ Xi U32 890 1 ∧ Xi U32 890 1 ≤ 5130 := hHU32.c _ _
              refine l_callV rfl rfl rfl (t_gr_take hHU32 28 ⟨by omega, by omega⟩ (by first | assumption | omega) (by first | assumption | omega) (by first | assumption | omega) _) ?_
              rintro _ T33 ⟨hHT33, w354, z353, rfl, w353, w349, w350, w351, w352⟩
              have hFT33 : FR md_gr_checkBe S T33 := FR.tr hFU32 w354 rfl
              show Rl _ _ _ _ _ [iv z353] _ _
              refine l_if_eq rfl rfl (by unfold rg; omega) (fun w355 => ?_) (fun w356 => ?_)
              · refine l_aload_n rfl rfl ?_
                refine l_bipush rfl rfl ?_
                have w357 : Xi T33 876 7 = Xi S 876 7 := (show Xi T33 876 7 = Xi U32 876 7 from w354.x _ _ rfl).trans ( (show Xi U32 876 7 = Xi U31 876 7 from by rw [eU32]; exact Xi_ne (by omega)).trans ( (show Xi U31 876 7 = Xi T2 876 7 from by rw [eU31]; exact Xi_ne (by omega)).trans ( (show Xi T2 876 7 = Xi T1 876 7 from w23.x _ _ rfl).trans ((show Xi T1 876 7 = Xi S 876 7 from w12.x _ _ rfl)))))
                have w358 : 0 ≤ Xi S 876 7 ∧ Xi S 876 7 ≤ 5130 := hH.c _ _
                have w359 : 0 ≤ Xi T33 890 1 ∧ Xi T33 890 1 ≤ 5130 := hHT33.c _ _
                refine l_callV rfl rfl rfl (t_gr_take hHT33 103 ⟨by omega, by omega⟩ (by first | assumption | omega) (by first | assumption | omega) (by first | assumption | omega) _) ?_
                rintro _ T34 ⟨hHT34, w365, z364, rfl, w364, w360, w361, w362, w363⟩
                have hFT34 : FR md_gr_checkBe S T34 := FR.tr hFT33 w365 rfl
                show Rl _ _ _ _ _ [iv z364] _ _
                refine l_if_eq rfl rfl (by unfold rg; omega) (fun w366 => ?_) (fun w367 => ?_)
                · refine l_iconst rfl ?_
                  refine l_ireturn rfl rfl ?_
                  have w368 : Xi T34 890 2 = Xi U31 890 2 := (show Xi T34 890 2 = Xi T33 890 2 from w365.x _ _ rfl).trans ( (show Xi T33 890 2 = Xi U32 890 2 from w354.x _ _ rfl).trans ((show Xi U32 890 2 = Xi U31 890 2 from by rw [eU32]; exact Xi_ne (by omega))))
                  have w369 : 0 ≤ Xi U31 890 2 ∧ Xi U31 890 2 ≤ 20 := hHU31.c _ _
                  exact ⟨hHT34, hFT34, _, rfl, ⟨by omega, by omega⟩, (by first | assumption | omega)⟩
                · refine l_iconst rfl ?_
                  refine l_goto rfl rfl ?_
                  refine l_ireturn rfl rfl ?_
                  have w370 : Xi T34 890 2 = Xi U31 890 2 := (show Xi T34 890 2 = Xi T33 890 2 from w365.x _ _ rfl).trans ( (show Xi T33 890 2 = Xi U32 890 2 from w354.x _ _ rfl).trans ((show Xi U32 890 2 = Xi U31 890 2 from by rw [eU32]; exact Xi_ne (by omega))))
                  have w371 : 0 ≤ Xi U31 890 2 ∧ Xi U31 890 2 ≤ 20 := hHU31.c _ _
                  exact ⟨hHT34, hFT34, _, rfl, ⟨by omega, by omega⟩, (by first | assumption | omega)⟩
              · refine l_aload_n rfl rfl ?_
                refine l_bipush rfl rfl ?_
                have w372 : Xi T33 876 7 = Xi S 876 7 := (show Xi T33 876 7 = Xi U32 876 7 from w354.x _ _ rfl).trans ( (show Xi U32 876 7 = Xi U31 876 7 from by rw [eU32]; exact Xi_ne (by omega)).trans ( (show Xi U31 876 7 = Xi T2 876 7 from by rw [eU31]; exact Xi_ne (by omega)).trans ( (show Xi T2 876 7 = Xi T1 876 7 from w23.x _ _ rfl).trans ((show Xi T1 876 7 = Xi S 876 7 from w12.x _ _ rfl)))))
                have w373 : 0 ≤ Xi S 876 7 ∧ Xi S 876 7 ≤ 5130 := hH.c _ _
                have w374 : 0 ≤ Xi T33 890 1 ∧ Xi T33 890 1 ≤ 5130 := hHT33.c _ _
                refine l_callV rfl rfl rfl (t_gr_take hHT33 11 ⟨by omega, by omega⟩ (by first | assumption | omega) (by first | assumption | omega) (by first | assumption | omega) _) ?_
                rintro _ T35 ⟨hHT35, w380, z379, rfl, w379, w375, w376, w377, w378⟩
                have hFT35 : FR md_gr_checkBe S T35 := FR.tr hFT33 w380 rfl
                show Rl _ _ _ _ _ [iv z379] _ _
                refine l_if_eq rfl rfl (by unfold rg; omega) (fun w381 => ?_) (fun w382 => ?_)
                · refine l_iconst rfl ?_
                  refine l_ireturn rfl rfl ?_
                  have w383 : Xi T35 890 2 = Xi U31 890 2 := (show Xi T35 890 2 = Xi T33 890 2 from w380.x _ _ rfl).trans ( (show Xi T33 890 2 = Xi U32 890 2 from w354.x _ _ rfl).trans ((show Xi U32 890 2 = Xi U31 890 2 from by rw [eU32]; exact Xi_ne (by omega))))
                  have w384 : 0 ≤ Xi U31 890 2 ∧ Xi U31 890 2 ≤ 20 := hHU31.c _ _
                  exact ⟨hHT35, hFT35, _, rfl, ⟨by omega, by omega⟩, (by first | assumption | omega)⟩
                · refine l_aload_n rfl rfl ?_
                  refine l_bipush rfl rfl ?_
                  have w385 : Xi T35 876 7 = Xi S 876 7 := (show Xi T35 876 7 = Xi T33 876 7 from w380.x _ _ rfl).trans ( (show Xi T33 876 7 = Xi U32 876 7 from w354.x _ _ rfl).trans ( (show Xi U32 876 7 = Xi U31 876 7 from by rw [eU32]; exact Xi_ne (by omega)).trans ( (show Xi U31 876 7 = Xi T2 876 7 from by rw [eU31]; exact Xi_ne (by omega)).trans ( (show Xi T2 876 7 = Xi T1 876 7 from w23.x _ _ rfl).trans ((show Xi T1 876 7 = Xi S 876 7 from w12.x _ _ rfl))))))
                  have w386 : 0 ≤ Xi S 876 7 ∧ Xi S 876 7 ≤ 5130 := hH.c _ _
                  have w387 : 0 ≤ Xi T35 890 1 ∧ Xi T35 890 1 ≤ 5130 := hHT35.c _ _
                  refine l_callV rfl rfl rfl (t_gr_take hHT35 22 ⟨by omega, by omega⟩ (by first | assumption | omega) (by first | assumption | omega) (by first | assumption | omega) _) ?_
                  rintro _ T36 ⟨hHT36, w393, z392, rfl, w392, w388, w389, w390, w391⟩
                  have hFT36 : FR md_gr_checkBe S T36 := FR.tr hFT35 w393 rfl
                  show Rl _ _ _ _ _ [iv z392] _ _
                  refine l_if_eq rfl rfl (by unfold rg; omega) (fun w394 => ?_) (fun w395 => ?_)
                  · refine l_iconst rfl ?_
                    refine l_ireturn rfl rfl ?_
                    have w396 : Xi T36 890 2 = Xi U31 890 2 := (show Xi T36 890 2 = Xi T35 890 2 from w393.x _ _ rfl).trans ( (show Xi T35 890 2 = Xi T33 890 2 from w380.x _ _ rfl).trans ( (show Xi T33 890 2 = Xi U32 890 2 from w354.x _ _ rfl).trans ((show Xi U32 890 2 = Xi U31 890 2 from by rw [eU32]; exact Xi_ne (by omega)))))
                    have w397 : 0 ≤ Xi U31 890 2 ∧ Xi U31 890 2 ≤ 20 := hHU31.c _ _
                    exact ⟨hHT36, hFT36, _, rfl, ⟨by omega, by omega⟩, (by first | assumption | omega)⟩
                  · refine l_aload_n rfl rfl ?_
                    have w398 : Xi T36 876 7 = Xi S 876 7 := (show Xi T36 876 7 = Xi T35 876 7 from w393.x _ _ rfl).trans ( (show Xi T35 876 7 = Xi T33 876 7 from w380.x _ _ rfl).trans ( (show Xi T33 876 7 = Xi U32 876 7 from w354.x _ _ rfl).trans ( (show Xi U32 876 7 = Xi U31 876 7 from by rw [eU32]; exact Xi_ne (by omega)).trans ( (show Xi U31 876 7 = Xi T2 876 7 from by rw [eU31]; exact Xi_ne (by omega)).trans ( (show Xi T2 876 7 = Xi T1 876 7 from w23.x _ _ rfl).trans ((show Xi T1 876 7 = Xi S 876 7 from w12.x _ _ rfl)))))))
                    have w399 : 0 ≤ Xi S 876 7 ∧ Xi S 876 7 ≤ 5130 := hH.c _ _
                    have w400 : 0 ≤ Xi T36 890 1 ∧ Xi T36 890 1 ≤ 5130 := hHT36.c _ _
                    refine l_callV rfl rfl rfl (t_gr_takeRun hHT36 (by first | assumption | omega) (by first | assumption | omega) _) ?_
                    rintro _ T37 ⟨hHT37, w405, z404, rfl, w404, w401, w402, w403⟩
                    have hFT37 : FR md_gr_checkBe S T37 := FR.tr hFT36 w405 rfl
                    show Rl _ _ _ _ _ [iv z404] _ _
                    refine l_if_eq rfl rfl (by unfold rg; omega) (fun w406 => ?_) (fun w407 => ?_)
                    · refine l_iconst rfl ?_
                      refine l_ireturn rfl rfl ?_
                      have w408 : Xi T37 890 2 = Xi U31 890 2 := (show Xi T37 890 2 = Xi T36 890 2 from w405.x _ _ rfl).trans ( (show Xi T36 890 2 = Xi T35 890 2 from w393.x _ _ rfl).trans ( (show Xi T35 890 2 = Xi T33 890 2 from w380.x _ _ rfl).trans ( (show Xi T33 890 2 = Xi U32 890 2 from w354.x _ _ rfl).trans ((show Xi U32 890 2 = Xi U31 890 2 from by rw [eU32]; exact Xi_ne (by omega))))))
                      have w409 : 0 ≤ Xi U31 890 2 ∧ Xi U31 890 2 ≤ 20 := hHU31.c _ _
                      exact ⟨hHT37, hFT37, _, rfl, ⟨by omega, by omega⟩, (by first | assumption | omega)⟩
                    · refine l_aload_n rfl rfl ?_
                      refine l_bipush rfl rfl ?_
                      have w410 : Xi T37 876 7 = Xi S 876 7 := (show Xi T37 876 7 = Xi T36 876 7 from w405.x _ _ rfl).trans ( (show Xi T36 876 7 = Xi T35 876 7 from w393.x _ _ rfl).trans ( (show Xi T35 876 7 = Xi T33 876 7 from w380.x _ _ rfl).trans ( (show Xi T33 876 7 = Xi U32 876 7 from w354.x _ _ rfl).trans ( (show Xi U32 876 7 = Xi U31 876 7 from by rw [eU32]; exact Xi_ne (by omega)).trans ( (show Xi U31 876 7 = Xi T2 876 7 from by rw [eU31]; exact Xi_ne (by omega)).trans ( (show Xi T2 876 7 = Xi T1 876 7 from w23.x _ _ rfl).trans ((show Xi T1 876 7 = Xi S 876 7 from w12.x _ _ rfl))))))))
                      have w411 : 0 ≤ Xi S 876 7 ∧ Xi S 876 7 ≤ 5130 := hH.c _ _
                      have w412 : 0 ≤ Xi T37 890 1 ∧ Xi T37 890 1 ≤ 5130 := hHT37.c _ _
                      refine l_callV rfl rfl rfl (t_gr_take hHT37 103 ⟨by omega, by omega⟩ (by first | assumption | omega) (by first | assumption | omega) (by first | assumption | omega) _) ?_
                      rintro _ T38 ⟨hHT38, w418, z417, rfl, w417, w413, w414, w415, w416⟩
                      have hFT38 : FR md_gr_checkBe S T38 := FR.tr hFT37 w418 rfl
                      show Rl _ _ _ _ _ [iv z417] _ _
                      refine l_if_eq rfl rfl (by unfold rg; omega) (fun w419 => ?_) (fun w420 => ?_)
                      · refine l_iconst rfl ?_
                        refine l_ireturn rfl rfl ?_
                        have w421 : Xi T38 890 2 = Xi U31 890 2 := (show Xi T38 890 2 = Xi T37 890 2 from w418.x _ _ rfl).trans ( (show Xi T37 890 2 = Xi T36 890 2 from w405.x _ _ rfl).trans ( (show Xi T36 890 2 = Xi T35 890 2 from w393.x _ _ rfl).trans ( (show Xi T35 890 2 = Xi T33 890 2 from w380.x _ _ rfl).trans ( (show Xi T33 890 2 = Xi U32 890 2 from w354.x _ _ rfl).trans ((show Xi U32 890 2 = Xi U31 890 2 from by rw [eU32]; exact Xi_ne (by omega)))))))
                        have w422 : 0 ≤ Xi U31 890 2 ∧ Xi U31 890 2 ≤ 20 := hHU31.c _ _
                        exact ⟨hHT38, hFT38, _, rfl, ⟨by omega, by omega⟩, (by first | assumption | omega)⟩
                      · refine l_iconst rfl ?_
                        refine l_goto rfl rfl ?_
                        refine l_ireturn rfl rfl ?_
                        have w423 : Xi T38 890 2 = Xi U31 890 2 := (show Xi T38 890 2 = Xi T37 890 2 from w418.x _ _ rfl).trans ( (show Xi T37 890 2 = Xi T36 890 2 from w405.x _ _ rfl).trans ( (show Xi T36 890 2 = Xi T35 890 2 from w393.x _ _ rfl).trans ( (show Xi T35 890 2 = Xi T33 890 2 from w380.x _ _ rfl).trans ( (show Xi T33 890 2 = Xi U32 890 2 from w354.x _ _ rfl).trans ((show Xi U32 890 2 = Xi U31 890 2 from by rw [eU32]; exact Xi_ne (by omega)))))))
                        have w424 : 0 ≤ Xi U31 890 2 ∧ Xi U31 890 2 ≤ 20 := hHU31.c _ _
                        exact ⟨hHT38, hFT38, _, rfl, ⟨by omega, by omega⟩, (by first | assumption | omega)⟩
        · refine l_iload_n rfl rfl ?_
          refine l_bipush rfl rfl ?_
          refine l_icmp_ne rfl rfl (by unfold rg; omega) (by unfold rg; omega) (fun w425 => ?_) (fun w426 => ?_)
          · refine l_iload_n rfl rfl ?_
            refine l_iconst rfl ?_
            refine l_icmp_ne rfl rfl (by unfold rg; omega) (by unfold rg; omega) (fun w427 => ?_) (fun w428 => ?_)
            · refine l_iload_n rfl rfl ?_
              refine l_callS rfl rfl (by decide) rfl (t_rs_isArt hHT2 z30 ⟨by omega, by omega⟩ _) ?_
              rintro _ _ ⟨rfl, z430, rfl, w430, w429⟩
              show Rl _ _ _ _ _ [iv z430] _ _
              refine l_if_eq rfl rfl (by unfold rg; omega) (fun w431 => ?_) (fun w432 => ?_)
              · refine l_aload_n rfl rfl ?_
                have w433 : Xi T2 876 7 = Xi S 876 7 := (show Xi T2 876 7 = Xi T1 876 7 from w23.x _ _ rfl).trans ((show Xi T1 876 7 = Xi S 876 7 from w12.x _ _ rfl))
                have w434 : 0 ≤ Xi S 876 7 ∧ Xi S 876 7 ≤ 5130 := hH.c _ _
                have w435 : 0 ≤ Xi T2 890 1 ∧ Xi T2 890 1 ≤ 5130 := hHT2.c _ _
                refine l_callV rfl rfl rfl (t_gr_atPlace hHT2 _) ?_
                rintro _ _ ⟨rfl, z437, rfl, w437, w436⟩
                show Rl _ _ _ _ _ [iv z437] _ _
                refine l_if_eq rfl rfl (by unfold rg; omega) (fun w438 => ?_) (fun w439 => ?_)
                · refine l_aload_n rfl rfl ?_
                  refine l_aload_n rfl rfl ?_
                  refine l_bipush rfl rfl ?_
                  have w440 : Xi T2 876 7 = Xi S 876 7 := (show Xi T2 876 7 = Xi T1 876 7 from w23.x _ _ rfl).trans ((show Xi T1 876 7 = Xi S 876 7 from w12.x _ _ rfl))
                  have w441 : 0 ≤ Xi S 876 7 ∧ Xi S 876 7 ≤ 5130 := hH.c _ _
                  have w442 : 0 ≤ Xi T2 890 1 ∧ Xi T2 890 1 ≤ 5130 := hHT2.c _ _
                  refine l_callV rfl rfl rfl (t_gr_take hHT2 6 ⟨by omega, by omega⟩ (by first | assumption | omega) (by first | assumption | omega) (by first | assumption | omega) _) ?_
                  rintro _ T39 ⟨hHT39, w448, z447, rfl, w447, w443, w444, w445, w446⟩
                  have hFT39 : FR md_gr_checkBe S T39 := FR.tr hFT2 w448 rfl
                  show Rl _ _ _ _ _ [iv z447, .ref 890] _ _
                  refine l_if_ne rfl rfl (by unfold rg; omega) (fun w449 => ?_) (fun w450 => ?_)
                  · refine l_iconst rfl ?_
                    refine l_goto rfl rfl ?_
                    have w451 : Xi T39 876 7 = Xi S 876 7 := (show Xi T39 876 7 = Xi T2 876 7 from w448.x _ _ rfl).trans ( (show Xi T2 876 7 = Xi T1 876 7 from w23.x _ _ rfl).trans ((show Xi T1 876 7 = Xi S 876 7 from w12.x _ _ rfl)))
                    have w452 : 0 ≤ Xi S 876 7 ∧ Xi S 876 7 ≤ 5130 := hH.c _ _
                    have w453 : 0 ≤ Xi T39 890 1 ∧ Xi T39 890 1 ≤ 5130 := hHT39.c _ _
                    refine l_callV rfl rfl rfl (t_gr_checkRuns hHT39 1 ⟨by omega, by omega⟩ (by first | assumption | omega) (by first | assumption | omega) _) ?_
                    rintro _ T40 ⟨hHT40, w458, z457, rfl, w457, w454, w455, w456⟩
                    have hFT40 : FR md_gr_checkBe S T40 := FR.tr hFT39 w458 rfl
                    show Rl _ _ _ _ _ [iv z457] _ _
                    refine l_ireturn rfl (retI_z (by omega)) ?_
                    have w459 : 0 ≤ Xi T40 890 2 ∧ Xi T40 890 2 ≤ 20 := hHT40.c _ _
                    exact ⟨hHT40, hFT40, _, rfl, ⟨by omega, by omega⟩, (by first | assumption | omega)⟩
                  · refine l_aload_n rfl rfl ?_
                    refine l_bipush rfl rfl ?_
                    have w460 : Xi T39 876 7 = Xi S 876 7 := (show Xi T39 876 7 = Xi T2 876 7 from w448.x _ _ rfl).trans ( (show Xi T2 876 7 = Xi T1 876 7 from w23.x _ _ rfl).trans ((show Xi T1 876 7 = Xi S 876 7 from w12.x _ _ rfl)))
                    have w461 : 0 ≤ Xi S 876 7 ∧ Xi S 876 7 ≤ 5130 := hH.c _ _
                    have w462 : 0 ≤ Xi T39 890 1 ∧ Xi T39 890 1 ≤ 5130 := hHT39.c _ _
                    refine l_callV rfl rfl rfl (t_gr_take hHT39 32 ⟨by omega, by omega⟩ (by first | assumption | omega) (by first | assumption | omega) (by first | assumption | omega) _) ?_
                    rintro _ T41 ⟨hHT41, w468, z467, rfl, w467, w463, w464, w465, w466⟩
                    have hFT41 : FR md_gr_checkBe S T41 := FR.tr hFT39 w468 rfl
                    show Rl _ _ _ _ _ [iv z467, .ref 890] _ _
                    refine l_if_eq rfl rfl (by unfold rg; omega) (fun w469 => ?_) (fun w470 => ?_)
                    · refine l_iconst rfl ?_
                      have w471 : Xi T41 876 7 = Xi S 876 7 := (show Xi T41 876 7 = Xi T39 876 7 from w468.x _ _ rfl).trans ( (show Xi T39 876 7 = Xi T2 876 7 from w448.x _ _ rfl).trans ( (show Xi T2 876 7 = Xi T1 876 7 from w23.x _ _ rfl).trans ((show Xi T1 876 7 = Xi S 876 7 from w12.x _ _ rfl))))
                      have w472 : 0 ≤ Xi S 876 7 ∧ Xi S 876 7 ≤ 5130 := hH.c _ _
                      have w473 : 0 ≤ Xi T41 890 1 ∧ Xi T41 890 1 ≤ 5130 := hHT41.c _ _
                      refine l_callV rfl rfl rfl (t_gr_checkRuns hHT41 0 ⟨by omega, by omega⟩ (by first | assumption | omega) (by first | assumption | omega) _) ?_
                      rintro _ T42 ⟨hHT42, w478, z477, rfl, w477, w474, w475, w476⟩
                      have hFT42 : FR md_gr_checkBe S T42 := FR.tr hFT41 w478 rfl
                      show Rl _ _ _ _ _ [iv z477] _ _
                      refine l_ireturn rfl (retI_z (by omega)) ?_
                      have w479 : 0 ≤ Xi T42 890 2 ∧ Xi T42 890 2 ≤ 20 := hHT42.c _ _
                      exact ⟨hHT42, hFT42, _, rfl, ⟨by omega, by omega⟩, (by first | assumption | omega)⟩
                    · refine l_iconst rfl ?_
                      refine l_goto rfl rfl ?_
                      have w480 : Xi T41 876 7 = Xi S 876 7 := (show Xi T41 876 7 = Xi T39 876 7 from w468.x _ _ rfl).trans ( (show Xi T39 876 7 = Xi T2 876 7 from w448.x _ _ rfl).trans ( (show Xi T2 876 7 = Xi T1 876 7 from w23.x _ _ rfl).trans ((show Xi T1 876 7 = Xi S 876 7 from w12.x _ _ rfl))))
                      have w481 : 0 ≤ Xi S 876 7 ∧ Xi S 876 7 ≤ 5130 := hH.c _ _
                      have w482 : 0 ≤ Xi T41 890 1 ∧ Xi T41 890 1 ≤ 5130 := hHT41.c _ _
                      refine l_callV rfl rfl rfl (t_gr_checkRuns hHT41 1 ⟨by omega, by omega⟩ (by first | assumption | omega) (by first | assumption | omega) _) ?_
                      rintro _ T43 ⟨hHT43, w487, z486, rfl, w486, w483, w484, w485⟩
                      have hFT43 : FR md_gr_checkBe S T43 := FR.tr hFT41 w487 rfl
                      show Rl _ _ _ _ _ [iv z486] _ _
                      refine l_ireturn rfl (retI_z (by omega)) ?_
                      have w488 : 0 ≤ Xi T43 890 2 ∧ Xi T43 890 2 ≤ 20 := hHT43.c _ _
                      exact ⟨hHT43, hFT43, _, rfl, ⟨by omega, by omega⟩, (by first | assumption | omega)⟩
                · refine l_aload_n rfl rfl ?_
                  refine l_bipush rfl rfl ?_
                  refine l_pfi rfl rfl rfl rfl ?_
                  obtain ⟨U44, eU44⟩ : ∃ T : sS, T = uI T2 890 2 (Int32.ofInt 13) := ⟨_, rfl⟩
                  rw [← eU44]
                  have hHU44 : HI U44 := by rw [eU44]; exact HI_w hHT2 (show 0 ≤ 13 by omega) (show 13 ≤ 20 by omega)
                  have hFU44 : FR md_gr_checkBe S U44 := by rw [eU44]; exact FR.wI hFT2 (mdf_i (r := (890, 891, 2, 3)) (List.mem_of_getElem? (i := 1) rfl) (inR_i (by omega) (by omega) (by omega) (by omega)))
                  have w489 : Xi U44 890 2 = 13 := by rw [eU44]; exact Xi_same (by unfold rg; omega)
                  have hso321 : SAY U44 (Xi U44 890 1) := SAY_sort eU44 (by assumption) (by decide)
                  refine l_aload_n rfl rfl ?_
                  refine l_iconst rfl ?_
                  have w490 : Xi U44 876 7 = Xi S 876 7 := (show Xi U44 876 7 = Xi T2 876 7 from by rw [eU44]; exact Xi_ne (by omega)).trans ( (show Xi T2 876 7 = Xi T1 876 7 from w23.x _ _ rfl).trans ((show Xi T1 876 7 = Xi S 876 7 from w12.x _ _ rfl)))
                  have w491 : 0 ≤ Xi S 876 7 ∧ Xi S 876 7 ≤ 5130 := hH.c _ _
                  have w492 : Xi U44 890 1 = Xi T2 890 1 := (show Xi U44 890 1 = Xi T2 890 1 from by rw [eU44]; exact Xi_ne (by omega))
                  have w493 : 0 ≤ Xi T2 890 1 ∧ Xi T2 890 1 ≤ 5130 := hHT2.c _ _
                  refine l_callV rfl rfl rfl (t_gr_takePlace hHU44 0 ⟨by omega, by omega⟩ (by first | assumption | omega) (by first | assumption | omega) (by first | omega | exact ⟨by omega, by rw [x877 eU44, show (Xi U44 890 1).toNat = (Xi T2 890 1).toNat by omega]; omega⟩) _) ?_
                  rintro _ T45 ⟨hHT45, w497, z496, rfl, w496, w494, w495⟩
                  have hFT45 : FR md_gr_checkBe S T45 := FR.tr hFU44 w497 rfl
                  show Rl _ _ _ _ _ [iv z496] _ _
                  refine l_if_eq rfl rfl (by unfold rg; omega) (fun w498 => ?_) (fun w499 => ?_)
                  · refine l_iconst rfl ?_
                    refine l_ireturn rfl rfl ?_
                    have w500 : Xi T45 890 2 = Xi U44 890 2 := (show Xi T45 890 2 = Xi U44 890 2 from w497.x _ _ rfl)
                    have w501 : 0 ≤ Xi U44 890 2 ∧ Xi U44 890 2 ≤ 20 := hHU44.c _ _
                    exact ⟨hHT45, hFT45, _, rfl, ⟨by omega, by omega⟩, (by first | assumption | omega)⟩
                  · refine l_aload_n rfl rfl ?_
                    refine l_bipush rfl rfl ?_
                    have w502 : Xi T45 876 7 = Xi S 876 7 := (show Xi T45 876 7 = Xi U44 876 7 from w497.x _ _ rfl).trans ( (show Xi U44 876 7 = Xi T2 876 7 from by rw [eU44]; exact Xi_ne (by omega)).trans ( (show Xi T2 876 7 = Xi T1 876 7 from w23.x _ _ rfl).trans ((show Xi T1 876 7 = Xi S 876 7 from w12.x _ _ rfl))))
                    have w503 : 0 ≤ Xi S 876 7 ∧ Xi S 876 7 ≤ 5130 := hH.c _ _
                    have w504 : 0 ≤ Xi T45 890 1 ∧ Xi T45 890 1 ≤ 5130 := hHT45.c _ _
                    refine l_callV rfl rfl rfl (t_gr_take hHT45 103 ⟨by omega, by omega⟩ (by first | assumption | omega) (by first | assumption | omega) (by first | assumption | omega) _) ?_
                    rintro _ T46 ⟨hHT46, w510, z509, rfl, w509, w505, w506, w507, w508⟩
                    have hFT46 : FR md_gr_checkBe S T46 := FR.tr hFT45 w510 rfl
                    show Rl _ _ _ _ _ [iv z509] _ _
                    refine l_if_eq rfl rfl (by unfold rg; omega) (fun w511 => ?_) (fun w512 => ?_)
                    · refine l_iconst rfl ?_
                      refine l_ireturn rfl rfl ?_
                      have w513 : Xi T46 890 2 = Xi U44 890 2 := (show Xi T46 890 2 = Xi T45 890 2 from w510.x _ _ rfl).trans ((show Xi T45 890 2 = Xi U44 890 2 from w497.x _ _ rfl))
                      have w514 : 0 ≤ Xi U44 890 2 ∧ Xi U44 890 2 ≤ 20 := hHU44.c _ _
                      exact ⟨hHT46, hFT46, _, rfl, ⟨by omega, by omega⟩, (by first | assumption | omega)⟩
                    · refine l_iconst rfl ?_
                      refine l_goto rfl rfl ?_
                      refine l_ireturn rfl rfl ?_
                      have w515 : Xi T46 890 2 = Xi U44 890 2 := (show Xi T46 890 2 = Xi T45 890 2 from w510.x _ _ rfl).trans ((show Xi T45 890 2 = Xi U44 890 2 from w497.x _ _ rfl))
                      have w516 : 0 ≤ Xi U44 890 2 ∧ Xi U44 890 2 ≤ 20 := hHU44.c _ _
                      exact ⟨hHT46, hFT46, _, rfl, ⟨by omega, by omega⟩, (by first | assumption | omega)⟩
              · refine l_aload_n rfl rfl ?_
                refine l_bipush rfl rfl ?_
                refine l_pfi rfl rfl rfl rfl ?_
                obtain ⟨U47, eU47⟩ : ∃ T : sS, T = uI T2 890 2 (Int32.ofInt 12) := ⟨_, rfl⟩
                rw [← eU47]
                have hHU47 : HI U47 := by rw [eU47]; exact HI_w hHT2 (show 0 ≤ 12 by omega) (show 12 ≤ 20 by omega)
                have hFU47 : FR md_gr_checkBe S U47 := by rw [eU47]; exact FR.wI hFT2 (mdf_i (r := (890, 891, 2, 3)) (List.mem_of_getElem? (i := 1) rfl) (inR_i (by omega) (by omega) (by omega) (by omega)))
                have w517 : Xi U47 890 2 = 12 := by rw [eU47]; exact Xi_same (by unfold rg; omega)
                have hso261 : SAY U47 (Xi U47 890 1) := SAY_sort eU47 (by assumption) (by decide)
                refine l_aload_n rfl rfl ?_
                refine l_dup rfl rfl ?_
                refine l_gfi rfl rfl rfl rfl rfl ?_
                have w518 : (Xi U47 890 1) = (Xi T2 890 1) := (show Xi U47 890 1 = Xi T2 890 1 from by rw [eU47]; exact Xi_ne (by omega))
                rw [w518]
                refine l_iconst rfl ?_
                refine l_iadd rfl ?_
                refine l_pfi rfl rfl rfl rfl ?_
                obtain ⟨U48, eU48⟩ : ∃ T : sS, T = uI U47 890 1 (Int32.ofInt ((Xi T2 890 1) + 1)) := ⟨_, rfl⟩
                rw [← eU48]
                have hHU48 : HI U48 := by rw [eU48]; exact HI_w hHU47 (show 0 ≤ ((Xi T2 890 1) + 1) by omega) (show ((Xi T2 890 1) + 1) ≤ 5130 by omega)
                have hFU48 : FR md_gr_checkBe S U48 := by rw [eU48]; exact FR.wI hFU47 (mdf_i (r := (890, 891, 1, 2)) (List.mem_of_getElem? (i := 0) rfl) (inR_i (by omega) (by omega) (by omega) (by omega)))
                have w519 : Xi U48 890 1 = ((Xi T2 890 1) + 1) := by rw [eU48]; exact Xi_same (by unfold rg; omega)
                have hs271 : SAY U48 (Xi U48 890 1) := SAY_1x eU47 eU48 (by omega) (by assumption) (by omega) (by omega) (by omega)
                refine l_aload_n rfl rfl ?_
                have w520 : Xi U48 876 7 = Xi S 876 7 := (show Xi U48 876 7 = Xi U47 876 7 from by rw [eU48]; exact Xi_ne (by omega)).trans ( (show Xi U47 876 7 = Xi T2 876 7 from by rw [eU47]; exact Xi_ne (by omega)).trans ( (show Xi T2 876 7 = Xi T1 876 7 from w23.x _ _ rfl).trans ((show Xi T1 876 7 = Xi S 876 7 from w12.x _ _ rfl))))
                have w521 : 0 ≤ Xi S 876 7 ∧ Xi S 876 7 ≤ 5130 := hH.c _ _
                have w522 : 0 ≤ Xi U48 890 1 ∧ Xi U48 890 1 ≤ 5130 := hHU48.c _ _
                refine l_callV rfl rfl rfl (t_gr_takeRun hHU48 (by first | assumption | omega) (by first | assumption | omega) _) ?_
                rintro _ T49 ⟨hHT49, w527, z526, rfl, w526, w523, w524, w525⟩
                have hFT49 : FR md_gr_checkBe S T49 := FR.tr hFU48 w527 rfl
                show Rl _ _ _ _ _ [iv z526] _ _
                refine l_if_eq rfl rfl (by unfold rg; omega) (fun w528 => ?_) (fun w529 => ?_)
                · refine l_iconst rfl ?_
                  refine l_ireturn rfl rfl ?_
                  have w530 : Xi T49 890 2 = Xi U47 890 2 := (show Xi T49 890 2 = Xi U48 890 2 from w527.x _ _ rfl).trans ((show Xi U48 890 2 = Xi U47 890 2 from by rw [eU48]; exact Xi_ne (by omega)))
                  have w531 : 0 ≤ Xi U47 890 2 ∧ Xi U47 890 2 ≤ 20 := hHU47.c _ _
                  exact ⟨hHT49, hFT49, _, rfl, ⟨by omega, by omega⟩, (by first | assumption | omega)⟩
                · refine l_aload_n rfl rfl ?_
                  have w532 : Xi T49 876 7 = Xi S 876 7 := (show Xi T49 876 7 = Xi U48 876 7 from w527.x _ _ rfl).trans ( (show Xi U48 876 7 = Xi U47 876 7 from by rw [eU48]; exact Xi_ne (by omega)).trans ( (show Xi U47 876 7 = Xi T2 876 7 from by rw [eU47]; exact Xi_ne (by omega)).trans ( (show Xi T2 876 7 = Xi T1 876 7 from w23.x _ _ rfl).trans ((show Xi T1 876 7 = Xi S 876 7 from w12.x _ _ rfl)))))
                  have w533 : 0 ≤ Xi S 876 7 ∧ Xi S 876 7 ≤ 5130 := hH.c _ _
                  have w534 : 0 ≤ Xi T49 890 1 ∧ Xi T49 890 1 ≤ 5130 := hHT49.c _ _
                  refine l_callV rfl rfl rfl (t_gr_atPlace hHT49 _) ?_
                  rintro _ _ ⟨rfl, z536, rfl, w536, w535⟩
                  show Rl _ _ _ _ _ [iv z536] _ _
                  refine l_if_eq rfl rfl (by unfold rg; omega) (fun w537 => ?_) (fun w538 => ?_)
                  · refine l_aload_n rfl rfl ?_
                    refine l_bipush rfl rfl ?_
                    have w539 : Xi T49 876 7 = Xi S 876 7 := (show Xi T49 876 7 = Xi U48 876 7 from w527.x _ _ rfl).trans ( (show Xi U48 876 7 = Xi U47 876 7 from by rw [eU48]; exact Xi_ne (by omega)).trans ( (show Xi U47 876 7 = Xi T2 876 7 from by rw [eU47]; exact Xi_ne (by omega)).trans ( (show Xi T2 876 7 = Xi T1 876 7 from w23.x _ _ rfl).trans ((show Xi T1 876 7 = Xi S 876 7 from w12.x _ _ rfl)))))
                    have w540 : 0 ≤ Xi S 876 7 ∧ Xi S 876 7 ≤ 5130 := hH.c _ _
                    have w541 : 0 ≤ Xi T49 890 1 ∧ Xi T49 890 1 ≤ 5130 := hHT49.c _ _
                    refine l_callV rfl rfl rfl (t_gr_take hHT49 103 ⟨by omega, by omega⟩ (by first | assumption | omega) (by first | assumption | omega) (by first | assumption | omega) _) ?_
                    rintro _ T50 ⟨hHT50, w547, z546, rfl, w546, w542, w543, w544, w545⟩
                    have hFT50 : FR md_gr_checkBe S T50 := FR.tr hFT49 w547 rfl
                    show Rl _ _ _ _ _ [iv z546] _ _
                    refine l_if_eq rfl rfl (by unfold rg; omega) (fun w548 => ?_) (fun w549 => ?_)
                    · refine l_iconst rfl ?_
                      refine l_ireturn rfl rfl ?_
                      have w550 : Xi T50 890 2 = Xi U47 890 2 := (show Xi T50 890 2 = Xi T49 890 2 from w547.x _ _ rfl).trans ( (show Xi T49 890 2 = Xi U48 890 2 from w527.x _ _ rfl).trans ((show Xi U48 890 2 = Xi U47 890 2 from by rw [eU48]; exact Xi_ne (by omega))))
                      have w551 : 0 ≤ Xi U47 890 2 ∧ Xi U47 890 2 ≤ 20 := hHU47.c _ _
                      exact ⟨hHT50, hFT50, _, rfl, ⟨by omega, by omega⟩, (by first | assumption | omega)⟩
                    · refine l_iconst rfl ?_
                      refine l_goto rfl rfl ?_
                      refine l_ireturn rfl rfl ?_
                      have w552 : Xi T50 890 2 = Xi U47 890 2 := (show Xi T50 890 2 = Xi T49 890 2 from w547.x _ _ rfl).trans ( (show Xi T49 890 2 = Xi U48 890 2 from w527.x _ _ rfl).trans ((show Xi U48 890 2 = Xi U47 890 2 from by rw [eU48]; exact Xi_ne (by omega))))
                      have w553 : 0 ≤ Xi U47 890 2 ∧ Xi U47 890 2 ≤ 20 := hHU47.c _ _
                      exact ⟨hHT50, hFT50, _, rfl, ⟨by omega, by omega⟩, (by first | assumption | omega)⟩
                  · refine l_aload_n rfl rfl ?_
                    refine l_iconst rfl ?_
                    have w554 : Xi T49 876 7 = Xi S 876 7 := (show Xi T49 876 7 = Xi U48 876 7 from w527.x _ _ rfl).trans ( (show Xi U48 876 7 = Xi U47 876 7 from by rw [eU48]; exact Xi_ne (by omega)).trans ( (show Xi U47 876 7 = Xi T2 876 7 from by rw [eU47]; exact Xi_ne (by omega)).trans ( (show Xi T2 876 7 = Xi T1 876 7 from w23.x _ _ rfl).trans ((show Xi T1 876 7 = Xi S 876 7 from w12.x _ _ rfl)))))
                    have w555 : 0 ≤ Xi S 876 7 ∧ Xi S 876 7 ≤ 5130 := hH.c _ _
                    have w556 : 0 ≤ Xi T49 890 1 ∧ Xi T49 890 1 ≤ 5130 := hHT49.c _ _
                    refine l_callV rfl rfl rfl (t_gr_takePlace hHT49 0 ⟨by omega, by omega⟩ (by first | assumption | omega) (by first | assumption | omega) (by first | omega | exact ⟨by omega, by rw [x877 , show (Xi T49 890 1).toNat = (Xi U48 890 1).toNat by omega]; omega⟩) _) ?_
                    rintro _ T51 ⟨hHT51, w560, z559, rfl, w559, w557, w558⟩
                    have hFT51 : FR md_gr_checkBe S T51 := FR.tr hFT49 w560 rfl
                    show Rl _ _ _ _ _ [iv z559] _ _
                    refine l_if_eq rfl rfl (by unfold rg; omega) (fun w561 => ?_) (fun w562 => ?_)
                    · refine l_iconst rfl ?_
                      refine l_ireturn rfl rfl ?_
                      have w563 : Xi T51 890 2 = Xi U47 890 2 := (show Xi T51 890 2 = Xi T49 890 2 from w560.x _ _ rfl).trans ( (show Xi T49 890 2 = Xi U48 890 2 from w527.x _ _ rfl).trans ((show Xi U48 890 2 = Xi U47 890 2 from by rw [eU48]; exact Xi_ne (by omega))))
                      have w564 : 0 ≤ Xi U47 890 2 ∧ Xi U47 890 2 ≤ 20 := hHU47.c _ _
                      exact ⟨hHT51, hFT51, _, rfl, ⟨by omega, by omega⟩, (by first | assumption | omega)⟩
                    · refine l_aload_n rfl rfl ?_
                      refine l_bipush rfl rfl ?_
                      have w565 : Xi T51 876 7 = Xi S 876 7 := (show Xi T51 876 7 = Xi T49 876 7 from w560.x _ _ rfl).trans ( (show Xi T49 876 7 = Xi U48 876 7 from w527.x _ _ rfl).trans ( (show Xi U48 876 7 = Xi U47 876 7 from by rw [eU48]; exact Xi_ne (by omega)).trans ( (show Xi U47 876 7 = Xi T2 876 7 from by rw [eU47]; exact Xi_ne (by omega)).trans ( (show Xi T2 876 7 = Xi T1 876 7 from w23.x _ _ rfl).trans ((show Xi T1 876 7 = Xi S 876 7 from w12.x _ _ rfl))))))
                      have w566 : 0 ≤ Xi S 876 7 ∧ Xi S 876 7 ≤ 5130 := hH.c _ _
                      have w567 : 0 ≤ Xi T51 890 1 ∧ Xi T51 890 1 ≤ 5130 := hHT51.c _ _
                      refine l_callV rfl rfl rfl (t_gr_take hHT51 103 ⟨by omega, by omega⟩ (by first | assumption | omega) (by first | assumption | omega) (by first | assumption | omega) _) ?_
                      rintro _ T52 ⟨hHT52, w573, z572, rfl, w572, w568, w569, w570, w571⟩
                      have hFT52 : FR md_gr_checkBe S T52 := FR.tr hFT51 w573 rfl
                      show Rl _ _ _ _ _ [iv z572] _ _
                      refine l_if_eq rfl rfl (by unfold rg; omega) (fun w574 => ?_) (fun w575 => ?_)
                      · refine l_iconst rfl ?_
                        refine l_ireturn rfl rfl ?_
                        have w576 : Xi T52 890 2 = Xi U47 890 2 := (show Xi T52 890 2 = Xi T51 890 2 from w573.x _ _ rfl).trans ( (show Xi T51 890 2 = Xi T49 890 2 from w560.x _ _ rfl).trans ( (show Xi T49 890 2 = Xi U48 890 2 from w527.x _ _ rfl).trans ((show Xi U48 890 2 = Xi U47 890 2 from by rw [eU48]; exact Xi_ne (by omega)))))
                        have w577 : 0 ≤ Xi U47 890 2 ∧ Xi U47 890 2 ≤ 20 := hHU47.c _ _
                        exact ⟨hHT52, hFT52, _, rfl, ⟨by omega, by omega⟩, (by first | assumption | omega)⟩
                      · refine l_iconst rfl ?_
                        refine l_goto rfl rfl ?_
                        refine l_ireturn rfl rfl ?_
                        have w578 : Xi T52 890 2 = Xi U47 890 2 := (show Xi T52 890 2 = Xi T51 890 2 from w573.x _ _ rfl).trans ( (show Xi T51 890 2 = Xi T49 890 2 from w560.x _ _ rfl).trans ( (show Xi T49 890 2 = Xi U48 890 2 from w527.x _ _ rfl).trans ((show Xi U48 890 2 = Xi U47 890 2 from by rw [eU48]; exact Xi_ne (by omega)))))
                        have w579 : 0 ≤ Xi U47 890 2 ∧ Xi U47 890 2 ≤ 20 := hHU47.c _ _
                        exact ⟨hHT52, hFT52, _, rfl, ⟨by omega, by omega⟩, (by first | assumption | omega)⟩
            · refine l_iload_n rfl rfl ?_
              refine l_bipush rfl rfl ?_
              refine l_icmp_ne rfl rfl (by unfold rg; omega) (by unfold rg; omega) (fun w580 => ?_) (fun w581 => ?_)
              · refine l_iload_n rfl rfl ?_
                refine l_callS rfl rfl (by decide) rfl (t_rs_isArt hHT2 z30 ⟨by omega, by omega⟩ _) ?_
                rintro _ _ ⟨rfl, z583, rfl, w583, w582⟩
                show Rl _ _ _ _ _ [iv z583] _ _
                refine l_if_eq rfl rfl (by unfold rg; omega) (fun w584 => ?_) (fun w585 => ?_)
                · refine l_aload_n rfl rfl ?_
                  have w586 : Xi T2 876 7 = Xi S 876 7 := (show Xi T2 876 7 = Xi T1 876 7 from w23.x _ _ rfl).trans ((show Xi T1 876 7 = Xi S 876 7 from w12.x _ _ rfl))
                  have w587 : 0 ≤ Xi S 876 7 ∧ Xi S 876 7 ≤ 5130 := hH.c _ _
                  have w588 : 0 ≤ Xi T2 890 1 ∧ Xi T2 890 1 ≤ 5130 := hHT2.c _ _
                  refine l_callV rfl rfl rfl (t_gr_atPlace hHT2 _) ?_
                  rintro _ _ ⟨rfl, z590, rfl, w590, w589⟩
                  show Rl _ _ _ _ _ [iv z590] _ _
                  refine l_if_eq rfl rfl (by unfold rg; omega) (fun w591 => ?_) (fun w592 => ?_)
                  · refine l_aload_n rfl rfl ?_
                    refine l_aload_n rfl rfl ?_
                    refine l_bipush rfl rfl ?_
                    have w593 : Xi T2 876 7 = Xi S 876 7 := (show Xi T2 876 7 = Xi T1 876 7 from w23.x _ _ rfl).trans ((show Xi T1 876 7 = Xi S 876 7 from w12.x _ _ rfl))
                    have w594 : 0 ≤ Xi S 876 7 ∧ Xi S 876 7 ≤ 5130 := hH.c _ _
                    have w595 : 0 ≤ Xi T2 890 1 ∧ Xi T2 890 1 ≤ 5130 := hHT2.c _ _
                    refine l_callV rfl rfl rfl (t_gr_take hHT2 6 ⟨by omega, by omega⟩ (by first | assumption | omega) (by first | assumption | omega) (by first | assumption | omega) _) ?_
                    rintro _ T53 ⟨hHT53, w601, z600, rfl, w600, w596, w597, w598, w599⟩
                    have hFT53 : FR md_gr_checkBe S T53 := FR.tr hFT2 w601 rfl
                    show Rl _ _ _ _ _ [iv z600, .ref 890] _ _
                    refine l_if_ne rfl rfl (by unfold rg; omega) (fun w602 => ?_) (fun w603 => ?_)
                    · refine l_iconst rfl ?_
                      refine l_goto rfl rfl ?_
                      have w604 : Xi T53 876 7 = Xi S 876 7 := (show Xi T53 876 7 = Xi T2 876 7 from w601.x _ _ rfl).trans ( (show Xi T2 876 7 = Xi T1 876 7 from w23.x _ _ rfl).trans ((show Xi T1 876 7 = Xi S 876 7 from w12.x _ _ rfl)))
                      have w605 : 0 ≤ Xi S 876 7 ∧ Xi S 876 7 ≤ 5130 := hH.c _ _
                      have w606 : 0 ≤ Xi T53 890 1 ∧ Xi T53 890 1 ≤ 5130 := hHT53.c _ _
                      refine l_callV rfl rfl rfl (t_gr_checkRuns hHT53 1 ⟨by omega, by omega⟩ (by first | assumption | omega) (by first | assumption | omega) _) ?_
                      rintro _ T54 ⟨hHT54, w611, z610, rfl, w610, w607, w608, w609⟩
                      have hFT54 : FR md_gr_checkBe S T54 := FR.tr hFT53 w611 rfl
                      show Rl _ _ _ _ _ [iv z610] _ _
                      refine l_ireturn rfl (retI_z (by omega)) ?_
                      have w612 : 0 ≤ Xi T54 890 2 ∧ Xi T54 890 2 ≤ 20 := hHT54.c _ _
                      exact ⟨hHT54, hFT54, _, rfl, ⟨by omega, by omega⟩, (by first | assumption | omega)⟩
                    · refine l_aload_n rfl rfl ?_
                      refine l_bipush rfl rfl ?_
                      have w613 : Xi T53 876 7 = Xi S 876 7 := (show Xi T53 876 7 = Xi T2 876 7 from w601.x _ _ rfl).trans ( (show Xi T2 876 7 = Xi T1 876 7 from w23.x _ _ rfl).trans ((show Xi T1 876 7 = Xi S 876 7 from w12.x _ _ rfl)))
                      have w614 : 0 ≤ Xi S 876 7 ∧ Xi S 876 7 ≤ 5130 := hH.c _ _
                      have w615 : 0 ≤ Xi T53 890 1 ∧ Xi T53 890 1 ≤ 5130 := hHT53.c _ _
                      refine l_callV rfl rfl rfl (t_gr_take hHT53 32 ⟨by omega, by omega⟩ (by first | assumption | omega) (by first | assumption | omega) (by first | assumption | omega) _) ?_
                      rintro _ T55 ⟨hHT55, w621, z620, rfl, w620, w616, w617, w618, w619⟩
                      have hFT55 : FR md_gr_checkBe S T55 := FR.tr hFT53 w621 rfl
                      show Rl _ _ _ _ _ [iv z620, .ref 890] _ _
                      refine l_if_eq rfl rfl (by unfold rg; omega) (fun w622 => ?_) (fun w623 => ?_)
                      · refine l_iconst rfl ?_
                        have w624 : Xi T55 876 7 = Xi S 876 7 := (show Xi T55 876 7 = Xi T53 876 7 from w621.x _ _ rfl).trans ( (show Xi T53 876 7 = Xi T2 876 7 from w601.x _ _ rfl).trans ( (show Xi T2 876 7 = Xi T1 876 7 from w23.x _ _ rfl).trans ((show Xi T1 876 7 = Xi S 876 7 from w12.x _ _ rfl))))
                        have w625 : 0 ≤ Xi S 876 7 ∧ Xi S 876 7 ≤ 5130 := hH.c _ _
                        have w626 : 0 ≤ Xi T55 890 1 ∧ Xi T55 890 1 ≤ 5130 := hHT55.c _ _
                        refine l_callV rfl rfl rfl (t_gr_checkRuns hHT55 0 ⟨by omega, by omega⟩ (by first | assumption | omega) (by first | assumption | omega) _) ?_
                        rintro _ T56 ⟨hHT56, w631, z630, rfl, w630, w627, w628, w629⟩
                        have hFT56 : FR md_gr_checkBe S T56 := FR.tr hFT55 w631 rfl
                        show Rl _ _ _ _ _ [iv z630] _ _
                        refine l_ireturn rfl (retI_z (by omega)) ?_
                        have w632 : 0 ≤ Xi T56 890 2 ∧ Xi T56 890 2 ≤ 20 := hHT56.c _ _
                        exact ⟨hHT56, hFT56, _, rfl, ⟨by omega, by omega⟩, (by first | assumption | omega)⟩
                      · refine l_iconst rfl ?_
                        refine l_goto rfl rfl ?_
                        have w633 : Xi T55 876 7 = Xi S 876 7 := (show Xi T55 876 7 = Xi T53 876 7 from w621.x _ _ rfl).trans ( (show Xi T53 876 7 = Xi T2 876 7 from w601.x _ _ rfl).trans ( (show Xi T2 876 7 = Xi T1 876 7 from w23.x _ _ rfl).trans ((show Xi T1 876 7 = Xi S 876 7 from w12.x _ _ rfl))))
                        have w634 : 0 ≤ Xi S 876 7 ∧ Xi S 876 7 ≤ 5130 := hH.c _ _
                        have w635 : 0 ≤ Xi T55 890 1 ∧ Xi T55 890 1 ≤ 5130 := hHT55.c _ _
                        refine l_callV rfl rfl rfl (t_gr_checkRuns hHT55 1 ⟨by omega, by omega⟩ (by first | assumption | omega) (by first | assumption | omega) _) ?_
                        rintro _ T57 ⟨hHT57, w640, z639, rfl, w639, w636, w637, w638⟩
                        have hFT57 : FR md_gr_checkBe S T57 := FR.tr hFT55 w640 rfl
                        show Rl _ _ _ _ _ [iv z639] _ _
                        refine l_ireturn rfl (retI_z (by omega)) ?_
                        have w641 : 0 ≤ Xi T57 890 2 ∧ Xi T57 890 2 ≤ 20 := hHT57.c _ _
                        exact ⟨hHT57, hFT57, _, rfl, ⟨by omega, by omega⟩, (by first | assumption | omega)⟩
                  · refine l_aload_n rfl rfl ?_
                    refine l_bipush rfl rfl ?_
                    refine l_pfi rfl rfl rfl rfl ?_
                    obtain ⟨U58, eU58⟩ : ∃ T : sS, T = uI T2 890 2 (Int32.ofInt 13) := ⟨_, rfl⟩
                    rw [← eU58]
                    have hHU58 : HI U58 := by rw [eU58]; exact HI_w hHT2 (show 0 ≤ 13 by omega) (show 13 ≤ 20 by omega)
                    have hFU58 : FR md_gr_checkBe S U58 := by rw [eU58]; exact FR.wI hFT2 (mdf_i (r := (890, 891, 2, 3)) (List.mem_of_getElem? (i := 1) rfl) (inR_i (by omega) (by omega) (by omega) (by omega)))
                    have w642 : Xi U58 890 2 = 13 := by rw [eU58]; exact Xi_same (by unfold rg; omega)
                    have hso321 : SAY U58 (Xi U58 890 1) := SAY_sort eU58 (by assumption) (by decide)
                    refine l_aload_n rfl rfl ?_
                    refine l_iconst rfl ?_
                    have w643 : Xi U58 876 7 = Xi S 876 7 := (show Xi U58 876 7 = Xi T2 876 7 from by rw [eU58]; exact Xi_ne (by omega)).trans ( (show Xi T2 876 7 = Xi T1 876 7 from w23.x _ _ rfl).trans ((show Xi T1 876 7 = Xi S 876 7 from w12.x _ _ rfl)))
                    have w644 : 0 ≤ Xi S 876 7 ∧ Xi S 876 7 ≤ 5130 := hH.c _ _
                    have w645 : Xi U58 890 1 = Xi T2 890 1 := (show Xi U58 890 1 = Xi T2 890 1 from by rw [eU58]; exact Xi_ne (by omega))
                    have w646 : 0 ≤ Xi T2 890 1 ∧ Xi T2 890 1 ≤ 5130 := hHT2.c _ _
                    refine l_callV rfl rfl rfl (t_gr_takePlace hHU58 0 ⟨by omega, by omega⟩ (by first | assumption | omega) (by first | assumption | omega) (by first | omega | exact ⟨by omega, by rw [x877 eU58, show (Xi U58 890 1).toNat = (Xi T2 890 1).toNat by omega]; omega⟩) _) ?_
                    rintro _ T59 ⟨hHT59, w650, z649, rfl, w649, w647, w648⟩
                    have hFT59 : FR md_gr_checkBe S T59 := FR.tr hFU58 w650 rfl
                    show Rl _ _ _ _ _ [iv z649] _ _
                    refine l_if_eq rfl rfl (by unfold rg; omega) (fun w651 => ?_) (fun w652 => ?_)
                    · refine l_iconst rfl ?_
                      refine l_ireturn rfl rfl ?_
                      have w653 : Xi T59 890 2 = Xi U58 890 2 := (show Xi T59 890 2 = Xi U58 890 2 from w650.x _ _ rfl)
                      have w654 : 0 ≤ Xi U58 890 2 ∧ Xi U58 890 2 ≤ 20 := hHU58.c _ _
                      exact ⟨hHT59, hFT59, _, rfl, ⟨by omega, by omega⟩, (by first | assumption | omega)⟩
                    · refine l_aload_n rfl rfl ?_
                      refine l_bipush rfl rfl ?_
                      have w655 : Xi T59 876 7 = Xi S 876 7 := (show Xi T59 876 7 = Xi U58 876 7 from w650.x _ _ rfl).trans ( (show Xi U58 876 7 = Xi T2 876 7 from by rw [eU58]; exact Xi_ne (by omega)).trans ( (show Xi T2 876 7 = Xi T1 876 7 from w23.x _ _ rfl).trans ((show Xi T1 876 7 = Xi S 876 7 from w12.x _ _ rfl))))
                      have w656 : 0 ≤ Xi S 876 7 ∧ Xi S 876 7 ≤ 5130 := hH.c _ _
                      have w657 : 0 ≤ Xi T59 890 1 ∧ Xi T59 890 1 ≤ 5130 := hHT59.c _ _
                      refine l_callV rfl rfl rfl (t_gr_take hHT59 103 ⟨by omega, by omega⟩ (by first | assumption | omega) (by first | assumption | omega) (by first | assumption | omega) _) ?_
                      rintro _ T60 ⟨hHT60, w663, z662, rfl, w662, w658, w659, w660, w661⟩
                      have hFT60 : FR md_gr_checkBe S T60 := FR.tr hFT59 w663 rfl
                      show Rl _ _ _ _ _ [iv z662] _ _
                      refine l_if_eq rfl rfl (by unfold rg; omega) (fun w664 => ?_) (fun w665 => ?_)
                      · refine l_iconst rfl ?_
                        refine l_ireturn rfl rfl ?_
                        have w666 : Xi T60 890 2 = Xi U58 890 2 := (show Xi T60 890 2 = Xi T59 890 2 from w663.x _ _ rfl).trans ((show Xi T59 890 2 = Xi U58 890 2 from w650.x _ _ rfl))
                        have w667 : 0 ≤ Xi U58 890 2 ∧ Xi U58 890 2 ≤ 20 := hHU58.c _ _
                        exact ⟨hHT60, hFT60, _, rfl, ⟨by omega, by omega⟩, (by first | assumption | omega)⟩
                      · refine l_iconst rfl ?_
                        refine l_goto rfl rfl ?_
                        refine l_ireturn rfl rfl ?_
                        have w668 : Xi T60 890 2 = Xi U58 890 2 := (show Xi T60 890 2 = Xi T59 890 2 from w663.x _ _ rfl).trans ((show Xi T59 890 2 = Xi U58 890 2 from w650.x _ _ rfl))
                        have w669 : 0 ≤ Xi U58 890 2 ∧ Xi U58 890 2 ≤ 20 := hHU58.c _ _
                        exact ⟨hHT60, hFT60, _, rfl, ⟨by omega, by omega⟩, (by first | assumption | omega)⟩
                · refine l_aload_n rfl rfl ?_
                  refine l_bipush rfl rfl ?_
                  refine l_pfi rfl rfl rfl rfl ?_
                  obtain ⟨U61, eU61⟩ : ∃ T : sS, T = uI T2 890 2 (Int32.ofInt 12) := ⟨_, rfl⟩
                  rw [← eU61]
                  have hHU61 : HI U61 := by rw [eU61]; exact HI_w hHT2 (show 0 ≤ 12 by omega) (show 12 ≤ 20 by omega)
                  have hFU61 : FR md_gr_checkBe S U61 := by rw [eU61]; exact FR.wI hFT2 (mdf_i (r := (890, 891, 2, 3)) (List.mem_of_getElem? (i := 1) rfl) (inR_i (by omega) (by omega) (by omega) (by omega)))
                  have w670 : Xi U61 890 2 = 12 := by rw [eU61]; exact Xi_same (by unfold rg; omega)
                  have hso261 : SAY U61 (Xi U61 890 1) := SAY_sort eU61 (by assumption) (by decide)
                  refine l_aload_n rfl rfl ?_
                  refine l_dup rfl rfl ?_
                  refine l_gfi rfl rfl rfl rfl rfl ?_
                  have w671 : (Xi U61 890 1) = (Xi T2 890 1) := (show Xi U61 890 1 = Xi T2 890 1 from by rw [eU61]; exact Xi_ne (by omega))
                  rw [w671]
                  refine l_iconst rfl ?_
                  refine l_iadd rfl ?_
                  refine l_pfi rfl rfl rfl rfl ?_
                  obtain ⟨U62, eU62⟩ : ∃ T : sS, T = uI U61 890 1 (Int32.ofInt ((Xi T2 890 1) + 1)) := ⟨_, rfl⟩
                  rw [← eU62]
                  have hHU62 : HI U62 := by rw [eU62]; exact HI_w hHU61 (show 0 ≤ ((Xi T2 890 1) + 1) by omega) (show ((Xi T2 890 1) + 1) ≤ 5130 by omega)
                  have hFU62 : FR md_gr_checkBe S U62 := by rw [eU62]; exact FR.wI hFU61 (mdf_i (r := (890, 891, 1, 2)) (List.mem_of_getElem? (i := 0) rfl) (inR_i (by omega) (by omega) (by omega) (by omega)))
                  have w672 : Xi U62 890 1 = ((Xi T2 890 1) + 1) := by rw [eU62]; exact Xi_same (by unfold rg; omega)
                  have hs271 : SAY U62 (Xi U62 890 1) := SAY_1x eU61 eU62 (by omega) (by assumption) (by omega) (by omega) (by omega)
                  refine l_aload_n rfl rfl ?_
                  have w673 : Xi U62 876 7 = Xi S 876 7 := (show Xi U62 876 7 = Xi U61 876 7 from by rw [eU62]; exact Xi_ne (by omega)).trans ( (show Xi U61 876 7 = Xi T2 876 7 from by rw [eU61]; exact Xi_ne (by omega)).trans ( (show Xi T2 876 7 = Xi T1 876 7 from w23.x _ _ rfl).trans ((show Xi T1 876 7 = Xi S 876 7 from w12.x _ _ rfl))))
                  have w674 : 0 ≤ Xi S 876 7 ∧ Xi S 876 7 ≤ 5130 := hH.c _ _
                  have w675 : 0 ≤ Xi U62 890 1 ∧ Xi U62 890 1 ≤ 5130 := hHU62.c _ _
                  refine l_callV rfl rfl rfl (t_gr_takeRun hHU62 (by first | assumption | omega) (by first | assumption | omega) _) ?_
                  rintro _ T63 ⟨hHT63, w680, z679, rfl, w679, w676, w677, w678⟩
                  have hFT63 : FR md_gr_checkBe S T63 := FR.tr hFU62 w680 rfl
                  show Rl _ _ _ _ _ [iv z679] _ _
                  refine l_if_eq rfl rfl (by unfold rg; omega) (fun w681 => ?_) (fun w682 => ?_)
                  · refine l_iconst rfl ?_
                    refine l_ireturn rfl rfl ?_
                    have w683 : Xi T63 890 2 = Xi U61 890 2 := (show Xi T63 890 2 = Xi U62 890 2 from w680.x _ _ rfl).trans ((show Xi U62 890 2 = Xi U61 890 2 from by rw [eU62]; exact Xi_ne (by omega)))
                    have w684 : 0 ≤ Xi U61 890 2 ∧ Xi U61 890 2 ≤ 20 := hHU61.c _ _
                    exact ⟨hHT63, hFT63, _, rfl, ⟨by omega, by omega⟩, (by first | assumption | omega)⟩
                  · refine l_aload_n rfl rfl ?_
                    have w685 : Xi T63 876 7 = Xi S 876 7 := (show Xi T63 876 7 = Xi U62 876 7 from w680.x _ _ rfl).trans ( (show Xi U62 876 7 = Xi U61 876 7 from by rw [eU62]; exact Xi_ne (by omega)).trans ( (show Xi U61 876 7 = Xi T2 876 7 from by rw [eU61]; exact Xi_ne (by omega)).trans ( (show Xi T2 876 7 = Xi T1 876 7 from w23.x _ _ rfl).trans ((show Xi T1 876 7 = Xi S 876 7 from w12.x _ _ rfl)))))
                    have w686 : 0 ≤ Xi S 876 7 ∧ Xi S 876 7 ≤ 5130 := hH.c _ _
                    have w687 : 0 ≤ Xi T63 890 1 ∧ Xi T63 890 1 ≤ 5130 := hHT63.c _ _
                    refine l_callV rfl rfl rfl (t_gr_atPlace hHT63 _) ?_
                    rintro _ _ ⟨rfl, z689, rfl, w689, w688⟩
                    show Rl _ _ _ _ _ [iv z689] _ _
                    refine l_if_eq rfl rfl (by unfold rg; omega) (fun w690 => ?_) (fun w691 => ?_)
                    · refine l_aload_n rfl rfl ?_
                      refine l_bipush rfl rfl ?_
                      have w692 : Xi T63 876 7 = Xi S 876 7 := (show Xi T63 876 7 = Xi U62 876 7 from w680.x _ _ rfl).trans ( (show Xi U62 876 7 = Xi U61 876 7 from by rw [eU62]; exact Xi_ne (by omega)).trans ( (show Xi U61 876 7 = Xi T2 876 7 from by rw [eU61]; exact Xi_ne (by omega)).trans ( (show Xi T2 876 7 = Xi T1 876 7 from w23.x _ _ rfl).trans ((show Xi T1 876 7 = Xi S 876 7 from w12.x _ _ rfl)))))
                      have w693 : 0 ≤ Xi S 876 7 ∧ Xi S 876 7 ≤ 5130 := hH.c _ _
                      have w694 : 0 ≤ Xi T63 890 1 ∧ Xi T63 890 1 ≤ 5130 := hHT63.c _ _
                      refine l_callV rfl rfl rfl (t_gr_take hHT63 103 ⟨by omega, by omega⟩ (by first | assumption | omega) (by first | assumption | omega) (by first | assumption | omega) _) ?_
                      rintro _ T64 ⟨hHT64, w700, z699, rfl, w699, w695, w696, w697, w698⟩
                      have hFT64 : FR md_gr_checkBe S T64 := FR.tr hFT63 w700 rfl
                      show Rl _ _ _ _ _ [iv z699] _ _
                      refine l_if_eq rfl rfl (by unfold rg; omega) (fun w701 => ?_) (fun w702 => ?_)
                      · refine l_iconst rfl ?_
                        refine l_ireturn rfl rfl ?_
                        have w703 : Xi T64 890 2 = Xi U61 890 2 := (show Xi T64 890 2 = Xi T63 890 2 from w700.x _ _ rfl).trans ( (show Xi T63 890 2 = Xi U62 890 2 from w680.x _ _ rfl).trans ((show Xi U62 890 2 = Xi U61 890 2 from by rw [eU62]; exact Xi_ne (by omega))))
                        have w704 : 0 ≤ Xi U61 890 2 ∧ Xi U61 890 2 ≤ 20 := hHU61.c _ _
                        exact ⟨hHT64, hFT64, _, rfl, ⟨by omega, by omega⟩, (by first | assumption | omega)⟩
                      · refine l_iconst rfl ?_
                        refine l_goto rfl rfl ?_
                        refine l_ireturn rfl rfl ?_
                        have w705 : Xi T64 890 2 = Xi U61 890 2 := (show Xi T64 890 2 = Xi T63 890 2 from w700.x _ _ rfl).trans ( (show Xi T63 890 2 = Xi U62 890 2 from w680.x _ _ rfl).trans ((show Xi U62 890 2 = Xi U61 890 2 from by rw [eU62]; exact Xi_ne (by omega))))
                        have w706 : 0 ≤ Xi U61 890 2 ∧ Xi U61 890 2 ≤ 20 := hHU61.c _ _
                        exact ⟨hHT64, hFT64, _, rfl, ⟨by omega, by omega⟩, (by first | assumption | omega)⟩
                    · refine l_aload_n rfl rfl ?_
                      refine l_iconst rfl ?_
                      have w707 : Xi T63 876 7 = Xi S 876 7 := (show Xi T63 876 7 = Xi U62 876 7 from w680.x _ _ rfl).trans ( (show Xi U62 876 7 = Xi U61 876 7 from by rw [eU62]; exact Xi_ne (by omega)).trans ( (show Xi U61 876 7 = Xi T2 876 7 from by rw [eU61]; exact Xi_ne (by omega)).trans ( (show Xi T2 876 7 = Xi T1 876 7 from w23.x _ _ rfl).trans ((show Xi T1 876 7 = Xi S 876 7 from w12.x _ _ rfl)))))
                      have w708 : 0 ≤ Xi S 876 7 ∧ Xi S 876 7 ≤ 5130 := hH.c _ _
                      have w709 : 0 ≤ Xi T63 890 1 ∧ Xi T63 890 1 ≤ 5130 := hHT63.c _ _
                      refine l_callV rfl rfl rfl (t_gr_takePlace hHT63 0 ⟨by omega, by omega⟩ (by first | assumption | omega) (by first | assumption | omega) (by first | omega | exact ⟨by omega, by rw [x877 , show (Xi T63 890 1).toNat = (Xi U62 890 1).toNat by omega]; omega⟩) _) ?_
                      rintro _ T65 ⟨hHT65, w713, z712, rfl, w712, w710, w711⟩
                      have hFT65 : FR md_gr_checkBe S T65 := FR.tr hFT63 w713 rfl
                      show Rl _ _ _ _ _ [iv z712] _ _
                      refine l_if_eq rfl rfl (by unfold rg; omega) (fun w714 => ?_) (fun w715 => ?_)
                      · refine l_iconst rfl ?_
                        refine l_ireturn rfl rfl ?_
                        have w716 : Xi T65 890 2 = Xi U61 890 2 := (show Xi T65 890 2 = Xi T63 890 2 from w713.x _ _ rfl).trans ( (show Xi T63 890 2 = Xi U62 890 2 from w680.x _ _ rfl).trans ((show Xi U62 890 2 = Xi U61 890 2 from by rw [eU62]; exact Xi_ne (by omega))))
                        have w717 : 0 ≤ Xi U61 890 2 ∧ Xi U61 890 2 ≤ 20 := hHU61.c _ _
                        exact ⟨hHT65, hFT65, _, rfl, ⟨by omega, by omega⟩, (by first | assumption | omega)⟩
                      · refine l_aload_n rfl rfl ?_
                        refine l_bipush rfl rfl ?_
                        have w718 : Xi T65 876 7 = Xi S 876 7 := (show Xi T65 876 7 = Xi T63 876 7 from w713.x _ _ rfl).trans ( (show Xi T63 876 7 = Xi U62 876 7 from w680.x _ _ rfl).trans ( (show Xi U62 876 7 = Xi U61 876 7 from by rw [eU62]; exact Xi_ne (by omega)).trans ( (show Xi U61 876 7 = Xi T2 876 7 from by rw [eU61]; exact Xi_ne (by omega)).trans ( (show Xi T2 876 7 = Xi T1 876 7 from w23.x _ _ rfl).trans ((show Xi T1 876 7 = Xi S 876 7 from w12.x _ _ rfl))))))
                        have w719 : 0 ≤ Xi S 876 7 ∧ Xi S 876 7 ≤ 5130 := hH.c _ _
                        have w720 : 0 ≤ Xi T65 890 1 ∧ Xi T65 890 1 ≤ 5130 := hHT65.c _ _
                        refine l_callV rfl rfl rfl (t_gr_take hHT65 103 ⟨by omega, by omega⟩ (by first | assumption | omega) (by first | assumption | omega) (by first | assumption | omega) _) ?_
                        rintro _ T66 ⟨hHT66, w726, z725, rfl, w725, w721, w722, w723, w724⟩
                        have hFT66 : FR md_gr_checkBe S T66 := FR.tr hFT65 w726 rfl
                        show Rl _ _ _ _ _ [iv z725] _ _
                        refine l_if_eq rfl rfl (by unfold rg; omega) (fun w727 => ?_) (fun w728 => ?_)
                        · refine l_iconst rfl ?_
                          refine l_ireturn rfl rfl ?_
                          have w729 : Xi T66 890 2 = Xi U61 890 2 := (show Xi T66 890 2 = Xi T65 890 2 from w726.x _ _ rfl).trans ( (show Xi T65 890 2 = Xi T63 890 2 from w713.x _ _ rfl).trans ( (show Xi T63 890 2 = Xi U62 890 2 from w680.x _ _ rfl).trans ((show Xi U62 890 2 = Xi U61 890 2 from by rw [eU62]; exact Xi_ne (by omega)))))
                          have w730 : 0 ≤ Xi U61 890 2 ∧ Xi U61 890 2 ≤ 20 := hHU61.c _ _
                          exact ⟨hHT66, hFT66, _, rfl, ⟨by omega, by omega⟩, (by first | assumption | omega)⟩
                        · refine l_iconst rfl ?_
                          refine l_goto rfl rfl ?_
                          refine l_ireturn rfl rfl ?_
                          have w731 : Xi T66 890 2 = Xi U61 890 2 := (show Xi T66 890 2 = Xi T65 890 2 from w726.x _ _ rfl).trans ( (show Xi T65 890 2 = Xi T63 890 2 from w713.x _ _ rfl).trans ( (show Xi T63 890 2 = Xi U62 890 2 from w680.x _ _ rfl).trans ((show Xi U62 890 2 = Xi U61 890 2 from by rw [eU62]; exact Xi_ne (by omega)))))
                          have w732 : 0 ≤ Xi U61 890 2 ∧ Xi U61 890 2 ≤ 20 := hHU61.c _ _
                          exact ⟨hHT66, hFT66, _, rfl, ⟨by omega, by omega⟩, (by first | assumption | omega)⟩
              · refine l_aload_n rfl rfl ?_
                refine l_bipush rfl rfl ?_
                refine l_pfi rfl rfl rfl rfl ?_
                obtain ⟨U67, eU67⟩ : ∃ T : sS, T = uI T2 890 2 (Int32.ofInt 11) := ⟨_, rfl⟩
                rw [← eU67]
                have hHU67 : HI U67 := by rw [eU67]; exact HI_w hHT2 (show 0 ≤ 11 by omega) (show 11 ≤ 20 by omega)
                have hFU67 : FR md_gr_checkBe S U67 := by rw [eU67]; exact FR.wI hFT2 (mdf_i (r := (890, 891, 2, 3)) (List.mem_of_getElem? (i := 1) rfl) (inR_i (by omega) (by omega) (by omega) (by omega)))
                have w733 : Xi U67 890 2 = 11 := by rw [eU67]; exact Xi_same (by unfold rg; omega)
                have hso189 : SAY U67 (Xi U67 890 1) := SAY_sort eU67 (by assumption) (by decide)
                refine l_aload_n rfl rfl ?_
                refine l_dup rfl rfl ?_
                refine l_gfi rfl rfl rfl rfl rfl ?_
                have w734 : (Xi U67 890 1) = (Xi T2 890 1) := (show Xi U67 890 1 = Xi T2 890 1 from by rw [eU67]; exact Xi_ne (by omega))
                rw [w734]
                refine l_iconst rfl ?_
                refine l_iadd rfl ?_
                refine l_pfi rfl rfl rfl rfl ?_
                obtain ⟨U68, eU68⟩ : ∃ T : sS, T = uI U67 890 1 (Int32.ofInt ((Xi T2 890 1) + 2)) := ⟨_, rfl⟩
                rw [← eU68]
                have hHU68 : HI U68 := by rw [eU68]; exact HI_w hHU67 (show 0 ≤ ((Xi T2 890 1) + 2) by omega) (show ((Xi T2 890 1) + 2) ≤ 5130 by omega)
                have hFU68 : FR md_gr_checkBe S U68 := by rw [eU68]; exact FR.wI hFU67 (mdf_i (r := (890, 891, 1, 2)) (List.mem_of_getElem? (i := 0) rfl) (inR_i (by omega) (by omega) (by omega) (by omega)))
                have w735 : Xi U68 890 1 = ((Xi T2 890 1) + 2) := by rw [eU68]; exact Xi_same (by unfold rg; omega)
                have hs199 : SAY U68 (Xi U68 890 1) := SAY_2x eU67 eU68 (by omega) (by assumption) (by omega) (by omega) (by omega) (by omega)
                refine l_aload_n rfl rfl ?_
                refine l_bipush rfl rfl ?_
                have w736 : Xi U68 876 7 = Xi S 876 7 := (show Xi U68 876 7 = Xi U67 876 7 from by rw [eU68]; exact Xi_ne (by omega)).trans ( (show Xi U67 876 7 = Xi T2 876 7 from by rw [eU67]; exact Xi_ne (by omega)).trans ( (show Xi T2 876 7 = Xi T1 876 7 from w23.x _ _ rfl).trans ((show Xi T1 876 7 = Xi S 876 7 from w12.x _ _ rfl))))
                have w737 : 0 ≤ Xi S 876 7 ∧ Xi S 876 7 ≤ 5130 := hH.c _ _
                have w738 : 0 ≤ Xi U68 890 1 ∧ Xi U68 890 1 ≤ 5130 := hHU68.c _ _
                refine l_callV rfl rfl rfl (t_gr_take hHU68 28 ⟨by omega, by omega⟩ (by first | assumption | omega) (by first | assumption | omega) (by first | assumption | omega) _) ?_
                rintro _ T69 ⟨hHT69, w744, z743, rfl, w743, w739, w740, w741, w742⟩
                have hFT69 : FR md_gr_checkBe S T69 := FR.tr hFU68 w744 rfl
                show Rl _ _ _ _ _ [iv z743] _ _
                refine l_if_eq rfl rfl (by unfold rg; omega) (fun w745 => ?_) (fun w746 => ?_)
                · refine l_aload_n rfl rfl ?_
                  refine l_bipush rfl rfl ?_
                  have w747 : Xi T69 876 7 = Xi S 876 7 := (show Xi T69 876 7 = Xi U68 876 7 from w744.x _ _ rfl).trans ( (show Xi U68 876 7 = Xi U67 876 7 from by rw [eU68]; exact Xi_ne (by omega)).trans ( (show Xi U67 876 7 = Xi T2 876 7 from by rw [eU67]; exact Xi_ne (by omega)).trans ( (show Xi T2 876 7 = Xi T1 876 7 from w23.x _ _ rfl).trans ((show Xi T1 876 7 = Xi S 876 7 from w12.x _ _ rfl)))))
                  have w748 : 0 ≤ Xi S 876 7 ∧ Xi S 876 7 ≤ 5130 := hH.c _ _
                  have w749 : 0 ≤ Xi T69 890 1 ∧ Xi T69 890 1 ≤ 5130 := hHT69.c _ _
                  refine l_callV rfl rfl rfl (t_gr_take hHT69 103 ⟨by omega, by omega⟩ (by first | assumption | omega) (by first | assumption | omega) (by first | assumption | omega) _) ?_
                  rintro _ T70 ⟨hHT70, w755, z754, rfl, w754, w750, w751, w752, w753⟩
                  have hFT70 : FR md_gr_checkBe S T70 := FR.tr hFT69 w755 rfl
                  show Rl _ _ _ _ _ [iv z754] _ _
                  refine l_if_eq rfl rfl (by unfold rg; omega) (fun w756 => ?_) (fun w757 => ?_)
                  · refine l_iconst rfl ?_
                    refine l_ireturn rfl rfl ?_
                    have w758 : Xi T70 890 2 = Xi U67 890 2 := (show Xi T70 890 2 = Xi T69 890 2 from w755.x _ _ rfl).trans ( (show Xi T69 890 2 = Xi U68 890 2 from w744.x _ _ rfl).trans ((show Xi U68 890 2 = Xi U67 890 2 from by rw [eU68]; exact Xi_ne (by omega))))
                    have w759 : 0 ≤ Xi U67 890 2 ∧ Xi U67 890 2 ≤ 20 := hHU67.c _ _
                    exact ⟨hHT70, hFT70, _, rfl, ⟨by omega, by omega⟩, (by first | assumption | omega)⟩
                  · refine l_iconst rfl ?_
                    refine l_goto rfl rfl ?_
                    refine l_ireturn rfl rfl ?_
                    have w760 : Xi T70 890 2 = Xi U67 890 2 := (show Xi T70 890 2 = Xi T69 890 2 from w755.x _ _ rfl).trans ( (show Xi T69 890 2 = Xi U68 890 2 from w744.x _ _ rfl).trans ((show Xi U68 890 2 = Xi U67 890 2 from by rw [eU68]; exact Xi_ne (by omega))))
                    have w761 : 0 ≤ Xi U67 890 2 ∧ Xi U67 890 2 ≤ 20 := hHU67.c _ _
                    exact ⟨hHT70, hFT70, _, rfl, ⟨by omega, by omega⟩, (by first | assumption | omega)⟩
                · refine l_aload_n rfl rfl ?_
                  refine l_bipush rfl rfl ?_
                  have w762 : Xi T69 876 7 = Xi S 876 7 := (show Xi T69 876 7 = Xi U68 876 7 from w744.x _ _ rfl).trans ( (show Xi U68 876 7 = Xi U67 876 7 from by rw [eU68]; exact Xi_ne (by omega)).trans ( (show Xi U67 876 7 = Xi T2 876 7 from by rw [eU67]; exact Xi_ne (by omega)).trans ( (show Xi T2 876 7 = Xi T1 876 7 from w23.x _ _ rfl).trans ((show Xi T1 876 7 = Xi S 876 7 from w12.x _ _ rfl)))))
                  have w763 : 0 ≤ Xi S 876 7 ∧ Xi S 876 7 ≤ 5130 := hH.c _ _
                  have w764 : 0 ≤ Xi T69 890 1 ∧ Xi T69 890 1 ≤ 5130 := hHT69.c _ _
                  refine l_callV rfl rfl rfl (t_gr_take hHT69 11 ⟨by omega, by omega⟩ (by first | assumption | omega) (by first | assumption | omega) (by first | assumption | omega) _) ?_
                  rintro _ T71 ⟨hHT71, w770, z769, rfl, w769, w765, w766, w767, w768⟩
                  have hFT71 : FR md_gr_checkBe S T71 := FR.tr hFT69 w770 rfl
                  show Rl _ _ _ _ _ [iv z769] _ _
                  refine l_if_eq rfl rfl (by unfold rg; omega) (fun w771 => ?_) (fun w772 => ?_)
                  · refine l_iconst rfl ?_
                    refine l_ireturn rfl rfl ?_
                    have w773 : Xi T71 890 2 = Xi U67 890 2 := (show Xi T71 890 2 = Xi T69 890 2 from w770.x _ _ rfl).trans ( (show Xi T69 890 2 = Xi U68 890 2 from w744.x _ _ rfl).trans ((show Xi U68 890 2 = Xi U67 890 2 from by rw [eU68]; exact Xi_ne (by omega))))
                    have w774 : 0 ≤ Xi U67 890 2 ∧ Xi U67 890 2 ≤ 20 := hHU67.c _ _
                    exact ⟨hHT71, hFT71, _, rfl, ⟨by omega, by omega⟩, (by first | assumption | omega)⟩
                  · refine l_aload_n rfl rfl ?_
                    refine l_bipush rfl rfl ?_
                    have w775 : Xi T71 876 7 = Xi S 876 7 := (show Xi T71 876 7 = Xi T69 876 7 from w770.x _ _ rfl).trans ( (show Xi T69 876 7 = Xi U68 876 7 from w744.x _ _ rfl).trans ( (show Xi U68 876 7 = Xi U67 876 7 from by rw [eU68]; exact Xi_ne (by omega)).trans ( (show Xi U67 876 7 = Xi T2 876 7 from by rw [eU67]; exact Xi_ne (by omega)).trans ( (show Xi T2 876 7 = Xi T1 876 7 from w23.x _ _ rfl).trans ((show Xi T1 876 7 = Xi S 876 7 from w12.x _ _ rfl))))))
                    have w776 : 0 ≤ Xi S 876 7 ∧ Xi S 876 7 ≤ 5130 := hH.c _ _
                    have w777 : 0 ≤ Xi T71 890 1 ∧ Xi T71 890 1 ≤ 5130 := hHT71.c _ _
                    refine l_callV rfl rfl rfl (t_gr_take hHT71 22 ⟨by omega, by omega⟩ (by first | assumption | omega) (by first | assumption | omega) (by first | assumption | omega) _) ?_
                    rintro _ T72 ⟨hHT72, w783, z782, rfl, w782, w778, w779, w780, w781⟩
                    have hFT72 : FR md_gr_checkBe S T72 := FR.tr hFT71 w783 rfl
                    show Rl _ _ _ _ _ [iv z782] _ _
                    refine l_if_eq rfl rfl (by unfold rg; omega) (fun w784 => ?_) (fun w785 => ?_)
                    · refine l_iconst rfl ?_
                      refine l_ireturn rfl rfl ?_
                      have w786 : Xi T72 890 2 = Xi U67 890 2 := (show Xi T72 890 2 = Xi T71 890 2 from w783.x _ _ rfl).trans ( (show Xi T71 890 2 = Xi T69 890 2 from w770.x _ _ rfl).trans ( (show Xi T69 890 2 = Xi U68 890 2 from w744.x _ _ rfl).trans ((show Xi U68 890 2 = Xi U67 890 2 from by rw [eU68]; exact Xi_ne (by omega)))))
                      have w787 : 0 ≤ Xi U67 890 2 ∧ Xi U67 890 2 ≤ 20 := hHU67.c _ _
                      exact ⟨hHT72, hFT72, _, rfl, ⟨by omega, by omega⟩, (by first | assumption | omega)⟩
                    · refine l_aload_n rfl rfl ?_
                      have w788 : Xi T72 876 7 = Xi S 876 7 := (show Xi T72 876 7 = Xi T71 876 7 from w783.x _ _ rfl).trans ( (show Xi T71 876 7 = Xi T69 876 7 from w770.x _ _ rfl).trans ( (show Xi T69 876 7 = Xi U68 876 7 from w744.x _ _ rfl).trans ( (show Xi U68 876 7 = Xi U67 876 7 from by rw [eU68]; exact Xi_ne (by omega)).trans ( (show Xi U67 876 7 = Xi T2 876 7 from by rw [eU67]; exact Xi_ne (by omega)).trans ( (show Xi T2 876 7 = Xi T1 876 7 from w23.x _ _ rfl).trans ((show Xi T1 876 7 = Xi S 876 7 from w12.x _ _ rfl)))))))
                      have w789 : 0 ≤ Xi S 876 7 ∧ Xi S 876 7 ≤ 5130 := hH.c _ _
                      have w790 : 0 ≤ Xi T72 890 1 ∧ Xi T72 890 1 ≤ 5130 := hHT72.c _ _
                      refine l_callV rfl rfl rfl (t_gr_takeRun hHT72 (by first | assumption | omega) (by first | assumption | omega) _) ?_
                      rintro _ T73 ⟨hHT73, w795, z794, rfl, w794, w791, w792, w793⟩
                      have hFT73 : FR md_gr_checkBe S T73 := FR.tr hFT72 w795 rfl
                      show Rl _ _ _ _ _ [iv z794] _ _
                      refine l_if_eq rfl rfl (by unfold rg; omega) (fun w796 => ?_) (fun w797 => ?_)
                      · refine l_iconst rfl ?_
                        refine l_ireturn rfl rfl ?_
                        have w798 : Xi T73 890 2 = Xi U67 890 2 := (show Xi T73 890 2 = Xi T72 890 2 from w795.x _ _ rfl).trans ( (show Xi T72 890 2 = Xi T71 890 2 from w783.x _ _ rfl).trans ( (show Xi T71 890 2 = Xi T69 890 2 from w770.x _ _ rfl).trans ( (show Xi T69 890 2 = Xi U68 890 2 from w744.x _ _ rfl).trans ((show Xi U68 890 2 = Xi U67 890 2 from by rw [eU68]; exact Xi_ne (by omega))))))
                        have w799 : 0 ≤ Xi U67 890 2 ∧ Xi U67 890 2 ≤ 20 := hHU67.c _ _
                        exact ⟨hHT73, hFT73, _, rfl, ⟨by omega, by omega⟩, (by first | assumption | omega)⟩
                      · refine l_aload_n rfl rfl ?_
                        refine l_bipush rfl rfl ?_
                        have w800 : Xi T73 876 7 = Xi S 876 7 := (show Xi T73 876 7 = Xi T72 876 7 from w795.x _ _ rfl).trans ( (show Xi T72 876 7 = Xi T71 876 7 from w783.x _ _ rfl).trans ( (show Xi T71 876 7 = Xi T69 876 7 from w770.x _ _ rfl).trans ( (show Xi T69 876 7 = Xi U68 876 7 from w744.x _ _ rfl).trans ( (show Xi U68 876 7 = Xi U67 876 7 from by rw [eU68]; exact Xi_ne (by omega)).trans ( (show Xi U67 876 7 = Xi T2 876 7 from by rw [eU67]; exact Xi_ne (by omega)).trans ( (show Xi T2 876 7 = Xi T1 876 7 from w23.x _ _ rfl).trans ((show Xi T1 876 7 = Xi S 876 7 from w12.x _ _ rfl))))))))
                        have w801 : 0 ≤ Xi S 876 7 ∧ Xi S 876 7 ≤ 5130 := hH.c _ _
                        have w802 : 0 ≤ Xi T73 890 1 ∧ Xi T73 890 1 ≤ 5130 := hHT73.c _ _
                        refine l_callV rfl rfl rfl (t_gr_take hHT73 103 ⟨by omega, by omega⟩ (by first | assumption | omega) (by first | assumption | omega) (by first | assumption | omega) _) ?_
                        rintro _ T74 ⟨hHT74, w808, z807, rfl, w807, w803, w804, w805, w806⟩
                        have hFT74 : FR md_gr_checkBe S T74 := FR.tr hFT73 w808 rfl
                        show Rl _ _ _ _ _ [iv z807] _ _
                        refine l_if_eq rfl rfl (by unfold rg; omega) (fun w809 => ?_) (fun w810 => ?_)
                        · refine l_iconst rfl ?_
                          refine l_ireturn rfl rfl ?_
                          have w811 : Xi T74 890 2 = Xi U67 890 2 := (show Xi T74 890 2 = Xi T73 890 2 from w808.x _ _ rfl).trans ( (show Xi T73 890 2 = Xi T72 890 2 from w795.x _ _ rfl).trans ( (show Xi T72 890 2 = Xi T71 890 2 from w783.x _ _ rfl).trans ( (show Xi T71 890 2 = Xi T69 890 2 from w770.x _ _ rfl).trans ( (show Xi T69 890 2 = Xi U68 890 2 from w744.x _ _ rfl).trans ((show Xi U68 890 2 = Xi U67 890 2 from by rw [eU68]; exact Xi_ne (by omega)))))))
                          have w812 : 0 ≤ Xi U67 890 2 ∧ Xi U67 890 2 ≤ 20 := hHU67.c _ _
                          exact ⟨hHT74, hFT74, _, rfl, ⟨by omega, by omega⟩, (by first | assumption | omega)⟩
                        · refine l_iconst rfl ?_
                          refine l_goto rfl rfl ?_
                          refine l_ireturn rfl rfl ?_
                          have w813 : Xi T74 890 2 = Xi U67 890 2 := (show Xi T74 890 2 = Xi T73 890 2 from w808.x _ _ rfl).trans ( (show Xi T73 890 2 = Xi T72 890 2 from w795.x _ _ rfl).trans ( (show Xi T72 890 2 = Xi T71 890 2 from w783.x _ _ rfl).trans ( (show Xi T71 890 2 = Xi T69 890 2 from w770.x _ _ rfl).trans ( (show Xi T69 890 2 = Xi U68 890 2 from w744.x _ _ rfl).trans ((show Xi U68 890 2 = Xi U67 890 2 from by rw [eU68]; exact Xi_ne (by omega)))))))
                          have w814 : 0 ≤ Xi U67 890 2 ∧ Xi U67 890 2 ≤ 20 := hHU67.c _ _
                          exact ⟨hHT74, hFT74, _, rfl, ⟨by omega, by omega⟩, (by first | assumption | omega)⟩
          · refine l_aload_n rfl rfl ?_
            refine l_bipush rfl rfl ?_
            refine l_pfi rfl rfl rfl rfl ?_
            obtain ⟨U75, eU75⟩ : ∃ T : sS, T = uI T2 890 2 (Int32.ofInt 10) := ⟨_, rfl⟩
            rw [← eU75]
            have hHU75 : HI U75 := by rw [eU75]; exact HI_w hHT2 (show 0 ≤ 10 by omega) (show 10 ≤ 20 by omega)
            have hFU75 : FR md_gr_checkBe S U75 := by rw [eU75]; exact FR.wI hFT2 (mdf_i (r := (890, 891, 2, 3)) (List.mem_of_getElem? (i := 1) rfl) (inR_i (by omega) (by omega) (by omega) (by omega)))
            have w815 : Xi U75 890 2 = 10 := by rw [eU75]; exact Xi_same (by unfold rg; omega)
            have hso122 : SAY U75 (Xi U75 890 1) := SAY_sort eU75 (by assumption) (by decide)
            refine l_aload_n rfl rfl ?_
            refine l_dup rfl rfl ?_
            refine l_gfi rfl rfl rfl rfl rfl ?_
            have w816 : (Xi U75 890 1) = (Xi T2 890 1) := (show Xi U75 890 1 = Xi T2 890 1 from by rw [eU75]; exact Xi_ne (by omega))
            rw [w816]
            refine l_iconst rfl ?_
            refine l_iadd rfl ?_
            refine l_pfi rfl rfl rfl rfl ?_
            obtain ⟨U76, eU76⟩ : ∃ T : sS, T = uI U75 890 1 (Int32.ofInt ((Xi T2 890 1) + 2)) := ⟨_, rfl⟩
            rw [← eU76]
            have hHU76 : HI U76 := by rw [eU76]; exact HI_w hHU75 (show 0 ≤ ((Xi T2 890 1) + 2) by omega) (show ((Xi T2 890 1) + 2) ≤ 5130 by omega)
            have hFU76 : FR md_gr_checkBe S U76 := by rw [eU76]; exact FR.wI hFU75 (mdf_i (r := (890, 891, 1, 2)) (List.mem_of_getElem? (i := 0) rfl) (inR_i (by omega) (by omega) (by omega) (by omega)))
            have w817 : Xi U76 890 1 = ((Xi T2 890 1) + 2) := by rw [eU76]; exact Xi_same (by unfold rg; omega)
            have hs132 : SAY U76 (Xi U76 890 1) := SAY_2x eU75 eU76 (by omega) (by assumption) (by omega) (by omega) (by omega) (by omega)
            refine l_aload_n rfl rfl ?_
            refine l_bipush rfl rfl ?_
            have w818 : Xi U76 876 7 = Xi S 876 7 := (show Xi U76 876 7 = Xi U75 876 7 from by rw [eU76]; exact Xi_ne (by omega)).trans ( (show Xi U75 876 7 = Xi T2 876 7 from by rw [eU75]; exact Xi_ne (by omega)).trans ( (show Xi T2 876 7 = Xi T1 876 7 from w23.x _ _ rfl).trans ((show Xi T1 876 7 = Xi S 876 7 from w12.x _ _ rfl))))
            have w819 : 0 ≤ Xi S 876 7 ∧ Xi S 876 7 ≤ 5130 := hH.c _ _
            have w820 : 0 ≤ Xi U76 890 1 ∧ Xi U76 890 1 ≤ 5130 := hHU76.c _ _
            refine l_callV rfl rfl rfl (t_gr_take hHU76 7 ⟨by omega, by omega⟩ (by first | assumption | omega) (by first | assumption | omega) (by first | assumption | omega) _) ?_
            rintro _ T77 ⟨hHT77, w826, z825, rfl, w825, w821, w822, w823, w824⟩
            have hFT77 : FR md_gr_checkBe S T77 := FR.tr hFU76 w826 rfl
            show Rl _ _ _ _ _ [iv z825] _ _
            refine l_if_eq rfl rfl (by unfold rg; omega) (fun w827 => ?_) (fun w828 => ?_)
            · refine l_aload_n rfl rfl ?_
              refine l_bipush rfl rfl ?_
              have w829 : Xi T77 876 7 = Xi S 876 7 := (show Xi T77 876 7 = Xi U76 876 7 from w826.x _ _ rfl).trans ( (show Xi U76 876 7 = Xi U75 876 7 from by rw [eU76]; exact Xi_ne (by omega)).trans ( (show Xi U75 876 7 = Xi T2 876 7 from by rw [eU75]; exact Xi_ne (by omega)).trans ( (show Xi T2 876 7 = Xi T1 876 7 from w23.x _ _ rfl).trans ((show Xi T1 876 7 = Xi S 876 7 from w12.x _ _ rfl)))))
              have w830 : 0 ≤ Xi S 876 7 ∧ Xi S 876 7 ≤ 5130 := hH.c _ _
              have w831 : 0 ≤ Xi T77 890 1 ∧ Xi T77 890 1 ≤ 5130 := hHT77.c _ _
              refine l_callV rfl rfl rfl (t_gr_take hHT77 103 ⟨by omega, by omega⟩ (by first | assumption | omega) (by first | assumption | omega) (by first | assumption | omega) _) ?_
              rintro _ T78 ⟨hHT78, w837, z836, rfl, w836, w832, w833, w834, w835⟩
              have hFT78 : FR md_gr_checkBe S T78 := FR.tr hFT77 w837 rfl
              show Rl _ _ _ _ _ [iv z836] _ _
              refine l_if_eq rfl rfl (by unfold rg; omega) (fun w838 => ?_) (fun w839 => ?_)
              · refine l_iconst rfl ?_
                refine l_ireturn rfl rfl ?_
                have w840 : Xi T78 890 2 = Xi U75 890 2 := (show Xi T78 890 2 = Xi T77 890 2 from w837.x _ _ rfl).trans ( (show Xi T77 890 2 = Xi U76 890 2 from w826.x _ _ rfl).trans ((show Xi U76 890 2 = Xi U75 890 2 from by rw [eU76]; exact Xi_ne (by omega))))
                have w841 : 0 ≤ Xi U75 890 2 ∧ Xi U75 890 2 ≤ 20 := hHU75.c _ _
                exact ⟨hHT78, hFT78, _, rfl, ⟨by omega, by omega⟩, (by first | assumption | omega)⟩
              · refine l_iconst rfl ?_
                refine l_goto rfl rfl ?_
                refine l_ireturn rfl rfl ?_
                have w842 : Xi T78 890 2 = Xi U75 890 2 := (show Xi T78 890 2 = Xi T77 890 2 from w837.x _ _ rfl).trans ( (show Xi T77 890 2 = Xi U76 890 2 from w826.x _ _ rfl).trans ((show Xi U76 890 2 = Xi U75 890 2 from by rw [eU76]; exact Xi_ne (by omega))))
                have w843 : 0 ≤ Xi U75 890 2 ∧ Xi U75 890 2 ≤ 20 := hHU75.c _ _
                exact ⟨hHT78, hFT78, _, rfl, ⟨by omega, by omega⟩, (by first | assumption | omega)⟩
            · refine l_aload_n rfl rfl ?_
              refine l_bipush rfl rfl ?_
              have w844 : Xi T77 876 7 = Xi S 876 7 := (show Xi T77 876 7 = Xi U76 876 7 from w826.x _ _ rfl).trans ( (show Xi U76 876 7 = Xi U75 876 7 from by rw [eU76]; exact Xi_ne (by omega)).trans ( (show Xi U75 876 7 = Xi T2 876 7 from by rw [eU75]; exact Xi_ne (by omega)).trans ( (show Xi T2 876 7 = Xi T1 876 7 from w23.x _ _ rfl).trans ((show Xi T1 876 7 = Xi S 876 7 from w12.x _ _ rfl)))))
              have w845 : 0 ≤ Xi S 876 7 ∧ Xi S 876 7 ≤ 5130 := hH.c _ _
              have w846 : 0 ≤ Xi T77 890 1 ∧ Xi T77 890 1 ≤ 5130 := hHT77.c _ _
              refine l_callV rfl rfl rfl (t_gr_take hHT77 20 ⟨by omega, by omega⟩ (by first | assumption | omega) (by first | assumption | omega) (by first | assumption | omega) _) ?_
              rintro _ T79 ⟨hHT79, w852, z851, rfl, w851, w847, w848, w849, w850⟩
              have hFT79 : FR md_gr_checkBe S T79 := FR.tr hFT77 w852 rfl
              show Rl _ _ _ _ _ [iv z851] _ _
              refine l_if_ne rfl rfl (by unfold rg; omega) (fun w853 => ?_) (fun w854 => ?_)
              · refine l_aload_n rfl rfl ?_
                refine l_bipush rfl rfl ?_
                have w855 : Xi T79 876 7 = Xi S 876 7 := (show Xi T79 876 7 = Xi T77 876 7 from w852.x _ _ rfl).trans ( (show Xi T77 876 7 = Xi U76 876 7 from w826.x _ _ rfl).trans ( (show Xi U76 876 7 = Xi U75 876 7 from by rw [eU76]; exact Xi_ne (by omega)).trans ( (show Xi U75 876 7 = Xi T2 876 7 from by rw [eU75]; exact Xi_ne (by omega)).trans ( (show Xi T2 876 7 = Xi T1 876 7 from w23.x _ _ rfl).trans ((show Xi T1 876 7 = Xi S 876 7 from w12.x _ _ rfl))))))
                have w856 : 0 ≤ Xi S 876 7 ∧ Xi S 876 7 ≤ 5130 := hH.c _ _
                have w857 : 0 ≤ Xi T79 890 1 ∧ Xi T79 890 1 ≤ 5130 := hHT79.c _ _
                refine l_callV rfl rfl rfl (t_gr_take hHT79 103 ⟨by omega, by omega⟩ (by first | assumption | omega) (by first | assumption | omega) (by first | assumption | omega) _) ?_
                rintro _ T80 ⟨hHT80, w863, z862, rfl, w862, w858, w859, w860, w861⟩
                have hFT80 : FR md_gr_checkBe S T80 := FR.tr hFT79 w863 rfl
                show Rl _ _ _ _ _ [iv z862] _ _
                refine l_if_eq rfl rfl (by unfold rg; omega) (fun w864 => ?_) (fun w865 => ?_)
                · refine l_iconst rfl ?_
                  refine l_ireturn rfl rfl ?_
                  have w866 : Xi T80 890 2 = Xi U75 890 2 := (show Xi T80 890 2 = Xi T79 890 2 from w863.x _ _ rfl).trans ( (show Xi T79 890 2 = Xi T77 890 2 from w852.x _ _ rfl).trans ( (show Xi T77 890 2 = Xi U76 890 2 from w826.x _ _ rfl).trans ((show Xi U76 890 2 = Xi U75 890 2 from by rw [eU76]; exact Xi_ne (by omega)))))
                  have w867 : 0 ≤ Xi U75 890 2 ∧ Xi U75 890 2 ≤ 20 := hHU75.c _ _
                  exact ⟨hHT80, hFT80, _, rfl, ⟨by omega, by omega⟩, (by first | assumption | omega)⟩
                · refine l_iconst rfl ?_
                  refine l_goto rfl rfl ?_
                  refine l_ireturn rfl rfl ?_
                  have w868 : Xi T80 890 2 = Xi U75 890 2 := (show Xi T80 890 2 = Xi T79 890 2 from w863.x _ _ rfl).trans ( (show Xi T79 890 2 = Xi T77 890 2 from w852.x _ _ rfl).trans ( (show Xi T77 890 2 = Xi U76 890 2 from w826.x _ _ rfl).trans ((show Xi U76 890 2 = Xi U75 890 2 from by rw [eU76]; exact Xi_ne (by omega)))))
                  have w869 : 0 ≤ Xi U75 890 2 ∧ Xi U75 890 2 ≤ 20 := hHU75.c _ _
                  exact ⟨hHT80, hFT80, _, rfl, ⟨by omega, by omega⟩, (by first | assumption | omega)⟩
              · refine l_aload_n rfl rfl ?_
                have w870 : Xi T79 876 7 = Xi S 876 7 := (show Xi T79 876 7 = Xi T77 876 7 from w852.x _ _ rfl).trans ( (show Xi T77 876 7 = Xi U76 876 7 from w826.x _ _ rfl).trans ( (show Xi U76 876 7 = Xi U75 876 7 from by rw [eU76]; exact Xi_ne (by omega)).trans ( (show Xi U75 876 7 = Xi T2 876 7 from by rw [eU75]; exact Xi_ne (by omega)).trans ( (show Xi T2 876 7 = Xi T1 876 7 from w23.x _ _ rfl).trans ((show Xi T1 876 7 = Xi S 876 7 from w12.x _ _ rfl))))))
                have w871 : 0 ≤ Xi S 876 7 ∧ Xi S 876 7 ≤ 5130 := hH.c _ _
                have w872 : 0 ≤ Xi T79 890 1 ∧ Xi T79 890 1 ≤ 5130 := hHT79.c _ _
                refine l_callV rfl rfl rfl (t_gr_takeName hHT79 (by first | assumption | omega) (by first | assumption | omega) _) ?_
                rintro _ T81 ⟨hHT81, w876, z875, rfl, w875, w873, w874⟩
                have hFT81 : FR md_gr_checkBe S T81 := FR.tr hFT79 w876 rfl
                show Rl _ _ _ _ _ [iv z875] _ _
                refine l_if_eq rfl rfl (by unfold rg; omega) (fun w877 => ?_) (fun w878 => ?_)
                · refine l_iconst rfl ?_
                  refine l_ireturn rfl rfl ?_
                  have w879 : Xi T81 890 2 = Xi U75 890 2 := (show Xi T81 890 2 = Xi T79 890 2 from w876.x _ _ rfl).trans ( (show Xi T79 890 2 = Xi T77 890 2 from w852.x _ _ rfl).trans ( (show Xi T77 890 2 = Xi U76 890 2 from w826.x _ _ rfl).trans ((show Xi U76 890 2 = Xi U75 890 2 from by rw [eU76]; exact Xi_ne (by omega)))))
                  have w880 : 0 ≤ Xi U75 890 2 ∧ Xi U75 890 2 ≤ 20 := hHU75.c _ _
                  exact ⟨hHT81, hFT81, _, rfl, ⟨by omega, by omega⟩, (by first | assumption | omega)⟩
                · refine l_aload_n rfl rfl ?_
                  refine l_bipush rfl rfl ?_
                  have w881 : Xi T81 876 7 = Xi S 876 7 := (show Xi T81 876 7 = Xi T79 876 7 from w876.x _ _ rfl).trans ( (show Xi T79 876 7 = Xi T77 876 7 from w852.x _ _ rfl).trans ( (show Xi T77 876 7 = Xi U76 876 7 from w826.x _ _ rfl).trans ( (show Xi U76 876 7 = Xi U75 876 7 from by rw [eU76]; exact Xi_ne (by omega)).trans ( (show Xi U75 876 7 = Xi T2 876 7 from by rw [eU75]; exact Xi_ne (by omega)).trans ( (show Xi T2 876 7 = Xi T1 876 7 from w23.x _ _ rfl).trans ((show Xi T1 876 7 = Xi S 876 7 from w12.x _ _ rfl)))))))
                  have w882 : 0 ≤ Xi S 876 7 ∧ Xi S 876 7 ≤ 5130 := hH.c _ _
                  have w883 : 0 ≤ Xi T81 890 1 ∧ Xi T81 890 1 ≤ 5130 := hHT81.c _ _
                  refine l_callV rfl rfl rfl (t_gr_take hHT81 103 ⟨by omega, by omega⟩ (by first | assumption | omega) (by first | assumption | omega) (by first | assumption | omega) _) ?_
                  rintro _ T82 ⟨hHT82, w889, z888, rfl, w888, w884, w885, w886, w887⟩
                  have hFT82 : FR md_gr_checkBe S T82 := FR.tr hFT81 w889 rfl
                  show Rl _ _ _ _ _ [iv z888] _ _
                  refine l_if_eq rfl rfl (by unfold rg; omega) (fun w890 => ?_) (fun w891 => ?_)
                  · refine l_iconst rfl ?_
                    refine l_ireturn rfl rfl ?_
                    have w892 : Xi T82 890 2 = Xi U75 890 2 := (show Xi T82 890 2 = Xi T81 890 2 from w889.x _ _ rfl).trans ( (show Xi T81 890 2 = Xi T79 890 2 from w876.x _ _ rfl).trans ( (show Xi T79 890 2 = Xi T77 890 2 from w852.x _ _ rfl).trans ( (show Xi T77 890 2 = Xi U76 890 2 from w826.x _ _ rfl).trans ((show Xi U76 890 2 = Xi U75 890 2 from by rw [eU76]; exact Xi_ne (by omega))))))
                    have w893 : 0 ≤ Xi U75 890 2 ∧ Xi U75 890 2 ≤ 20 := hHU75.c _ _
                    exact ⟨hHT82, hFT82, _, rfl, ⟨by omega, by omega⟩, (by first | assumption | omega)⟩
                  · refine l_iconst rfl ?_
                    refine l_goto rfl rfl ?_
                    refine l_ireturn rfl rfl ?_
                    have w894 : Xi T82 890 2 = Xi U75 890 2 := (show Xi T82 890 2 = Xi T81 890 2 from w889.x _ _ rfl).trans ( (show Xi T81 890 2 = Xi T79 890 2 from w876.x _ _ rfl).trans ( (show Xi T79 890 2 = Xi T77 890 2 from w852.x _ _ rfl).trans ( (show Xi T77 890 2 = Xi U76 890 2 from w826.x _ _ rfl).trans ((show Xi U76 890 2 = Xi U75 890 2 from by rw [eU76]; exact Xi_ne (by omega))))))
                    have w895 : 0 ≤ Xi U75 890 2 ∧ Xi U75 890 2 ≤ 20 := hHU75.c _ _
                    exact ⟨hHT82, hFT82, _, rfl, ⟨by omega, by omega⟩, (by first | assumption | omega)⟩
      · refine l_iconst rfl ?_
        refine l_ireturn rfl rfl ?_
        have w896 : Xi T2 890 2 = Xi S 890 2 := (show Xi T2 890 2 = Xi T1 890 2 from w23.x _ _ rfl).trans ((show Xi T1 890 2 = Xi S 890 2 from w12.x _ _ rfl))
        have w897 : 0 ≤ Xi S 890 2 ∧ Xi S 890 2 ≤ 20 := hH.c _ _
        exact ⟨hHT2, hFT2, _, rfl, ⟨by omega, by omega⟩, (by first | assumption | omega)⟩
  · refine l_aload_n rfl rfl ?_
    have hp0 : PROP S 0 := by apply_assumption; omega
    refine l_bipush rfl rfl ?_
    refine l_pfi rfl rfl rfl rfl ?_
    obtain ⟨U83, eU83⟩ : ∃ T : sS, T = uI S 890 2 (Int32.ofInt 9) := ⟨_, rfl⟩
    rw [← eU83]
    have hHU83 : HI U83 := by rw [eU83]; exact HI_w hH (show 0 ≤ 9 by omega) (show 9 ≤ 20 by omega)
    have hFU83 : FR md_gr_checkBe S U83 := by rw [eU83]; exact FR.wI hF (mdf_i (r := (890, 891, 2, 3)) (List.mem_of_getElem? (i := 1) rfl) (inR_i (by omega) (by omega) (by omega) (by omega)))
    have w898 : Xi U83 890 2 = 9 := by rw [eU83]; exact Xi_same (by unfold rg; omega)
    have hso14 : SAY U83 (Xi U83 890 1) := SAY_sort eU83 (by assumption) (by decide)
    refine l_aload_n rfl rfl ?_
    refine l_aload_n rfl rfl ?_
    refine l_gfr rfl rfl rfl rfl rfl (hHU83.r 890 0 876 rfl) ?_
    refine l_iconst rfl ?_
    have w899 : Xi U83 876 7 = Xi S 876 7 := (show Xi U83 876 7 = Xi S 876 7 from by rw [eU83]; exact Xi_ne (by omega))
    have w900 : 0 ≤ Xi S 876 7 ∧ Xi S 876 7 ≤ 5130 := hH.c _ _
    refine l_callV rfl rfl rfl (t_to_runEnd hHU83 1 ⟨by omega, by omega⟩ _) ?_
    rintro _ _ ⟨rfl, z907, rfl, w907, w901, w902, w903, w904, w905, w906⟩
    show Rl _ _ _ _ _ [iv z907, .ref 890] _ _
    have hfe : ∀ r : Nat, (0 : Int) + 1 ≤ r → (r : Int) < z907 → Xi U83 877 r = 100 := by intro r h1 h2; apply_assumption <;> omega
    have hpe := prop_end (z := z907) (PROP_fr (m877 hFU83 rfl) (by omega) hp0) (by omega) hfe (by assumption)
    refine l_iconst rfl ?_
    refine l_iadd rfl ?_
    refine l_pfi rfl rfl rfl rfl ?_
    obtain ⟨U84, eU84⟩ : ∃ T : sS, T = uI U83 890 1 (Int32.ofInt (z907 + 1)) := ⟨_, rfl⟩
    rw [← eU84]
    have hHU84 : HI U84 := by rw [eU84]; exact HI_w hHU83 (show 0 ≤ (z907 + 1) by omega) (show (z907 + 1) ≤ 5130 by omega)
    have hFU84 : FR md_gr_checkBe S U84 := by rw [eU84]; exact FR.wI hFU83 (mdf_i (r := (890, 891, 1, 2)) (List.mem_of_getElem? (i := 0) rfl) (inR_i (by omega) (by omega) (by omega) (by omega)))
    have w908 : Xi U84 890 1 = (z907 + 1) := by rw [eU84]; exact Xi_same (by unfold rg; omega)
    have hs28 : SAY U84 (Xi U84 890 1) := SAY_prop eU84 (by assumption) SAY_0 hpe hfe (by omega)
    refine l_aload_n rfl rfl ?_
    have w909 : Xi U84 876 7 = Xi S 876 7 := (show Xi U84 876 7 = Xi U83 876 7 from by rw [eU84]; exact Xi_ne (by omega)).trans ((show Xi U83 876 7 = Xi S 876 7 from by rw [eU83]; exact Xi_ne (by omega)))
    have w910 : 0 ≤ Xi S 876 7 ∧ Xi S 876 7 ≤ 5130 := hH.c _ _
    have w911 : 0 ≤ Xi U84 890 1 ∧ Xi U84 890 1 ≤ 5130 := hHU84.c _ _
    refine l_callV rfl rfl rfl (t_gr_takeName hHU84 (by first | assumption | omega) (by first | assumption | omega) _) ?_
    rintro _ T85 ⟨hHT85, w915, z914, rfl, w914, w912, w913⟩
    have hFT85 : FR md_gr_checkBe S T85 := FR.tr hFU84 w915 rfl
    show Rl _ _ _ _ _ [iv z914] _ _
    refine l_if_eq rfl rfl (by unfold rg; omega) (fun w916 => ?_) (fun w917 => ?_)
    · refine l_iconst rfl ?_
      refine l_ireturn rfl rfl ?_
      have w918 : Xi T85 890 2 = Xi U83 890 2 := (show Xi T85 890 2 = Xi U84 890 2 from w915.x _ _ rfl).trans ((show Xi U84 890 2 = Xi U83 890 2 from by rw [eU84]; exact Xi_ne (by omega)))
      have w919 : 0 ≤ Xi U83 890 2 ∧ Xi U83 890 2 ≤ 20 := hHU83.c _ _
      exact ⟨hHT85, hFT85, _, rfl, ⟨by omega, by omega⟩, (by first | assumption | omega)⟩
    · refine l_aload_n rfl rfl ?_
      have w920 : Xi T85 876 7 = Xi S 876 7 := (show Xi T85 876 7 = Xi U84 876 7 from w915.x _ _ rfl).trans ( (show Xi U84 876 7 = Xi U83 876 7 from by rw [eU84]; exact Xi_ne (by omega)).trans ((show Xi U83 876 7 = Xi S 876 7 from by rw [eU83]; exact Xi_ne (by omega))))
      have w921 : 0 ≤ Xi S 876 7 ∧ Xi S 876 7 ≤ 5130 := hH.c _ _
      have w922 : 0 ≤ Xi T85 890 1 ∧ Xi T85 890 1 ≤ 5130 := hHT85.c _ _
      refine l_callV rfl rfl rfl (t_gr_takeBe hHT85 (by first | assumption | omega) (by first | assumption | omega) _) ?_
      rintro _ T86 ⟨hHT86, w926, z925, rfl, w925, w923, w924⟩
      have hFT86 : FR md_gr_checkBe S T86 := FR.tr hFT85 w926 rfl
      show Rl _ _ _ _ _ [iv z925] _ _
      refine l_if_eq rfl rfl (by unfold rg; omega) (fun w927 => ?_) (fun w928 => ?_)
      · refine l_iconst rfl ?_
        refine l_ireturn rfl rfl ?_
        have w929 : Xi T86 890 2 = Xi U83 890 2 := (show Xi T86 890 2 = Xi T85 890 2 from w926.x _ _ rfl).trans ( (show Xi T85 890 2 = Xi U84 890 2 from w915.x _ _ rfl).trans ((show Xi U84 890 2 = Xi U83 890 2 from by rw [eU84]; exact Xi_ne (by omega))))
        have w930 : 0 ≤ Xi U83 890 2 ∧ Xi U83 890 2 ≤ 20 := hHU83.c _ _
        exact ⟨hHT86, hFT86, _, rfl, ⟨by omega, by omega⟩, (by first | assumption | omega)⟩
      · refine l_aload_n rfl rfl ?_
        have w931 : Xi T86 876 7 = Xi S 876 7 := (show Xi T86 876 7 = Xi T85 876 7 from w926.x _ _ rfl).trans ( (show Xi T85 876 7 = Xi U84 876 7 from w915.x _ _ rfl).trans ( (show Xi U84 876 7 = Xi U83 876 7 from by rw [eU84]; exact Xi_ne (by omega)).trans ((show Xi U83 876 7 = Xi S 876 7 from by rw [eU83]; exact Xi_ne (by omega)))))
        have w932 : 0 ≤ Xi S 876 7 ∧ Xi S 876 7 ≤ 5130 := hH.c _ _
        have w933 : 0 ≤ Xi T86 890 1 ∧ Xi T86 890 1 ≤ 5130 := hHT86.c _ _
        refine l_callV rfl rfl rfl (t_gr_takeWhat hHT86 (by first | assumption | omega) (by first | assumption | omega) _) ?_
        rintro _ T87 ⟨hHT87, w937, z936, rfl, w936, w934, w935⟩
        have hFT87 : FR md_gr_checkBe S T87 := FR.tr hFT86 w937 rfl
        show Rl _ _ _ _ _ [iv z936] _ _
        refine l_if_eq rfl rfl (by unfold rg; omega) (fun w938 => ?_) (fun w939 => ?_)
        · refine l_iconst rfl ?_
          refine l_ireturn rfl rfl ?_
          have w940 : Xi T87 890 2 = Xi U83 890 2 := (show Xi T87 890 2 = Xi T86 890 2 from w937.x _ _ rfl).trans ( (show Xi T86 890 2 = Xi T85 890 2 from w926.x _ _ rfl).trans ( (show Xi T85 890 2 = Xi U84 890 2 from w915.x _ _ rfl).trans ((show Xi U84 890 2 = Xi U83 890 2 from by rw [eU84]; exact Xi_ne (by omega)))))
          have w941 : 0 ≤ Xi U83 890 2 ∧ Xi U83 890 2 ≤ 20 := hHU83.c _ _
          exact ⟨hHT87, hFT87, _, rfl, ⟨by omega, by omega⟩, (by first | assumption | omega)⟩
        · refine l_aload_n rfl rfl ?_
          refine l_bipush rfl rfl ?_
          have w942 : Xi T87 876 7 = Xi S 876 7 := (show Xi T87 876 7 = Xi T86 876 7 from w937.x _ _ rfl).trans ( (show Xi T86 876 7 = Xi T85 876 7 from w926.x _ _ rfl).trans ( (show Xi T85 876 7 = Xi U84 876 7 from w915.x _ _ rfl).trans ( (show Xi U84 876 7 = Xi U83 876 7 from by rw [eU84]; exact Xi_ne (by omega)).trans ((show Xi U83 876 7 = Xi S 876 7 from by rw [eU83]; exact Xi_ne (by omega))))))
          have w943 : 0 ≤ Xi S 876 7 ∧ Xi S 876 7 ≤ 5130 := hH.c _ _
          have w944 : 0 ≤ Xi T87 890 1 ∧ Xi T87 890 1 ≤ 5130 := hHT87.c _ _
          refine l_callV rfl rfl rfl (t_gr_take hHT87 103 ⟨by omega, by omega⟩ (by first | assumption | omega) (by first | assumption | omega) (by first | assumption | omega) _) ?_
          rintro _ T88 ⟨hHT88, w950, z949, rfl, w949, w945, w946, w947, w948⟩
          have hFT88 : FR md_gr_checkBe S T88 := FR.tr hFT87 w950 rfl
          show Rl _ _ _ _ _ [iv z949] _ _
          refine l_if_eq rfl rfl (by unfold rg; omega) (fun w951 => ?_) (fun w952 => ?_)
          · refine l_iconst rfl ?_
            refine l_ireturn rfl rfl ?_
            have w953 : Xi T88 890 2 = Xi U83 890 2 := (show Xi T88 890 2 = Xi T87 890 2 from w950.x _ _ rfl).trans ( (show Xi T87 890 2 = Xi T86 890 2 from w937.x _ _ rfl).trans ( (show Xi T86 890 2 = Xi T85 890 2 from w926.x _ _ rfl).trans ( (show Xi T85 890 2 = Xi U84 890 2 from w915.x _ _ rfl).trans ((show Xi U84 890 2 = Xi U83 890 2 from by rw [eU84]; exact Xi_ne (by omega))))))
            have w954 : 0 ≤ Xi U83 890 2 ∧ Xi U83 890 2 ≤ 20 := hHU83.c _ _
            exact ⟨hHT88, hFT88, _, rfl, ⟨by omega, by omega⟩, (by first | assumption | omega)⟩
          · refine l_iconst rfl ?_
            refine l_goto rfl rfl ?_
            refine l_ireturn rfl rfl ?_
            have w955 : Xi T88 890 2 = Xi U83 890 2 := (show Xi T88 890 2 = Xi T87 890 2 from w950.x _ _ rfl).trans ( (show Xi T87 890 2 = Xi T86 890 2 from w937.x _ _ rfl).trans ( (show Xi T86 890 2 = Xi T85 890 2 from w926.x _ _ rfl).trans ( (show Xi T85 890 2 = Xi U84 890 2 from w915.x _ _ rfl).trans ((show Xi U84 890 2 = Xi U83 890 2 from by rw [eU84]; exact Xi_ne (by omega))))))
            have w956 : 0 ≤ Xi U83 890 2 ∧ Xi U83 890 2 ≤ 20 := hHU83.c _ _
            exact ⟨hHT88, hFT88, _, rfl, ⟨by omega, by omega⟩, (by first | assumption | omega)⟩
