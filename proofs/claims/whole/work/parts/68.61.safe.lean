/-! SAFETY of methods: printed by wip/safe (vc.py, decl.py) -/
def md_mo_is : List rec := [(904, 905, 154, 155)]
abbrev Q_mo_is (S : sS) (o : Int) (a : Int) : pst := fun r S1 => HI S1 ∧ FR md_mo_is S S1 ∧ (∃ z : Int, r = some (iv z) ∧ (-1 ≤ z ∧ z ≤ 1))
def md_mo_feed : List rec := [(904, 905, 1, 2), (905, 906, 0, 100000)]
abbrev Q_mo_feed (S : sS) (w : Int) (n : Int) : pst := fun r S1 => HI S1 ∧ FR md_mo_feed S S1 ∧ (∃ z : Int, r = some (iv z) ∧ (-1 ≤ z ∧ z ≤ 5000) ∧ (1 ≤ n → n ≤ 8 → Xi S 904 1 + n ≤ 5000 → z = Xi S 904 1 + n ∧ Xi S1 904 1 = Xi S 904 1 + n) ∧ (n < 1 ∨ 8 < n ∨ 5000 < Xi S 904 1 + n → z = -1 ∧ Xi S1 904 1 = Xi S 904 1))
set_option maxRecDepth 100000 in
theorem t_mo_feed {S : sS} (hH : HI S) (w : Int) (n : Int) (hn : -2147483648 ≤ n ∧ n ≤ 2147483647) (d : Nat) : Mt lay0 (d + 1) m_mo_feed [.ref 904, jw w, iv n] S (Q_mo_feed S w n) := by
  refine Mt_R rfl rfl ?_
  have hF : FR md_mo_feed S S := FR.rf
  have w1 : 0 ≤ Xi S 904 1 ∧ Xi S 904 1 ≤ 5000 := hH.c _ _
  have C30 : ∀ (n30 : Nat) (T1 : sS) (_ : HI T1) (_ : FR md_mo_feed S T1) (v4 : Int), (-1 ≤ v4 ∧ v4 ≤ 7) → (Xi T1 904 1 = Xi S 904 1 + (n - 1 - v4)) → (1 ≤ n ∧ n ≤ 8 ∧ Xi S 904 1 + n ≤ 5000) → n30 = (v4 + 1).toNat → Rl lay0 (d + 0) m_mo_feed 30 [(0, .ref 904), (1, jw w), (4, iv v4)] [] T1 (Q_mo_feed S w n) := by
    intro n30
    induction n30 using Nat.strongRecOn with
    | ind n30 ih30 =>
      intro T1 hHT1 hFT1 v4 w2 w3 w4 hm30
      have w5 : 0 ≤ Xi T1 904 1 ∧ Xi T1 904 1 ≤ 5000 := hHT1.c _ _
      refine l_iload rfl rfl ?_
      refine l_if_lt rfl rfl (by unfold rg; omega) (fun w6 => ?_) (fun w7 => ?_)
      · refine l_aload_n rfl rfl ?_
        refine l_gfi rfl rfl rfl rfl rfl ?_
        refine l_ireturn rfl rfl ?_
        exact ⟨hHT1, hFT1, _, rfl, ⟨by omega, by omega⟩, (by first | assumption | omega), (by first | assumption | omega)⟩
      · refine l_aload_n rfl rfl ?_
        refine l_gfr rfl rfl rfl rfl rfl (hHT1.r 904 0 905 rfl) ?_
        refine l_aload_n rfl rfl ?_
        refine l_gfi rfl rfl rfl rfl rfl ?_
        refine l_lload_n rfl rfl ?_
        refine l_bipush rfl rfl ?_
        refine l_iload rfl rfl ?_
        refine l_imul rfl ?_
        refine l_lshrF rfl ?_
        have w9 : rgL (lshrF w (8 * v4)) := lshrF_rg
        refine l_l2iA rfl (fun c10 w10 => ?_)
        refine l_i2b rfl (fun c11 w11 => ?_)
        refine l_bastoreB1 (n := 5000) rfl rfl (by omega) (by omega) (by unfold rg; omega) ⟨by omega, by omega⟩ ?_
        obtain ⟨U2, eU2⟩ : ∃ T : sS, T = uI T1 905 (((Xi T1 904 1)).toNat) (Int32.ofInt c11) := ⟨_, rfl⟩
        rw [← eU2]
        have hHU2 : HI U2 := by rw [eU2]; exact HI_w hHT1 (show -128 ≤ c11 by omega) (show c11 ≤ 127 by omega)
        have hFU2 : FR md_mo_feed S U2 := by rw [eU2]; exact FR.wI hFT1 (mdf_i (r := (905, 906, 0, 100000)) (List.mem_of_getElem? (i := 1) rfl) (inR_i (by omega) (by omega) (by omega) (by omega)))
        have w12 : Xi U2 905 (((Xi T1 904 1)).toNat) = c11 := by rw [eU2]; exact Xi_same (by unfold rg; omega)
        refine l_aload_n rfl rfl ?_
        refine l_dup rfl rfl ?_
        refine l_gfi rfl rfl rfl rfl rfl ?_
        have w13 : (Xi U2 904 1) = (Xi T1 904 1) := (show Xi U2 904 1 = Xi T1 904 1 from by rw [eU2]; exact Xi_ne (by omega))
        rw [w13]
        refine l_iconst rfl ?_
        refine l_iadd rfl ?_
        refine l_pfi rfl rfl rfl rfl ?_
        obtain ⟨U3, eU3⟩ : ∃ T : sS, T = uI U2 904 1 (Int32.ofInt ((Xi T1 904 1) + 1)) := ⟨_, rfl⟩
        rw [← eU3]
        have hHU3 : HI U3 := by rw [eU3]; exact HI_w hHU2 (show 0 ≤ ((Xi T1 904 1) + 1) by omega) (show ((Xi T1 904 1) + 1) ≤ 5000 by omega)
        have hFU3 : FR md_mo_feed S U3 := by rw [eU3]; exact FR.wI hFU2 (mdf_i (r := (904, 905, 1, 2)) (List.mem_of_getElem? (i := 0) rfl) (inR_i (by omega) (by omega) (by omega) (by omega)))
        have w14 : Xi U3 904 1 = ((Xi T1 904 1) + 1) := by rw [eU3]; exact Xi_same (by unfold rg; omega)
        refine l_iinc rfl rfl rfl rfl ?_
        refine l_goto rfl rfl ?_
        have w15 : 0 ≤ Xi U3 904 1 ∧ Xi U3 904 1 ≤ 5000 := hHU3.c _ _
        exact Rl_weak (ih30 _ (by omega) U3 hHU3 hFU3 ((v4 + (-1))) (by omega) (by omega) (by omega) rfl) (And.intro rfl (And.intro rfl (And.intro rfl (True.intro))))
  refine l_iload_n rfl rfl ?_
  refine l_iconst rfl ?_
  refine l_icmp_lt rfl rfl (by unfold rg; omega) (by unfold rg; omega) (fun w16 => ?_) (fun w17 => ?_)
  · refine l_iconst rfl ?_
    refine l_ireturn rfl rfl ?_
    exact ⟨hH, hF, _, rfl, ⟨by omega, by omega⟩, (by first | assumption | omega), (by first | assumption | omega)⟩
  · refine l_iload_n rfl rfl ?_
    refine l_bipush rfl rfl ?_
    refine l_icmp_gt rfl rfl (by unfold rg; omega) (by unfold rg; omega) (fun w19 => ?_) (fun w20 => ?_)
    · refine l_iconst rfl ?_
      refine l_ireturn rfl rfl ?_
      exact ⟨hH, hF, _, rfl, ⟨by omega, by omega⟩, (by first | assumption | omega), (by first | assumption | omega)⟩
    · refine l_aload_n rfl rfl ?_
      refine l_gfi rfl rfl rfl rfl rfl ?_
      refine l_iload_n rfl rfl ?_
      refine l_iadd rfl ?_
      refine l_sipush rfl rfl ?_
      refine l_icmp_le rfl rfl (by unfold rg; omega) (by unfold rg; omega) (fun w22 => ?_) (fun w23 => ?_)
      · refine l_iload_n rfl rfl ?_
        refine l_iconst rfl ?_
        refine l_isub rfl ?_
        refine l_istore rfl rfl rfl ?_
        exact Rl_weak (C30 _ S hH hF ((n - 1)) (by omega) (by omega) (by omega) rfl) (And.intro rfl (And.intro rfl (And.intro rfl (True.intro))))
      · refine l_iconst rfl ?_
        refine l_ireturn rfl rfl ?_
        exact ⟨hH, hF, _, rfl, ⟨by omega, by omega⟩, (by first | assumption | omega), (by first | assumption | omega)⟩
def md_mo_isSaid : List rec := [(904, 905, 164, 165), (995, 996, 0, 100000)]
abbrev Q_mo_isSaid (S : sS) : pst := fun r S1 => HI S1 ∧ FR md_mo_isSaid S S1 ∧ (∃ z : Int, r = some (iv z) ∧ (0 ≤ z ∧ z ≤ 1))
set_option maxRecDepth 100000 in
theorem t_mo_isSaid {S : sS} (hH : HI S) (d : Nat) : Mt lay0 (d + 4) m_mo_isSaid [.ref 904] S (Q_mo_isSaid S) := by
  refine Mt_R rfl rfl ?_
  have hF : FR md_mo_isSaid S S := FR.rf
  have w1 : 0 ≤ Xi S 904 1 ∧ Xi S 904 1 ≤ 5000 := hH.c _ _
  have h1 : 0 ≤ Xi S 904 1 ∧ Xi S 904 1 ≤ 5000 := hH.c _ _
  have C7 : ∀ (n7 : Nat) (T1 : sS) (_ : HI T1) (_ : FR md_mo_isSaid S T1) (v1 : Int), (0 ≤ v1 ∧ v1 ≤ 5000) → n7 = (5001 - v1).toNat → Rl lay0 (d + 3) m_mo_isSaid 7 [(0, .ref 904), (1, iv v1)] [] T1 (Q_mo_isSaid S) := by
    intro n7
    induction n7 using Nat.strongRecOn with
    | ind n7 ih7 =>
      intro T1 hHT1 hFT1 v1 w2 hm7
      have w3 : Xi T1 904 1 = Xi S 904 1 := hFT1.x _ _ rfl
      have C34 : ∀ (n34 : Nat) (T2 : sS) (_ : HI T2) (_ : FR md_mo_isSaid S T2) (v1 : Int) (v2 : Int), (0 ≤ v1 ∧ v1 ≤ 4999) → (0 ≤ v2 ∧ v2 ≤ 5000) → (v1 ≤ v2) → (v1 < Xi S 904 1) → (v2 ≤ Xi S 904 1) → ((5001 - v1).toNat ≤ n7) → n34 = (5001 - v2).toNat → Rl lay0 (d + 3) m_mo_isSaid 34 [(0, .ref 904), (1, iv v1), (2, iv v2)] [] T2 (Q_mo_isSaid S) := by
        intro n34
        induction n34 using Nat.strongRecOn with
        | ind n34 ih34 =>
          intro T2 hHT2 hFT2 v1 v2 w4 w5 w6 w7 w8 w9 hm34
          have w10 : Xi T2 904 1 = Xi S 904 1 := hFT2.x _ _ rfl
          have C60 : ∀  (T3 : sS) (_ : HI T3) (_ : FR md_mo_isSaid S T3) (v1 : Int) (v2 : Int), (0 ≤ v1 ∧ v1 ≤ 4999) → (0 ≤ v2 ∧ v2 ≤ 5000) → (v1 ≤ v2) → (v1 < Xi S 904 1) → (v2 ≤ Xi S 904 1) → ((5001 - v1).toNat ≤ n7) → Rl lay0 (d + 3) m_mo_isSaid 60 [(0, .ref 904), (1, iv v1), (2, iv v2)] [] T3 (Q_mo_isSaid S) := by
            intro T3 hHT3 hFT3 v1 v2 w11 w12 w13 w14 w15 w16
            have w17 : Xi T3 904 1 = Xi S 904 1 := hFT3.x _ _ rfl
            refine l_iload_n rfl rfl ?_
            refine l_iload_n rfl rfl ?_
            refine l_icmp_eq rfl rfl (by unfold rg; omega) (by unfold rg; omega) (fun w18 => ?_) (fun w19 => ?_)
            · refine l_iconst rfl ?_
              refine l_ireturn rfl rfl ?_
              exact ⟨hHT3, hFT3, _, rfl, ⟨by omega, by omega⟩⟩
            · refine l_iload_n rfl rfl ?_
              refine l_iload_n rfl rfl ?_
              refine l_isub rfl ?_
              refine l_bipush rfl rfl ?_
              refine l_icmp_gt rfl rfl (by unfold rg; omega) (by unfold rg; omega) (fun w21 => ?_) (fun w22 => ?_)
              · refine l_iconst rfl ?_
                refine l_ireturn rfl rfl ?_
                exact ⟨hHT3, hFT3, _, rfl, ⟨by omega, by omega⟩⟩
              · refine l_aload_n rfl rfl ?_
                refine l_gfi rfl rfl rfl rfl rfl ?_
                have w24 : 0 ≤ (Xi T3 904 164) ∧ (Xi T3 904 164) ≤ 50 := hHT3.c _ _
                refine l_bipush rfl rfl ?_
                refine l_icmp_ne rfl rfl (by unfold rg; omega) (by unfold rg; omega) (fun w25 => ?_) (fun w26 => ?_)
                · refine l_aload_n rfl rfl ?_
                  refine l_gfr rfl rfl rfl rfl rfl (hHT3.r 904 163 995 rfl) ?_
                  refine l_aload_n rfl rfl ?_
                  refine l_gfi rfl rfl rfl rfl rfl ?_
                  refine l_aload_n rfl rfl ?_
                  refine l_gfr rfl rfl rfl rfl rfl (hHT3.r 904 0 905 rfl) ?_
                  refine l_iload_n rfl rfl ?_
                  refine l_iload_n rfl rfl ?_
                  refine l_iload_n rfl rfl ?_
                  refine l_isub rfl ?_
                  refine l_callS rfl rfl (by decide) rfl (t_mo_wordOf hHT3 905 v1 (v2 - v1) (Or.inl rfl) ⟨by omega, by omega⟩ ⟨by omega, by omega⟩ (by first | assumption | omega) _) ?_
                  rintro _ _ ⟨rfl, z28, rfl⟩
                  show Rl _ _ _ _ _ [jw z28, iv (Xi T3 904 164), .ref 995] _ _
                  refine l_lastore (n := 50) rfl rfl (by omega) (by omega) (by unfold rg; omega) ?_
                  obtain ⟨U4, eU4⟩ : ∃ T : sS, T = uJ T3 995 (((Xi T3 904 164)).toNat) (Int64.ofInt z28) := ⟨_, rfl⟩
                  rw [← eU4]
                  have hHU4 : HI U4 := by rw [eU4]; exact HI_J hHT3
                  have hFU4 : FR md_mo_isSaid S U4 := by rw [eU4]; exact FR.wJ hFT3 (mdf_i (r := (995, 996, 0, 100000)) (List.mem_of_getElem? (i := 1) rfl) (inR_i (by omega) (by omega) (by omega) (by omega)))
                  refine l_aload_n rfl rfl ?_
                  refine l_dup rfl rfl ?_
                  refine l_gfi rfl rfl rfl rfl rfl ?_
                  have w29 : (Xi U4 904 164) = (Xi T3 904 164) := (show Xi U4 904 164 = Xi T3 904 164 from by rw [eU4]; rfl)
                  rw [w29]
                  refine l_iconst rfl ?_
                  refine l_iadd rfl ?_
                  refine l_pfi rfl rfl rfl rfl ?_
                  obtain ⟨U5, eU5⟩ : ∃ T : sS, T = uI U4 904 164 (Int32.ofInt ((Xi T3 904 164) + 1)) := ⟨_, rfl⟩
                  rw [← eU5]
                  have hHU5 : HI U5 := by rw [eU5]; exact HI_w hHU4 (show 0 ≤ ((Xi T3 904 164) + 1) by omega) (show ((Xi T3 904 164) + 1) ≤ 50 by omega)
                  have hFU5 : FR md_mo_isSaid S U5 := by rw [eU5]; exact FR.wI hFU4 (mdf_i (r := (904, 905, 164, 165)) (List.mem_of_getElem? (i := 0) rfl) (inR_i (by omega) (by omega) (by omega) (by omega)))
                  have w30 : Xi U5 904 164 = ((Xi T3 904 164) + 1) := by rw [eU5]; exact Xi_same (by unfold rg; omega)
                  refine l_iload_n rfl rfl ?_
                  refine l_istore_n rfl rfl rfl ?_
                  refine l_goto rfl rfl ?_
                  have w31 : Xi U5 904 1 = Xi T3 904 1 := (show Xi U5 904 1 = Xi U4 904 1 from by rw [eU5]; exact Xi_ne (by omega)).trans ((show Xi U4 904 1 = Xi T3 904 1 from by rw [eU4]; rfl))
                  have w32 : 0 ≤ Xi T3 904 1 ∧ Xi T3 904 1 ≤ 5000 := hHT3.c _ _
                  exact Rl_weak (ih7 _ (by omega) U5 hHU5 hFU5 (v2) (by omega) rfl) (And.intro rfl (And.intro rfl (True.intro)))
                · refine l_iconst rfl ?_
                  refine l_ireturn rfl rfl ?_
                  exact ⟨hHT3, hFT3, _, rfl, ⟨by omega, by omega⟩⟩
          refine l_iload_n rfl rfl ?_
          refine l_aload_n rfl rfl ?_
          refine l_gfi rfl rfl rfl rfl rfl ?_
          have s36 : (Xi T2 904 1) = Xi S 904 1 := by first | rfl | exact hFT2.x 904 1 rfl
          refine l_icmp_ge rfl rfl (by unfold rg; omega) (by unfold rg; omega) (fun w34 => ?_) (fun w35 => ?_)
          · have w36 : 0 ≤ Xi T2 904 1 ∧ Xi T2 904 1 ≤ 5000 := hHT2.c _ _
            exact Rl_weak (C60 T2 hHT2 hFT2 (v1) (v2) (by omega) (by omega) (by omega) (by omega) (by omega) (by omega)) (And.intro rfl (And.intro rfl (And.intro rfl (True.intro))))
          · refine l_aload_n rfl rfl ?_
            refine l_gfr rfl rfl rfl rfl rfl (hHT2.r 904 0 905 rfl) ?_
            refine l_iload_n rfl rfl ?_
            refine l_baload (n := 5000) rfl rfl rfl (by decide) (by omega) (by omega) (by unfold rg; omega) ?_
            have w37 : -128 ≤ (Xi T2 905 ((v2).toNat)) ∧ (Xi T2 905 ((v2).toNat)) ≤ 127 := hHT2.c _ _
            refine l_callS rfl rfl (by decide) rfl (t_mo_isLetter hHT2 (Xi T2 905 ((v2).toNat)) ⟨by omega, by omega⟩ _) ?_
            rintro _ _ ⟨rfl, z40, rfl, w40, w39⟩
            show Rl _ _ _ _ _ [iv z40] _ _
            refine l_if_eq rfl rfl (by unfold rg; omega) (fun w41 => ?_) (fun w42 => ?_)
            · have w43 : 0 ≤ Xi T2 904 1 ∧ Xi T2 904 1 ≤ 5000 := hHT2.c _ _
              exact Rl_weak (C60 T2 hHT2 hFT2 (v1) (v2) (by omega) (by omega) (by omega) (by omega) (by omega) (by omega)) (And.intro rfl (And.intro rfl (And.intro rfl (True.intro))))
            · refine l_iinc rfl rfl rfl rfl ?_
              refine l_goto rfl rfl ?_
              have w44 : 0 ≤ Xi T2 904 1 ∧ Xi T2 904 1 ≤ 5000 := hHT2.c _ _
              exact Rl_weak (ih34 _ (by omega) T2 hHT2 hFT2 (v1) ((v2 + 1)) (by omega) (by omega) (by omega) (by omega) (by omega) (by omega) rfl) (And.intro rfl (And.intro rfl (And.intro rfl (True.intro))))
      refine l_iload_n rfl rfl ?_
      refine l_aload_n rfl rfl ?_
      refine l_gfi rfl rfl rfl rfl rfl ?_
      have s9 : (Xi T1 904 1) = Xi S 904 1 := by first | rfl | exact hFT1.x 904 1 rfl
      refine l_icmp_ge rfl rfl (by unfold rg; omega) (by unfold rg; omega) (fun w45 => ?_) (fun w46 => ?_)
      · refine l_iconst rfl ?_
        refine l_ireturn rfl rfl ?_
        exact ⟨hHT1, hFT1, _, rfl, ⟨by omega, by omega⟩⟩
      · refine l_aload_n rfl rfl ?_
        refine l_gfr rfl rfl rfl rfl rfl (hHT1.r 904 0 905 rfl) ?_
        refine l_iload_n rfl rfl ?_
        refine l_baload (n := 5000) rfl rfl rfl (by decide) (by omega) (by omega) (by unfold rg; omega) ?_
        have w48 : -128 ≤ (Xi T1 905 ((v1).toNat)) ∧ (Xi T1 905 ((v1).toNat)) ≤ 127 := hHT1.c _ _
        refine l_bipush rfl rfl ?_
        refine l_icmp_ne rfl rfl (by unfold rg; omega) (by unfold rg; omega) (fun w49 => ?_) (fun w50 => ?_)
        · refine l_iload_n rfl rfl ?_
          refine l_istore_n rfl rfl rfl ?_
          have w51 : 0 ≤ Xi T1 904 1 ∧ Xi T1 904 1 ≤ 5000 := hHT1.c _ _
          exact Rl_weak (C34 _ T1 hHT1 hFT1 (v1) (v1) (by omega) (by omega) (by omega) (by omega) (by omega) (by omega) rfl) (And.intro rfl (And.intro rfl (And.intro rfl (True.intro))))
        · refine l_iinc rfl rfl rfl rfl ?_
          refine l_goto rfl rfl ?_
          have w52 : 0 ≤ Xi T1 904 1 ∧ Xi T1 904 1 ≤ 5000 := hHT1.c _ _
          exact Rl_weak (ih7 _ (by omega) T1 hHT1 hFT1 ((v1 + 1)) (by omega) rfl) (And.intro rfl (And.intro rfl (True.intro)))
  refine l_aload_n rfl rfl ?_
  refine l_iconst rfl ?_
  refine l_pfi rfl rfl rfl rfl ?_
  obtain ⟨U6, eU6⟩ : ∃ T : sS, T = uI S 904 164 (Int32.ofInt 0) := ⟨_, rfl⟩
  rw [← eU6]
  have hHU6 : HI U6 := by rw [eU6]; exact HI_w hH (show 0 ≤ 0 by omega) (show 0 ≤ 50 by omega)
  have hFU6 : FR md_mo_isSaid S U6 := by rw [eU6]; exact FR.wI hF (mdf_i (r := (904, 905, 164, 165)) (List.mem_of_getElem? (i := 0) rfl) (inR_i (by omega) (by omega) (by omega) (by omega)))
  have w53 : Xi U6 904 164 = 0 := by rw [eU6]; exact Xi_same (by unfold rg; omega)
  refine l_iconst rfl ?_
  refine l_istore_n rfl rfl rfl ?_
  have w54 : Xi U6 904 1 = Xi S 904 1 := (show Xi U6 904 1 = Xi S 904 1 from by rw [eU6]; exact Xi_ne (by omega))
  exact Rl_weak (C7 _ U6 hHU6 hFU6 (0) (by omega) rfl) (And.intro rfl (And.intro rfl (True.intro)))
theorem wym_s {S U : sS} {n : Nat} {v : Int} (e : U = uI S 920 n (Int32.ofInt v)) (hv : v = Xi S 920 n) (hW : WYM S) : WYM U := fun o ho q => by
  rw [e, Xi_ne (by omega)] at q
  by_cases c : o = n
  · rw [c, e, hv, Xi_same Xi_rg, ← c]; exact hW o ho q
  · rw [e, Xi_ne (by omega)]; exact hW o ho q
theorem nm_b {l : List rec} {S T : sS} {r : Nat} (h : FR l S T) (e : kdis l [(979, 980), (942, 943)] = true) (hn : nM T r) : nM S r := by
  unfold nM at *
  rw [(h.smk e).x 979 rfl, (h.smk e).x 942 rfl] at hn
  exact hn
