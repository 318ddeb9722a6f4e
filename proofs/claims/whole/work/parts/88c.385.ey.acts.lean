section
/-! acts and the page, as they are called -/
def GOODC (S : sS) (a n : Int) : Prop := (0 ≤ a ∧ a < Xi S 5 8) ∧ ((Xi S 19 a.toNat = -1 ∧ n = -1) ∨ (Xi S 19 a.toNat = -2 ∧ 0 ≤ n ∧ n ≤ 5) ∨ (0 ≤ Xi S 19 a.toNat ∧ (0 ≤ n ∧ n < Xi S 5 2) ∧ isK S (Xi S 21 n.toNat) (Xi S 19 a.toNat) ≠ 0))
def AXC (S T : sS) (a n z : Int) : Prop := (GOODC S a n → (T, z) = ttC S a n) ∧ (¬ GOODC S a n → z = -1 ∧ T = S)

abbrev Q_rs_outs__q (S : sS) : pst := fun r S1 => S = S1 ∧ (∃ z : Int, r = some (iv z) ∧ (0 ≤ z ∧ z ≤ 2000) ∧ (z = Xi S 900 4))
set_option maxRecDepth 100000 in
theorem t_rs_outs__q {S : sS} (hH : HI S) (d : Nat) : Mt lay0 (d + 1) m_rs_outs [.ref 0] S (Q_rs_outs__q S) := by
  refine Mt_R rfl rfl ?_
  have w1 : 0 ≤ Xi S 900 4 ∧ Xi S 900 4 ≤ 2000 := hH.c _ _
  refine l_aload_n rfl rfl ?_
  refine l_gfr rfl rfl rfl rfl rfl (hH.r 0 7 900 rfl) ?_
  refine l_gfi rfl rfl rfl rfl rfl ?_
  refine l_ireturn rfl rfl ?_
  exact ⟨rfl, _, rfl, ⟨by omega, by omega⟩, (by omega)⟩
abbrev Q_rs_out__q (S : sS) (i : Int) : pst := fun r S1 => S = S1 ∧ (∃ z : Int, r = some (iv z) ∧ (-1 ≤ z ∧ z ≤ 255) ∧ (((i < 0 ∨ Xi S 900 4 ≤ i) → z = -1) ∧ (0 ≤ i → i < Xi S 900 4 → z = Xi S 901 i.toNat % 256)))
set_option maxRecDepth 100000 in
theorem t_rs_out__q {S : sS} (hH : HI S) (i : Int) (hi : -2147483648 ≤ i ∧ i ≤ 2147483647) (d : Nat) : Mt lay0 (d + 1) m_rs_out [.ref 0, iv i] S (Q_rs_out__q S i) := by
  refine Mt_R rfl rfl ?_
  have w1 : 0 ≤ Xi S 900 4 ∧ Xi S 900 4 ≤ 2000 := hH.c _ _
  refine l_iload_n rfl rfl ?_
  refine l_if_lt rfl rfl (by unfold rg; omega) (fun w2 => ?_) (fun w3 => ?_)
  · refine l_iconst rfl ?_
    refine l_ireturn rfl rfl ?_
    exact ⟨rfl, _, rfl, ⟨by omega, by omega⟩, (by omega)⟩
  · refine l_iload_n rfl rfl ?_
    refine l_aload_n rfl rfl ?_
    refine l_gfr rfl rfl rfl rfl rfl (hH.r 0 7 900 rfl) ?_
    refine l_gfi rfl rfl rfl rfl rfl ?_
    refine l_icmp_ge rfl rfl (by unfold rg; omega) (by unfold rg; omega) (fun w4 => ?_) (fun w5 => ?_)
    · refine l_iconst rfl ?_
      refine l_ireturn rfl rfl ?_
      exact ⟨rfl, _, rfl, ⟨by omega, by omega⟩, (by omega)⟩
    · refine l_aload_n rfl rfl ?_
      refine l_gfr rfl rfl rfl rfl rfl (hH.r 0 7 900 rfl) ?_
      refine l_gfr rfl rfl rfl rfl rfl (hH.r 900 3 901 rfl) ?_
      refine l_iload_n rfl rfl ?_
      refine l_baload (n := 2000) rfl rfl rfl (by decide) (by omega) (by omega) (by unfold rg; omega) ?_
      have w6 : -128 ≤ (Xi S 901 ((i).toNat)) ∧ (Xi S 901 ((i).toNat)) ≤ 127 := hH.c _ _
      refine l_sipush rfl rfl ?_
      refine l_iand255 rfl (by unfold rg; omega) ?_
      refine l_goto rfl rfl ?_
      refine l_ireturn rfl rfl ?_
      exact ⟨rfl, _, rfl, ⟨by omega, by omega⟩, (by omega)⟩
def md_tu_empty__q : List rec := [(900, 901, 4, 5)]
abbrev Q_tu_empty__q (S : sS) : pst := fun r S1 => HI S1 ∧ FR md_tu_empty__q S S1 ∧ (r = none ∧ (Xi S1 900 4 = 0))
set_option maxRecDepth 100000 in
theorem t_tu_empty__q {S : sS} (hH : HI S) (d : Nat) : Mt lay0 (d + 1) m_tu_empty [.ref 900] S (Q_tu_empty__q S) := by
  refine Mt_R rfl rfl ?_
  have hF : FR md_tu_empty__q S S := FR.rf
  refine l_aload_n rfl rfl ?_
  refine l_iconst rfl ?_
  refine l_pfi rfl rfl rfl rfl ?_
  obtain ⟨U1, eU1⟩ : ∃ T : sS, T = uI S 900 4 (Int32.ofInt 0) := ⟨_, rfl⟩
  rw [← eU1]
  have hHU1 : HI U1 := by rw [eU1]; exact HI_w hH (show 0 ≤ 0 by omega) (show 0 ≤ 2000 by omega)
  have hFU1 : FR md_tu_empty__q S U1 := by rw [eU1]; exact FR.wI hF (mdf_i (r := (900, 901, 4, 5)) (List.mem_of_getElem? (i := 0) rfl) (inR_i (by omega) (by omega) (by omega) (by omega)))
  have w1 : Xi U1 900 4 = 0 := by rw [eU1]; exact Xi_same (by unfold rg; omega)
  refine l_return rfl rfl ?_
  have w2 : 0 ≤ Xi U1 900 4 ∧ Xi U1 900 4 ≤ 2000 := hHU1.c _ _
  exact ⟨hHU1, hFU1, rfl, (by omega)⟩
def md_rs_clear__q : List rec := [(900, 901, 4, 5)]
abbrev Q_rs_clear__q (S : sS) : pst := fun r S1 => HI S1 ∧ FR md_rs_clear__q S S1 ∧ (∃ z : Int, r = some (iv z) ∧ (0 ≤ z ∧ z ≤ 2000) ∧ (z = Xi S 900 4 ∧ Xi S1 900 4 = 0))
set_option maxRecDepth 100000 in
theorem t_rs_clear__q {S : sS} (hH : HI S) (d : Nat) : Mt lay0 (d + 2) m_rs_clear [.ref 0] S (Q_rs_clear__q S) := by
  refine Mt_R rfl rfl ?_
  have hF : FR md_rs_clear__q S S := FR.rf
  have w1 : 0 ≤ Xi S 900 4 ∧ Xi S 900 4 ≤ 2000 := hH.c _ _
  refine l_aload_n rfl rfl ?_
  refine l_gfr rfl rfl rfl rfl rfl (hH.r 0 7 900 rfl) ?_
  refine l_gfi rfl rfl rfl rfl rfl ?_
  refine l_istore_n rfl rfl rfl ?_
  refine l_aload_n rfl rfl ?_
  refine l_gfr rfl rfl rfl rfl rfl (hH.r 0 7 900 rfl) ?_
  refine l_callV rfl rfl rfl (t_tu_empty__q hH _) ?_
  rintro _ T1 ⟨hHT1, w4, rfl, w2⟩
  have hFT1 : FR md_rs_clear__q S T1 := FR.tr hF w4 rfl
  show Rl _ _ _ _ _ [] _ _
  refine l_iload_n rfl rfl ?_
  refine l_ireturn rfl rfl ?_
  have w5 : 0 ≤ Xi T1 900 4 ∧ Xi T1 900 4 ≤ 2000 := hHT1.c _ _
  exact ⟨hHT1, hFT1, _, rfl, ⟨by omega, by omega⟩, (by omega)⟩
abbrev Q_mo_outs__q (S : sS) : pst := fun r S1 => S = S1 ∧ (∃ z : Int, r = some (iv z) ∧ (0 ≤ z ∧ z ≤ 2000) ∧ (z = Xi S 904 156))
set_option maxRecDepth 100000 in
theorem t_mo_outs__q {S : sS} (hH : HI S) (d : Nat) : Mt lay0 (d + 1) m_mo_outs [.ref 904] S (Q_mo_outs__q S) := by
  refine Mt_R rfl rfl ?_
  have w1 : 0 ≤ Xi S 904 156 ∧ Xi S 904 156 ≤ 2000 := hH.c _ _
  refine l_aload_n rfl rfl ?_
  refine l_gfi rfl rfl rfl rfl rfl ?_
  refine l_ireturn rfl rfl ?_
  exact ⟨rfl, _, rfl, ⟨by omega, by omega⟩, (by omega)⟩
abbrev Q_mo_out__q (S : sS) (i : Int) : pst := fun r S1 => S = S1 ∧ (∃ z : Int, r = some (iv z) ∧ (-1 ≤ z ∧ z ≤ 255) ∧ (((i < 0 ∨ Xi S 904 156 ≤ i) → z = -1) ∧ (0 ≤ i → i < Xi S 904 156 → z = Xi S 993 i.toNat % 256)))
set_option maxRecDepth 100000 in
theorem t_mo_out__q {S : sS} (hH : HI S) (i : Int) (hi : -2147483648 ≤ i ∧ i ≤ 2147483647) (d : Nat) : Mt lay0 (d + 2) m_mo_out [.ref 904, iv i] S (Q_mo_out__q S i) := by
  refine Mt_R rfl rfl ?_
  have w1 : 0 ≤ Xi S 904 156 ∧ Xi S 904 156 ≤ 2000 := hH.c _ _
  refine l_iload_n rfl rfl ?_
  refine l_iconst rfl ?_
  refine l_aload_n rfl rfl ?_
  refine l_gfi rfl rfl rfl rfl rfl ?_
  refine l_iconst rfl ?_
  refine l_isub rfl ?_
  refine l_callS rfl rfl (by decide) rfl (t_mo_in hH i 0 ((Xi S 904 156) - 1) ⟨by omega, by omega⟩ ⟨by omega, by omega⟩ ⟨by omega, by omega⟩ _) ?_
  rintro _ _ ⟨rfl, z3, rfl, w3, w2⟩
  show Rl _ _ _ _ _ [iv z3] _ _
  refine l_if_eq rfl rfl (by unfold rg; omega) (fun w4 => ?_) (fun w5 => ?_)
  · refine l_iconst rfl ?_
    refine l_ireturn rfl rfl ?_
    exact ⟨rfl, _, rfl, ⟨by omega, by omega⟩, (by omega)⟩
  · refine l_aload_n rfl rfl ?_
    refine l_gfr rfl rfl rfl rfl rfl (hH.r 904 155 993 rfl) ?_
    refine l_iload_n rfl rfl ?_
    refine l_baload (n := 2000) rfl rfl rfl (by decide) (by omega) (by omega) (by unfold rg; omega) ?_
    have w6 : -128 ≤ (Xi S 993 ((i).toNat)) ∧ (Xi S 993 ((i).toNat)) ≤ 127 := hH.c _ _
    refine l_sipush rfl rfl ?_
    refine l_iand255 rfl (by unfold rg; omega) ?_
    refine l_goto rfl rfl ?_
    refine l_ireturn rfl rfl ?_
    exact ⟨rfl, _, rfl, ⟨by omega, by omega⟩, (by omega)⟩
def md_rs_act__q : List rec := [(22, 23, 0, 100000), (23, 24, 0, 100000), (25, 65, 0, 100000), (66, 106, 0, 100000), (107, 147, 0, 100000), (148, 188, 0, 100000), (189, 195, 0, 100000), (900, 901, 4, 5), (900, 901, 5, 6), (900, 901, 6, 7), (901, 902, 0, 100000), (997, 1005, 0, 100000), (1006, 1014, 0, 100000)]
abbrev Q_rs_act__q (S : sS) (action : Int) (noun : Int) : pst := fun r S1 => HI S1 ∧ FR md_rs_act__q S S1 ∧ (∃ z : Int, r = some (iv z) ∧ (-1 ≤ z ∧ z ≤ 5) ∧ (TX S1) ∧ (AXC S S1 action noun z))
set_option maxRecDepth 100000 in
theorem t_rs_act__q {S : sS} (hH : HI S) (action : Int) (noun : Int) (haction : -2147483648 ≤ action ∧ action ≤ 2147483647) (hnoun : -2147483648 ≤ noun ∧ noun ≤ 2147483647) (hX : TX S) (hD : DEF S) (hR : RUL S) (hO : ORD S) (hA : AK S) (cw : CW S) (d : Nat) : Mt lay0 (d + 58) m_rs_act [.ref 0, iv action, iv noun] S (Q_rs_act__q S action noun) := by
  refine Mt_R rfl rfl ?_
  have hF : FR md_rs_act__q S S := FR.rf
  have C102 : ∀  (v4 : Int), (0 ≤ v4 ∧ v4 ≤ 1) → (v4 = 1 → -1 ≤ noun ∧ noun ≤ 23) → (v4 = 1 → Xi S 19 action.toNat ≠ -1 → 0 ≤ noun) → (v4 = 1 → Xi S 19 action.toNat = -2 → noun ≤ 5) → (0 ≤ action ∧ action ≤ 11) → ((v4 = 1 → GOODC S action noun) ∧ (v4 = 0 → ¬ GOODC S action noun)) → Rl lay0 (d + 57) m_rs_act 102 [(0, .ref 0), (1, iv action), (2, iv noun), (4, iv v4)] [] S (Q_rs_act__q S action noun) := by
    intro v4 w1 w2 w3 w4 w5 g102
    refine l_iload rfl rfl ?_
    refine l_if_eq rfl rfl (by unfold rg; omega) (fun w6 => ?_) (fun w7 => ?_)
    · refine l_iconst rfl ?_
      refine l_ireturn rfl rfl ?_
      exact ⟨hH, hF, _, rfl, ⟨by omega, by omega⟩, (by first | assumption | exact (by first | assumption | exact (by assumption : WI S).2.1 : TX S)), (by first | (have t := e113; exact ⟨fun _ => e113, fun g => absurd (g102.1 (by omega)) g⟩) | (have t := g102; exact ⟨fun g => absurd g (g102.2 (by omega)), fun _ => ⟨rfl, rfl⟩⟩) | exact ⟨fun g => by have := g.1; exfalso; omega, fun _ => ⟨rfl, rfl⟩⟩)⟩
    · refine l_aload_n rfl rfl ?_
      refine l_gfr rfl rfl rfl rfl rfl (hH.r 0 7 900 rfl) ?_
      refine l_iload_n rfl rfl ?_
      refine l_iload_n rfl rfl ?_
      refine l_callV rfl rfl rfl (t_tu_takeTurn__w hH action noun ⟨by omega, by omega⟩ ⟨by omega, by omega⟩ (by first | assumption | omega) (by first | assumption | omega) (by first | assumption | exact (by first | assumption | exact (by assumption : WI S).2.1 : TX S)) (by first | assumption | exact (DEF_FR hH hF rfl rfl (by assumption : DEF S))) (by first | assumption | exact (RUL_FR hH hF rfl rfl (by assumption : RUL S))) (by first | assumption | exact (ORD_FR hF rfl (by assumption : ORD S))) (by first | assumption | exact (AK_FR hF rfl (by assumption : AK S))) (by first | assumption | omega) _) ?_
      rintro _ T1 ⟨hHT1, w10, z9, rfl, w9, w8, e113⟩
      have hFT1 : FR md_rs_act__q S T1 := FR.tr hF w10 rfl
      show Rl _ _ _ _ _ [iv z9] _ _
      refine l_goto rfl rfl ?_
      refine l_ireturn rfl rfl ?_
      exact ⟨hHT1, hFT1, _, rfl, ⟨by omega, by omega⟩, (by first | assumption | exact (by first | assumption | exact (by assumption : WI T1).2.1 : TX T1)), (by first | (have t := e113; exact ⟨fun _ => e113, fun g => absurd (g102.1 (by omega)) g⟩) | (have t := g102; exact ⟨fun g => absurd g (g102.2 (by omega)), fun _ => ⟨rfl, rfl⟩⟩) | exact ⟨fun g => by have := g.1; exfalso; omega, fun _ => ⟨rfl, rfl⟩⟩)⟩
  refine l_iload_n rfl rfl ?_
  refine l_if_lt rfl rfl (by unfold rg; omega) (fun w11 => ?_) (fun w12 => ?_)
  · refine l_iconst rfl ?_
    refine l_ireturn rfl rfl ?_
    exact ⟨hH, hF, _, rfl, ⟨by omega, by omega⟩, (by first | assumption | exact (by first | assumption | exact (by assumption : WI S).2.1 : TX S)), (by first | (have t := e113; exact ⟨fun _ => e113, fun g => absurd (g102.1 (by omega)) g⟩) | (have t := g102; exact ⟨fun g => absurd g (g102.2 (by omega)), fun _ => ⟨rfl, rfl⟩⟩) | exact ⟨fun g => by have := g.1; exfalso; omega, fun _ => ⟨rfl, rfl⟩⟩)⟩
  · refine l_iload_n rfl rfl ?_
    refine l_aload_n rfl rfl ?_
    refine l_gfr rfl rfl rfl rfl rfl (hH.r 0 0 1 rfl) ?_
    refine l_bipush rfl rfl ?_
    refine l_callV rfl rfl rfl (t_vo_countOf hH 8 ⟨by omega, by omega⟩ _) ?_
    rintro _ _ ⟨rfl, z16, rfl, w16, w13, w14, w15⟩
    have w17 : z16 = Xi S 5 8 ∧ 0 ≤ Xi S 5 8 ∧ Xi S 5 8 ≤ 12 := ⟨(w13 (by omega) (by omega)).1, hH.c 5 8⟩
    clear w13 w14 w15
    show Rl _ _ _ _ _ [iv z16, iv action] _ _
    refine l_icmp_lt rfl rfl (by unfold rg; omega) (by unfold rg; omega) (fun w18 => ?_) (fun w19 => ?_)
    · refine l_aload_n rfl rfl ?_
      refine l_gfr rfl rfl rfl rfl rfl (hH.r 0 0 1 rfl) ?_
      refine l_gfr rfl rfl rfl rfl rfl (hH.r 1 18 19 rfl) ?_
      refine l_iload_n rfl rfl ?_
      refine l_iaload (n := 12) rfl rfl (by omega) (by omega) (by unfold rg; omega) ?_
      have w20 : -2 ≤ (Xi S 19 ((action).toNat)) ∧ (Xi S 19 ((action).toNat)) ≤ 15 := hH.c _ _
      refine l_istore_n rfl rfl rfl ?_
      refine l_iload_n rfl rfl ?_
      refine l_iconst rfl ?_
      refine l_icmp_ne rfl rfl (by unfold rg; omega) (by unfold rg; omega) (fun w21 => ?_) (fun w22 => ?_)
      · refine l_iload_n rfl rfl ?_
        refine l_bipush rfl rfl ?_
        refine l_icmp_ne rfl rfl (by unfold rg; omega) (by unfold rg; omega) (fun w23 => ?_) (fun w24 => ?_)
        · refine l_aload_n rfl rfl ?_
          refine l_iload_n rfl rfl ?_
          have w25 : 0 ≤ Xi S 5 2 ∧ Xi S 5 2 ≤ 24 := hH.c _ _
          refine l_callV rfl rfl rfl (t_rs_isObject__q hH noun ⟨by omega, by omega⟩ _) ?_
          rintro _ _ ⟨rfl, z28, rfl, w28, w26, w27⟩
          show Rl _ _ _ _ _ [iv z28] _ _
          refine l_if_eq rfl rfl (by unfold rg; omega) (fun w29 => ?_) (fun w30 => ?_)
          · refine l_iconst rfl ?_
            refine l_istore rfl rfl rfl ?_
            exact Rl_weak (C102 (0) (by omega) (by omega) (by omega) (by omega) (by omega) (by first | (have t := q89; exact ⟨fun q => ⟨by omega, Or.inr (Or.inr ⟨by omega, by omega, by rw [← q89]; omega⟩)⟩, fun q g => by obtain ⟨_, g1⟩ := g; rcases g1 with g1 | g1 | g1 <;> first | omega | (rw [← q89] at g1; omega)⟩) | exact ⟨fun q => absurd q (by omega), fun _ g => by obtain ⟨_, g1⟩ := g; omega⟩ | exact ⟨fun _ => ⟨by omega, by omega⟩, fun q => absurd q (by omega)⟩)) (And.intro rfl (And.intro rfl (And.intro rfl (And.intro rfl (True.intro)))))
          · refine l_aload_n rfl rfl ?_
            refine l_gfr rfl rfl rfl rfl rfl (hH.r 0 1 20 rfl) ?_
            refine l_iload_n rfl rfl ?_
            refine l_iload_n rfl rfl ?_
            refine l_callV rfl rfl rfl (t_wo_isA hH noun (Xi S 19 ((action).toNat)) ⟨by omega, by omega⟩ ⟨by omega, by omega⟩ _) ?_
            rintro _ _ ⟨rfl, z31, rfl, w31, q89⟩
            show Rl _ _ _ _ _ [iv z31] _ _
            refine l_if_eq rfl rfl (by unfold rg; omega) (fun w32 => ?_) (fun w33 => ?_)
            · refine l_iconst rfl ?_
              refine l_istore rfl rfl rfl ?_
              exact Rl_weak (C102 (0) (by omega) (by omega) (by omega) (by omega) (by omega) (by first | (have t := q89; exact ⟨fun q => ⟨by omega, Or.inr (Or.inr ⟨by omega, by omega, by rw [← q89]; omega⟩)⟩, fun q g => by obtain ⟨_, g1⟩ := g; rcases g1 with g1 | g1 | g1 <;> first | omega | (rw [← q89] at g1; omega)⟩) | exact ⟨fun q => absurd q (by omega), fun _ g => by obtain ⟨_, g1⟩ := g; omega⟩ | exact ⟨fun _ => ⟨by omega, by omega⟩, fun q => absurd q (by omega)⟩)) (And.intro rfl (And.intro rfl (And.intro rfl (And.intro rfl (True.intro)))))
            · refine l_iconst rfl ?_
              refine l_goto rfl rfl ?_
              refine l_istore rfl rfl rfl ?_
              exact Rl_weak (C102 (1) (by omega) (by omega) (by omega) (by omega) (by omega) (by first | (have t := q89; exact ⟨fun q => ⟨by omega, Or.inr (Or.inr ⟨by omega, by omega, by rw [← q89]; omega⟩)⟩, fun q g => by obtain ⟨_, g1⟩ := g; rcases g1 with g1 | g1 | g1 <;> first | omega | (rw [← q89] at g1; omega)⟩) | exact ⟨fun q => absurd q (by omega), fun _ g => by obtain ⟨_, g1⟩ := g; omega⟩ | exact ⟨fun _ => ⟨by omega, by omega⟩, fun q => absurd q (by omega)⟩)) (And.intro rfl (And.intro rfl (And.intro rfl (And.intro rfl (True.intro)))))
        · refine l_iload_n rfl rfl ?_
          refine l_if_lt rfl rfl (by unfold rg; omega) (fun w34 => ?_) (fun w35 => ?_)
          · refine l_iconst rfl ?_
            refine l_istore rfl rfl rfl ?_
            refine l_goto rfl rfl ?_
            exact Rl_weak (C102 (0) (by omega) (by omega) (by omega) (by omega) (by omega) (by first | (have t := q89; exact ⟨fun q => ⟨by omega, Or.inr (Or.inr ⟨by omega, by omega, by rw [← q89]; omega⟩)⟩, fun q g => by obtain ⟨_, g1⟩ := g; rcases g1 with g1 | g1 | g1 <;> first | omega | (rw [← q89] at g1; omega)⟩) | exact ⟨fun q => absurd q (by omega), fun _ g => by obtain ⟨_, g1⟩ := g; omega⟩ | exact ⟨fun _ => ⟨by omega, by omega⟩, fun q => absurd q (by omega)⟩)) (And.intro rfl (And.intro rfl (And.intro rfl (And.intro rfl (True.intro)))))
          · refine l_iload_n rfl rfl ?_
            refine l_bipush rfl rfl ?_
            refine l_icmp_ge rfl rfl (by unfold rg; omega) (by unfold rg; omega) (fun w36 => ?_) (fun w37 => ?_)
            · refine l_iconst rfl ?_
              refine l_istore rfl rfl rfl ?_
              refine l_goto rfl rfl ?_
              exact Rl_weak (C102 (0) (by omega) (by omega) (by omega) (by omega) (by omega) (by first | (have t := q89; exact ⟨fun q => ⟨by omega, Or.inr (Or.inr ⟨by omega, by omega, by rw [← q89]; omega⟩)⟩, fun q g => by obtain ⟨_, g1⟩ := g; rcases g1 with g1 | g1 | g1 <;> first | omega | (rw [← q89] at g1; omega)⟩) | exact ⟨fun q => absurd q (by omega), fun _ g => by obtain ⟨_, g1⟩ := g; omega⟩ | exact ⟨fun _ => ⟨by omega, by omega⟩, fun q => absurd q (by omega)⟩)) (And.intro rfl (And.intro rfl (And.intro rfl (And.intro rfl (True.intro)))))
            · refine l_iconst rfl ?_
              refine l_goto rfl rfl ?_
              refine l_istore rfl rfl rfl ?_
              refine l_goto rfl rfl ?_
              exact Rl_weak (C102 (1) (by omega) (by omega) (by omega) (by omega) (by omega) (by first | (have t := q89; exact ⟨fun q => ⟨by omega, Or.inr (Or.inr ⟨by omega, by omega, by rw [← q89]; omega⟩)⟩, fun q g => by obtain ⟨_, g1⟩ := g; rcases g1 with g1 | g1 | g1 <;> first | omega | (rw [← q89] at g1; omega)⟩) | exact ⟨fun q => absurd q (by omega), fun _ g => by obtain ⟨_, g1⟩ := g; omega⟩ | exact ⟨fun _ => ⟨by omega, by omega⟩, fun q => absurd q (by omega)⟩)) (And.intro rfl (And.intro rfl (And.intro rfl (And.intro rfl (True.intro)))))
      · refine l_iload_n rfl rfl ?_
        refine l_iconst rfl ?_
        refine l_icmp_ne rfl rfl (by unfold rg; omega) (by unfold rg; omega) (fun w38 => ?_) (fun w39 => ?_)
        · refine l_iconst rfl ?_
          refine l_istore rfl rfl rfl ?_
          refine l_goto rfl rfl ?_
          exact Rl_weak (C102 (0) (by omega) (by omega) (by omega) (by omega) (by omega) (by first | (have t := q89; exact ⟨fun q => ⟨by omega, Or.inr (Or.inr ⟨by omega, by omega, by rw [← q89]; omega⟩)⟩, fun q g => by obtain ⟨_, g1⟩ := g; rcases g1 with g1 | g1 | g1 <;> first | omega | (rw [← q89] at g1; omega)⟩) | exact ⟨fun q => absurd q (by omega), fun _ g => by obtain ⟨_, g1⟩ := g; omega⟩ | exact ⟨fun _ => ⟨by omega, by omega⟩, fun q => absurd q (by omega)⟩)) (And.intro rfl (And.intro rfl (And.intro rfl (And.intro rfl (True.intro)))))
        · refine l_iconst rfl ?_
          refine l_goto rfl rfl ?_
          refine l_istore rfl rfl rfl ?_
          refine l_goto rfl rfl ?_
          exact Rl_weak (C102 (1) (by omega) (by omega) (by omega) (by omega) (by omega) (by first | (have t := q89; exact ⟨fun q => ⟨by omega, Or.inr (Or.inr ⟨by omega, by omega, by rw [← q89]; omega⟩)⟩, fun q g => by obtain ⟨_, g1⟩ := g; rcases g1 with g1 | g1 | g1 <;> first | omega | (rw [← q89] at g1; omega)⟩) | exact ⟨fun q => absurd q (by omega), fun _ g => by obtain ⟨_, g1⟩ := g; omega⟩ | exact ⟨fun _ => ⟨by omega, by omega⟩, fun q => absurd q (by omega)⟩)) (And.intro rfl (And.intro rfl (And.intro rfl (And.intro rfl (True.intro)))))
    · refine l_iconst rfl ?_
      refine l_ireturn rfl rfl ?_
      exact ⟨hH, hF, _, rfl, ⟨by omega, by omega⟩, (by first | assumption | exact (by first | assumption | exact (by assumption : WI S).2.1 : TX S)), (by first | (have t := e113; exact ⟨fun _ => e113, fun g => absurd (g102.1 (by omega)) g⟩) | (have t := g102; exact ⟨fun g => absurd g (g102.2 (by omega)), fun _ => ⟨rfl, rfl⟩⟩) | exact ⟨fun g => by have := g.1; exfalso; omega, fun _ => ⟨rfl, rfl⟩⟩)⟩
/-! acts and the page: alike in both -/
theorem gooda_c {U S : sS} {a n : Int} (h : RLB U S) : GOODC U a n ↔ GOODA S a n := by
  have ct := h.1.2.2.1
  have va := h.1.2.2.2.2.2.2.2.2.1.2
  have ob := h.1.2.2.2.2.2.2.2.2.2.1.1
  have kn := h.1.2.2.2.1
  have c8 := ct.2.2.2.2.2.2.2.2
  have c2 := ct.2.2.1
  constructor
  · rintro ⟨g1, g2⟩
    have v := va a.toNat (by omega)
    refine ⟨by omega, ?_⟩
    rcases g2 with g | g | ⟨g1', g2, g3⟩
    · left; omega
    · right; left; omega
    · right; right
      have o := ob.2 n.toNat (by omega)
      refine ⟨by omega, by omega, ?_⟩
      rw [o.1, v.1, isK_bl kn o.2.2] at g3
      exact g3
  · rintro ⟨g1, g2⟩
    have v := va a.toNat (by omega)
    refine ⟨by omega, ?_⟩
    rcases g2 with g | g | ⟨g1', g2, g3⟩
    · left; omega
    · right; left; omega
    · right; right
      have o := ob.2 n.toNat (by omega)
      refine ⟨by omega, by omega, ?_⟩
      rw [o.1, v.1, isK_bl kn o.2.2]
      exact g3
/-- a turn, as it is called -/
theorem act_sm {U V S T : sS} {a n z y : Int} (h : RTB U S) (c : AXC U V a n z) (r : ATX S T a n y) : z = y ∧ RTB V T := by
  have g := gooda_c (a := a) (n := n) h.1
  by_cases q : GOODA S a n
  · obtain ⟨W, w1, w2, _⟩ := r.1 q U h
    have e := c.1 (g.2 q)
    rw [w1] at e
    have e1 := congrArg Prod.fst e
    have e2 := congrArg Prod.snd e
    have e1 : V = W := e1
    have e2 : z = y := e2
    rw [e1]
    exact ⟨e2, w2⟩
  · obtain ⟨c1, c2⟩ := c.2 (fun x => q (g.1 x))
    obtain ⟨r1, r2⟩ := r.2 q
    rw [c2, r2]
    exact ⟨by rw [c1, r1], h⟩
theorem outs_sm {U S : sS} {z y : Int} (h : RTB U S) (c : z = Xi U 900 4) (r : y = Xi S 904 156) : z = y := by rw [c, r]; exact h.2.1.1.1
theorem out_sm {U S : sS} {i z y : Int} (h : RTB U S) (c : ((i < 0 ∨ Xi U 900 4 ≤ i) → z = -1) ∧ (0 ≤ i → i < Xi U 900 4 → z = Xi U 901 i.toNat % 256)) (r : ((i < 0 ∨ Xi S 904 156 ≤ i) → y = -1) ∧ (0 ≤ i → i < Xi S 904 156 → y = Xi S 993 i.toNat % 256)) : z = y := by
  have e := h.2.1
  by_cases q : 0 ≤ i ∧ i < Xi U 900 4
  · rw [c.2 q.1 q.2, r.2 q.1 (by have := e.1.1; omega), e.2 i.toNat (by omega)]
  · rw [c.1 (by omega), r.1 (by have := e.1.1; omega)]
theorem clear_sm {U V S T : sS} {z y : Int} (h : RTB U S) (c : z = Xi U 900 4 ∧ Xi V 900 4 = 0) (F : FR [(900, 901, 4, 5)] U V) (r : y = Xi S 904 156 ∧ Xi T 904 156 = 0) (G : FR [(904, 905, 156, 157)] S T) : z = y ∧ RTB V T := by
  obtain ⟨h1, h2, h3, h4⟩ := h
  refine ⟨by rw [c.1, r.1]; exact h2.1.1, rlb_z h1 (F.kep rfl) (G.kep rfl), ⟨⟨by rw [c.2, r.2], by rw [c.2]; omega, by rw [c.2]; omega⟩, fun j hj => by rw [c.2] at hj; omega⟩, by rw [G.x 904 157 rfl]; exact h3, h4.k (F.kep rfl) (G.kep rfl)⟩
end
section
/-! NAMES as they are asked for: words of thirteen letters too -/
def nbX (len : Nat → Int) (ch : Nat → Int → Int) (g : Int) : Nat → Nat → Int → Int
  | 0, _, _ => -1
  | m + 1, j, l => if l < len j then ch j l else if l - len j = 0 then (if m = 0 then (if g ≠ 0 then 115 else -1) else 32) else nbX len ch g m (j + 1) (l - len j - 1)
def byN (S : sS) (lex k : Int) : Int := nbX (lnR S lex) (chlR S lex) (Xi S 916 lex.toNat) (Xi S 912 lex.toNat - 0).toNat (0 : Int).toNat k
section
variable {len : Nat → Int} {ch : Nat → Int → Int} {g n v l : Int}
theorem nbx_e {j : Nat} (h : n ≤ v) : nbX len ch g (n - v).toNat j l = -1 := by rw [show (n - v).toNat = 0 by omega]; rfl
theorem nbx_1 {z : Int} (hv : 0 ≤ v ∧ v < n) (h : l < len v.toNat) (hz : z = ch v.toNat l) : nbX len ch g (n - v).toNat v.toNat l = z := by
  rw [show (n - v).toNat = (n - (v + 1)).toNat + 1 by omega]; unfold nbX; rw [if_pos h, hz]
theorem nbx_2 (hv : 0 ≤ v ∧ v + 1 < n) (h : l = len v.toNat) : nbX len ch g (n - v).toNat v.toNat l = 32 := by
  rw [show (n - v).toNat = (n - (v + 1)).toNat + 1 by omega]; unfold nbX; rw [if_neg (by omega), if_pos (by omega), if_neg (by omega)]
theorem nbx_3 (hv : 0 ≤ v ∧ v + 1 = n) (h : l = len v.toNat) (hg : g = 0) : nbX len ch g (n - v).toNat v.toNat l = -1 := by
  rw [show (n - v).toNat = (n - (v + 1)).toNat + 1 by omega]; unfold nbX; rw [if_neg (by omega), if_pos (by omega), if_pos (by omega), if_neg (fun q => q hg)]
theorem nbx_5 (hv : 0 ≤ v ∧ v + 1 = n) (h : l = len v.toNat) (hg : g ≠ 0) : nbX len ch g (n - v).toNat v.toNat l = 115 := by
  rw [show (n - v).toNat = (n - (v + 1)).toNat + 1 by omega]; unfold nbX; rw [if_neg (by omega), if_pos (by omega), if_pos (by omega), if_pos hg]
theorem nbx_4 {m : Int} (hv : 0 ≤ v ∧ v < n) (h : len v.toNat < l) (hm : m = l - len v.toNat - 1) : nbX len ch g (n - v).toNat v.toNat l = nbX len ch g (n - (v + 1)).toNat (v + 1).toNat m := by
  rw [show (n - v).toNat = (n - (v + 1)).toNat + 1 by omega, show (v + 1).toNat = v.toNat + 1 by omega]
  conv => lhs; unfold nbX
  rw [if_neg (by omega), if_neg (by omega), hm]
theorem nbx_0 : ∀ (m j : Nat) (l : Int), nbX len ch 0 m j l = nbW len ch m j l
  | 0, _, _ => rfl
  | m + 1, j, l => by
    unfold nbX nbW
    rw [nbx_0 m (j + 1), if_neg (show ¬ ((0 : Int) ≠ 0) from fun q => q rfl)]
end
theorem nbx_c {len len2 : Nat → Int} {ch ch2 : Nat → Int → Int} {g : Int} (hg : g ≠ 0) : ∀ (m j : Nat) (l : Int), 0 ≤ l → (∀ t : Nat, j ≤ t → t < j + m → len t = len2 t ∧ 1 ≤ len2 t ∧ ∀ x : Int, 0 ≤ x → x < len2 t → ch t x = ch2 t x) → (len2 (j + m) = len (j + m) + 1 ∧ (∀ x : Int, 0 ≤ x → x < len (j + m) → ch (j + m) x = ch2 (j + m) x) ∧ ch2 (j + m) (len (j + m)) = 115) → nbX len ch g (m + 1) j l = nbW len2 ch2 (m + 1) j l
  | 0, j, l, hl, _, ⟨a1, a2, a3⟩ => by
    rw [Nat.add_zero] at a1 a2 a3
    unfold nbX nbW
    by_cases q : l < len j
    · rw [if_pos q, if_pos (by omega)]; exact a2 l hl q
    · rw [if_neg q]
      by_cases r : l - len j = 0
      · rw [if_pos r, if_pos rfl, if_pos hg, if_pos (by omega), show l = len j by omega]; exact a3.symm
      · rw [if_neg r, if_neg (by omega)]
        show (-1 : Int) = _
        split
        · rw [if_pos rfl]
        · rfl
  | m + 1, j, l, hl, h, a => by
    obtain ⟨b1, b2, b3⟩ := h j (Nat.le_refl _) (by omega)
    rw [nbX, nbW]
    by_cases q : l < len j
    · rw [if_pos q, if_pos (by omega)]; exact b3 l hl (by omega)
    · have q2 : ¬ l < len2 j := by omega
      rw [if_neg q, if_neg q2]
      by_cases r : l - len j = 0
      · have r2 : l - len2 j = 0 := by omega
        rw [if_pos r, if_pos r2, if_neg (by omega), if_neg (by omega)]
      · have r2 : ¬ l - len2 j = 0 := by omega
        rw [if_neg r, if_neg r2, b1]
        exact nbx_c hg m (j + 1) _ (by omega) (fun t h1 h2 => h t (by omega) (by omega)) (by rw [show j + 1 + m = j + (m + 1) by omega]; exact a)
/-- the class's bytes of an entry's words -/
theorem nbc_w {U S : sS} {i k : Nat} {l : Int} (us : USW U) (hi : (i : Int) < Xi U 1 3) (w : WE U S i k) (hl : 0 ≤ l) : nbC U (sg7 (Xi S 914 k)) (Xi S 915 k) l = nbW (fun t => ln7 (Xj U 2 (3 * i + t))) (fun t l => ch7 (Xj U 2 (3 * i + t)) l) (Xi S 912 k).toNat 0 l := by
  obtain ⟨e1, e2, e3, e4, _⟩ := w
  unfold nbC
  have ns : ∀ t : Nat, t < 3 * (Xi U 1 3).toNat → t / 3 ≠ i → Xj U 2 t = 0 ∨ Xi U 3 (t / 3) ≠ sg7 (Xi S 914 k) ∨ Xi U 4 (t / 3) ≠ Xi S 915 k := fun t h1 h2 => by
    by_cases q3 : Xi U 3 (t / 3) = sg7 (Xi S 914 k)
    · by_cases q4 : Xi U 4 (t / 3) = Xi S 915 k
      · exact absurd (us (t / 3) i (by omega) hi (q3.trans e1) (q4.trans e2)) h2
      · exact Or.inr (Or.inr q4)
    · exact Or.inr (Or.inl q3)
  have s := nbs_skip (U := U) (so := sg7 (Xi S 914 k)) (wh := Xi S 915 k) (l := l) hl (3 * i) (3 * (Xi U 1 3).toNat - 3 * i) 0 (fun t _ ht => ns t (by omega) (by omega))
  rw [show (3 * Xi U 1 3 - 0).toNat = 3 * i + (3 * (Xi U 1 3).toNat - 3 * i) by omega, s, Nat.zero_add]
  have u := nbs_w (U := U) (e := i) e1.symm e2.symm (Xi S 912 k).toNat 0 (3 * (Xi U 1 3).toNat - 3 * i) l hl (by omega) (by omega) (by omega) (fun t _ ht => by have := (e4 t (by omega)).2.1 (by omega); omega) (fun t h1 h2 => by
    by_cases q : t / 3 = i
    · left
      have z := (e4 (t - 3 * i) (by omega)).2.2 (by omega)
      rw [show 3 * i + (t - 3 * i) = t by omega] at z
      exact z
    · exact ns t (by omega) q)
  rw [if_pos rfl, Int.add_zero, Nat.add_zero] at u
  exact u
/-- thirteen letters -/
theorem w13 {w : Int} (h : 150094635296999121 ≤ w) (g : cd7 w) (m : w % 27 = 19) : (0 < w / 27 ∧ w / 27 < 27 ^ 12) ∧ ln7 w = 13 ∧ ln7 (w / 27) = 12 ∧ (∀ x : Int, 0 ≤ x → x < 12 → ch7 w x = ch7 (w / 27) x) ∧ ch7 w 12 = 115 := by
  have p13 : (27 : Int) ^ 13 = 4052555153018976267 := by decide
  have p12 : (27 : Int) ^ 12 = 150094635296999121 := by decide
  have p11 : (27 : Int) ^ 11 = 5559060566555523 := by decide
  have g2 := g.2
  rw [p13] at g2
  have l13 : ln7 w = 13 := ln7_i (by omega) (by unfold p27; rw [show (13 - 1 : Int).toNat = 12 by decide, p12]; exact h) (by unfold p27; rw [show (13 - 1 : Int).toNat = 12 by decide, p12]; omega)
  have l12 : ln7 (w / 27) = 12 := ln7_i (by omega) (by unfold p27; rw [show (12 - 1 : Int).toNat = 11 by decide, p11]; omega) (by unfold p27; rw [show (12 - 1 : Int).toNat = 11 by decide, p11]; omega)
  refine ⟨⟨by omega, by rw [p12]; omega⟩, l13, l12, fun x h0 h1 => ?_, ?_⟩
  · unfold ch7
    rw [l13, l12]
    unfold p27
    rw [show (13 - x - 1).toNat = (12 - x - 1).toNat + 1 by omega, Int.pow_succ, Int.mul_comm, ← Int.ediv_ediv_of_nonneg (by decide)]
  · unfold ch7
    rw [l13]
    unfold p27
    rw [show (13 - 12 - 1 : Int).toNat = 0 by decide, Int.pow_zero, Int.ediv_one, m]
    decide
/-- a byte of a name, in both -/
theorem nb_pt {U S : sS} {k : Nat} {l : Int} (a : RVO U S) (hk : (k : Int) < Xi S 904 15) (h10 : Xi S 914 k ≠ 10) (hl : 0 ≤ l) : byN S k l = nbC U (sg7 (Xi S 914 k)) (Xi S 915 k) l ∧ ∀ j : Nat, (j : Int) < Xi S 912 k → 0 < Xj S 913 (3 * k + j) ∧ Xj S 913 (3 * k + j) < 1152921504606846976 := by
  have e15 := a.1.1.1
  obtain ⟨i, hi, we⟩ := a.1.2.2.1 k (by omega)
  rw [nbc_w a.2.1 hi we hl]
  obtain ⟨e1, e2, e3, e4, e5, e6, e7⟩ := we
  have ek : ((k : Nat) : Int).toNat = k := by omega
  unfold byN
  rw [ek, show (Xi S 912 k - 0).toNat = (Xi S 912 k).toNat by omega, show (0 : Int).toNat = 0 from rfl]
  by_cases z : Xi S 916 k = 0
  · have W : ∀ j : Nat, (j : Int) < Xi S 912 k → wdC (Xj U 2 (3 * i + j)) ∧ Xj S 913 (3 * k + j) = cv (Xj U 2 (3 * i + j)) := fun j hj => ⟨⟨(e4 j (by omega)).2.1 hj, e7 z j (by omega)⟩, e5 z j hj⟩
    have p12 : (27 : Int) ^ 12 = 150094635296999121 := by decide
    refine ⟨?_, fun j hj => by rw [(W j hj).2]; exact ⟨cv_po (W j hj).1, (cv_rg (W j hj).1).2⟩⟩
    rw [z, nbx_0]
    refine nbw_c _ 0 _ hl (fun t _ ht => ?_)
    obtain ⟨⟨w1, w2⟩, w3⟩ := W t (by omega)
    obtain ⟨x1, x2, x3⟩ := ln_cv w1 (by rw [p12]; exact w2)
    refine ⟨by unfold lnR; rw [ek, w3]; exact x1, x3, fun x h0 h1 => by unfold chlR; rw [ek, w3]; exact ch_cv w1 (by rw [p12]; exact w2) h0 h1⟩
  · obtain ⟨f1, f2⟩ := e6 z
    rcases f2 with f2 | ⟨_, f2, f3⟩
    · exact absurd f2 h10
    have p12 : (27 : Int) ^ 12 = 150094635296999121 := by decide
    obtain ⟨m, hm⟩ : ∃ m : Nat, (Xi S 912 k).toNat = m + 1 := ⟨(Xi S 912 k).toNat - 1, by omega⟩
    rw [hm] at f1 f2 ⊢
    rw [show m + 1 - 1 = m by omega] at f1 f2
    obtain ⟨⟨y1, y2⟩, y3, y4, y5, y6⟩ := w13 f1 (e4 m (by omega)).1 f2
    have fm := (f3 m (by omega)).1
    rw [if_pos (by omega)] at fm
    have W : ∀ j : Nat, j < m → wdC (Xj U 2 (3 * i + j)) ∧ Xj S 913 (3 * k + j) = cv (Xj U 2 (3 * i + j)) := fun j hj => by
      obtain ⟨g1, g2⟩ := f3 j (by omega)
      rw [if_neg (by omega)] at g1
      exact ⟨⟨(e4 j (by omega)).2.1 (by omega), g2 (by omega)⟩, g1⟩
    obtain ⟨v1, v2, v3⟩ := ln_cv y1 y2
    refine ⟨nbx_c z m 0 l hl (fun t _ ht => ?_) ?_, fun j hj => ?_⟩
    · obtain ⟨⟨w1, w2⟩, w3⟩ := W t (by omega)
      obtain ⟨x1, x2, x3⟩ := ln_cv w1 (by rw [p12]; exact w2)
      exact ⟨by unfold lnR; rw [ek, w3]; exact x1, x3, fun x h0 h1 => by unfold chlR; rw [ek, w3]; exact ch_cv w1 (by rw [p12]; exact w2) h0 h1⟩
    · rw [Nat.zero_add]
      have eL : lnR S k m = 12 := by unfold lnR; rw [ek, fm, v1, y4]
      refine ⟨?_, fun x h0 h1 => ?_, ?_⟩
      · rw [eL]; exact y3
      · rw [eL] at h1
        show chlR S k m x = ch7 (Xj U 2 (3 * i + m)) x
        unfold chlR
        rw [ek, fm, ch_cv y1 y2 h0 (by rw [y4]; exact h1)]
        exact (y5 x h0 h1).symm
      · rw [eL]; exact y6
    · by_cases c : j = m
      · rw [c, fm]
        exact ⟨v2, (cv_rg ⟨y1, by rw [← p12]; exact y2⟩).2⟩
      · rw [(W j (by omega)).2]
        exact ⟨cv_po (W j (by omega)).1, (cv_rg (W j (by omega)).1).2⟩

abbrev Q_mo_byteOf__n (S : sS) (lex : Int) (k : Int) : pst := fun r S1 => S = S1 ∧ (∃ z : Int, r = some (iv z) ∧ (-2147483648 ≤ z ∧ z ≤ 2147483647) ∧ (z ≠ -1 → k ≤ 40) ∧ (z = byN S lex k))
set_option maxRecDepth 100000 in
theorem t_mo_byteOf__n {S : sS} (hH : HI S) (lex : Int) (k : Int) (hlex : 0 ≤ lex ∧ lex ≤ 299) (hk : 0 ≤ k ∧ k ≤ 2147483647) (hwd : ∀ j : Nat, (j : Int) < Xi S 912 lex.toNat → 0 < Xj S 913 (3 * lex.toNat + j) ∧ Xj S 913 (3 * lex.toNat + j) < 1152921504606846976) (d : Nat) : Mt lay0 (d + 2) m_mo_byteOf [.ref 904, iv lex, iv k] S (Q_mo_byteOf__n S lex k) := by
  refine Mt_R rfl rfl ?_
  have hl5 : ∀ j : Nat, (j : Int) < Xi S 912 lex.toNat → 1 ≤ l5 (Xj S 913 (3 * lex.toNat + j)) := fun j hj => (l5_d (hwd j hj).1 (hwd j hj).2).1.1
  have C5 : ∀ (n5 : Nat) (v3 : Int) (v4 : Int), (0 ≤ v3 ∧ v3 ≤ 2147483647) → (0 ≤ v4 ∧ v4 ≤ 3) → (0 ≤ v3) → (k ≤ v3 + 13 * v4) → (byN S lex k = nbX (lnR S lex) (chlR S lex) (Xi S 916 lex.toNat) (Xi S 912 lex.toNat - v4).toNat v4.toNat v3) → n5 = (4 - v4).toNat → Rl lay0 (d + 1) m_mo_byteOf 5 [(0, .ref 904), (1, iv lex), (3, iv v3), (4, iv v4)] [] S (Q_mo_byteOf__n S lex k) := by
    intro n5
    induction n5 using Nat.strongRecOn with
    | ind n5 ih5 =>
      intro v3 v4 w1 w2 w3 w4 f5 hm5
      have C19 : ∀ (n19 : Nat) (v3 : Int) (v4 : Int) (v5 : Int), (0 ≤ v3 ∧ v3 ≤ 2147483647) → (0 ≤ v4 ∧ v4 ≤ 2) → (0 ≤ v5 ∧ v5 ≤ 12) → (0 ≤ v3) → (k ≤ v3 + 13 * v4) → (v4 < 3) → (byN S lex k = nbX (lnR S lex) (chlR S lex) (Xi S 916 lex.toNat) (Xi S 912 lex.toNat - v4).toNat v4.toNat v3) → (v4 < Xi S 912 lex.toNat) → (v5 ≤ l5 (Xj S 913 (3 * lex.toNat + v4.toNat))) → ((4 - v4).toNat ≤ n5) → n19 = (13 - v5).toNat → Rl lay0 (d + 1) m_mo_byteOf 19 [(0, .ref 904), (1, iv lex), (3, iv v3), (4, iv v4), (5, iv v5)] [] S (Q_mo_byteOf__n S lex k) := by
        intro n19
        induction n19 using Nat.strongRecOn with
        | ind n19 ih19 =>
          intro v3 v4 v5 w5 w6 w7 w8 w9 w10 f19 w11 w12 w13 hm19
          refine l_aload_n rfl rfl ?_
          refine l_gfr rfl rfl rfl rfl rfl (hH.r 904 11 913 rfl) ?_
          refine l_iconst rfl ?_
          refine l_iload_n rfl rfl ?_
          refine l_imul rfl ?_
          refine l_iload rfl rfl ?_
          refine l_iadd rfl ?_
          refine l_laload (n := 900) rfl rfl (by omega) (by omega) (by unfold rg; omega) ?_
          have w14 : -9223372036854775808 ≤ (Xj S 913 ((((3 * lex) + v4)).toNat)) ∧ (Xj S 913 ((((3 * lex) + v4)).toNat)) < 9223372036854775808 := Xj_rg
          refine l_iload rfl rfl ?_
          refine l_callS rfl rfl (by decide) rfl (t_mo_letterOf__q hH (Xj S 913 ((((3 * lex) + v4)).toNat)) v5 ⟨by omega, by omega⟩ (by rw [show (3 * lex + v4).toNat = 3 * lex.toNat + v4.toNat by omega]; exact hwd v4.toNat (by omega)) _) ?_
          rintro _ _ ⟨rfl, z16, rfl, w16, w15, q32⟩
          show Rl _ _ _ _ _ [iv z16] _ _
          have Q32 : z16 = lR (Xj S 913 (3 * lex.toNat + v4.toNat)) v5 := by rw [q32, show (3 * lex + v4).toNat = 3 * lex.toNat + v4.toNat by omega]
          have P32 := lR_p (w := Xj S 913 (3 * lex.toNat + v4.toNat)) (k := v5)
          refine l_iconst rfl ?_
          refine l_icmp_eq rfl rfl (by unfold rg; omega) (by unfold rg; omega) (fun w17 => ?_) (fun w18 => ?_)
          · refine l_iload_n rfl rfl ?_
            refine l_iload rfl rfl ?_
            refine l_icmp_ge rfl rfl (by unfold rg; omega) (by unfold rg; omega) (fun w19 => ?_) (fun w20 => ?_)
            · refine l_iload_n rfl rfl ?_
              refine l_iload rfl rfl ?_
              refine l_isub rfl ?_
              refine l_istore_n rfl rfl rfl ?_
              refine l_iload rfl rfl ?_
              refine l_iconst rfl ?_
              refine l_iadd rfl ?_
              refine l_aload_n rfl rfl ?_
              refine l_gfr rfl rfl rfl rfl rfl (hH.r 904 10 912 rfl) ?_
              refine l_iload_n rfl rfl ?_
              refine l_iaload (n := 300) rfl rfl (by omega) (by omega) (by unfold rg; omega) ?_
              have w21 : 0 ≤ (Xi S 912 ((lex).toNat)) ∧ (Xi S 912 ((lex).toNat)) ≤ 3 := hH.c _ _
              refine l_icmp_ne rfl rfl (by unfold rg; omega) (by unfold rg; omega) (fun w22 => ?_) (fun w23 => ?_)
              · refine l_iconst rfl ?_
                refine l_istore rfl rfl rfl ?_
                refine l_iload_n rfl rfl ?_
                refine l_if_ne rfl rfl (by unfold rg; omega) (fun w24 => ?_) (fun w25 => ?_)
                · refine l_iinc rfl rfl rfl rfl ?_
                  refine l_iinc rfl rfl rfl rfl ?_
                  refine l_goto rfl rfl ?_
                  exact Rl_weak (ih5 _ (by omega) (((v3 - v5) + (-1))) ((v4 + 1)) (by omega) (by omega) (by omega) (by omega) (by first | (have t := f19; exact f19.trans (nbx_4 (by omega) (by show l5 _ < v3; omega) (by show _ = v3 - l5 _ - 1; omega))) | rfl) rfl) (And.intro rfl (And.intro rfl (And.intro rfl (And.intro rfl (True.intro)))))
                · refine l_iload rfl rfl ?_
                  refine l_if_ne rfl rfl (by unfold rg; omega) (fun w26 => absurd w26 (by omega)) (fun w27 => ?_)
                  · refine l_bipush rfl rfl ?_
                    refine l_goto rfl rfl ?_
                    refine l_ireturn rfl rfl ?_
                    exact ⟨rfl, _, rfl, ⟨by omega, by omega⟩, (by first | assumption | omega), (by first | (have t := Q63; exact (f19.trans (nbx_1 (by omega) (by show v3 < l5 _; omega) Q63)).symm) | (have t := f19; first | exact (f19.trans (nbx_2 (by omega) (by show v3 = l5 _; omega))).symm | exact (f19.trans (nbx_3 (by omega) (by show v3 = l5 _; omega) (by omega))).symm | exact (f19.trans (nbx_5 (by omega) (by show v3 = l5 _; omega) (by omega))).symm) | exact (f5.trans (nbx_e (by omega))).symm)⟩
              · refine l_iconst rfl ?_
                refine l_goto rfl rfl ?_
                refine l_istore rfl rfl rfl ?_
                refine l_iload_n rfl rfl ?_
                refine l_if_ne rfl rfl (by unfold rg; omega) (fun w28 => ?_) (fun w29 => ?_)
                · refine l_iinc rfl rfl rfl rfl ?_
                  refine l_iinc rfl rfl rfl rfl ?_
                  refine l_goto rfl rfl ?_
                  exact Rl_weak (ih5 _ (by omega) (((v3 - v5) + (-1))) ((v4 + 1)) (by omega) (by omega) (by omega) (by omega) (by first | (have t := f19; exact f19.trans (nbx_4 (by omega) (by show l5 _ < v3; omega) (by show _ = v3 - l5 _ - 1; omega))) | rfl) rfl) (And.intro rfl (And.intro rfl (And.intro rfl (And.intro rfl (True.intro)))))
                · refine l_iload rfl rfl ?_
                  refine l_if_ne rfl rfl (by unfold rg; omega) (fun w30 => ?_) (fun w31 => absurd w31 (by omega))
                  · refine l_aload_n rfl rfl ?_
                    refine l_gfr rfl rfl rfl rfl rfl (hH.r 904 14 916 rfl) ?_
                    refine l_iload_n rfl rfl ?_
                    refine l_baload (n := 300) rfl rfl rfl (by decide) (by omega) (by omega) (by unfold rg; omega) ?_
                    have w32 : 0 ≤ (Xi S 916 ((lex).toNat)) ∧ (Xi S 916 ((lex).toNat)) ≤ 1 := hH.c _ _
                    refine l_if_eq rfl rfl (by unfold rg; omega) (fun w33 => ?_) (fun w34 => ?_)
                    · refine l_iconst rfl ?_
                      refine l_ireturn rfl rfl ?_
                      exact ⟨rfl, _, rfl, ⟨by omega, by omega⟩, (by first | assumption | omega), (by first | (have t := Q63; exact (f19.trans (nbx_1 (by omega) (by show v3 < l5 _; omega) Q63)).symm) | (have t := f19; first | exact (f19.trans (nbx_2 (by omega) (by show v3 = l5 _; omega))).symm | exact (f19.trans (nbx_3 (by omega) (by show v3 = l5 _; omega) (by omega))).symm | exact (f19.trans (nbx_5 (by omega) (by show v3 = l5 _; omega) (by omega))).symm) | exact (f5.trans (nbx_e (by omega))).symm)⟩
                    · refine l_bipush rfl rfl ?_
                      refine l_goto rfl rfl ?_
                      refine l_ireturn rfl rfl ?_
                      exact ⟨rfl, _, rfl, ⟨by omega, by omega⟩, (by first | assumption | omega), (by first | (have t := Q63; exact (f19.trans (nbx_1 (by omega) (by show v3 < l5 _; omega) Q63)).symm) | (have t := f19; first | exact (f19.trans (nbx_2 (by omega) (by show v3 = l5 _; omega))).symm | exact (f19.trans (nbx_3 (by omega) (by show v3 = l5 _; omega) (by omega))).symm | exact (f19.trans (nbx_5 (by omega) (by show v3 = l5 _; omega) (by omega))).symm) | exact (f5.trans (nbx_e (by omega))).symm)⟩
            · refine l_aload_n rfl rfl ?_
              refine l_gfr rfl rfl rfl rfl rfl (hH.r 904 11 913 rfl) ?_
              refine l_iconst rfl ?_
              refine l_iload_n rfl rfl ?_
              refine l_imul rfl ?_
              refine l_iload rfl rfl ?_
              refine l_iadd rfl ?_
              refine l_laload (n := 900) rfl rfl (by omega) (by omega) (by unfold rg; omega) ?_
              have w35 : -9223372036854775808 ≤ (Xj S 913 ((((3 * lex) + v4)).toNat)) ∧ (Xj S 913 ((((3 * lex) + v4)).toNat)) < 9223372036854775808 := Xj_rg
              refine l_iload_n rfl rfl ?_
              refine l_callS rfl rfl (by decide) rfl (t_mo_letterOf__q hH (Xj S 913 ((((3 * lex) + v4)).toNat)) v3 ⟨by omega, by omega⟩ (by rw [show (3 * lex + v4).toNat = 3 * lex.toNat + v4.toNat by omega]; exact hwd v4.toNat (by omega)) _) ?_
              rintro _ _ ⟨rfl, z37, rfl, w37, w36, q63⟩
              show Rl _ _ _ _ _ [iv z37] _ _
              have Q63 : z37 = chlR S lex v4.toNat v3 := by rw [q63, show (3 * lex + v4).toNat = 3 * lex.toNat + v4.toNat by omega]; rfl
              refine l_ireturn rfl rfl ?_
              exact ⟨rfl, _, rfl, ⟨by omega, by omega⟩, (by first | assumption | omega), (by first | (have t := Q63; exact (f19.trans (nbx_1 (by omega) (by show v3 < l5 _; omega) Q63)).symm) | (have t := f19; first | exact (f19.trans (nbx_2 (by omega) (by show v3 = l5 _; omega))).symm | exact (f19.trans (nbx_3 (by omega) (by show v3 = l5 _; omega) (by omega))).symm | exact (f19.trans (nbx_5 (by omega) (by show v3 = l5 _; omega) (by omega))).symm) | exact (f5.trans (nbx_e (by omega))).symm)⟩
          · refine l_iinc rfl rfl rfl rfl ?_
            refine l_goto rfl rfl ?_
            exact Rl_weak (ih19 _ (by omega) (v3) (v4) ((v5 + 1)) (by omega) (by omega) (by omega) (by omega) (by omega) (by omega) (by first | exact f19 | exact f5) (by omega) (by omega) (by omega) rfl) (And.intro rfl (And.intro rfl (And.intro rfl (And.intro rfl (And.intro rfl (True.intro))))))
      refine l_iload rfl rfl ?_
      refine l_aload_n rfl rfl ?_
      refine l_gfr rfl rfl rfl rfl rfl (hH.r 904 10 912 rfl) ?_
      refine l_iload_n rfl rfl ?_
      refine l_iaload (n := 300) rfl rfl (by omega) (by omega) (by unfold rg; omega) ?_
      have w38 : 0 ≤ (Xi S 912 ((lex).toNat)) ∧ (Xi S 912 ((lex).toNat)) ≤ 3 := hH.c _ _
      refine l_icmp_ge rfl rfl (by unfold rg; omega) (by unfold rg; omega) (fun w39 => ?_) (fun w40 => ?_)
      · refine l_iconst rfl ?_
        refine l_ireturn rfl rfl ?_
        exact ⟨rfl, _, rfl, ⟨by omega, by omega⟩, (by first | assumption | omega), (by first | (have t := Q63; exact (f19.trans (nbx_1 (by omega) (by show v3 < l5 _; omega) Q63)).symm) | (have t := f19; first | exact (f19.trans (nbx_2 (by omega) (by show v3 = l5 _; omega))).symm | exact (f19.trans (nbx_3 (by omega) (by show v3 = l5 _; omega) (by omega))).symm | exact (f19.trans (nbx_5 (by omega) (by show v3 = l5 _; omega) (by omega))).symm) | exact (f5.trans (nbx_e (by omega))).symm)⟩
      · refine l_iconst rfl ?_
        have hl16 := hl5 v4.toNat (by omega)
        refine l_istore rfl rfl rfl ?_
        exact Rl_weak (C19 _ (v3) (v4) (0) (by omega) (by omega) (by omega) (by omega) (by omega) (by omega) (by first | exact f19 | exact f5) (by omega) (by omega) (by omega) rfl) (And.intro rfl (And.intro rfl (And.intro rfl (And.intro rfl (And.intro rfl (True.intro))))))
  refine l_iload_n rfl rfl ?_
  refine l_istore_n rfl rfl rfl ?_
  refine l_iconst rfl ?_
  refine l_istore rfl rfl rfl ?_
  exact Rl_weak (C5 _ (k) (0) (by omega) (by omega) (by omega) (by omega) (by first | (have t := f19; exact f19.trans (nbx_4 (by omega) (by show l5 _ < v3; omega) (by show _ = v3 - l5 _ - 1; omega))) | rfl) rfl) (And.intro rfl (And.intro rfl (And.intro rfl (And.intro rfl (True.intro)))))
/-! NAMES: what both answer -/
def GDN (S : sS) (w i : Int) : Prop := 0 ≤ i ∧ ((0 ≤ w ∧ w ≤ 8 ∧ i < Xi S 5 w.toNat) ∨ (w = 11 ∧ i < Xi S 5 (0 : Int).toNat))
def GDR (S : sS) (w i : Int) : Prop := 0 ≤ i ∧ ((w = 0 ∧ i < Xi S 904 16) ∨ (w = 1 ∧ i < Xi S 904 18) ∨ (w = 2 ∧ i < Xi S 904 19) ∨ (w = 3 ∧ i < Xi S 904 23) ∨ (w = 4 ∧ i < Xi S 904 30) ∨ (w = 5 ∧ i < Xi S 904 32) ∨ (w = 6 ∧ i < Xi S 904 41) ∨ (w = 7 ∧ i < Xi S 904 47) ∨ (w = 8 ∧ i < Xi S 904 49) ∨ (w = 11 ∧ i < Xi S 904 16))
def SWQ (w s : Int) : Prop := (w = 0 ∧ s = 0) ∨ (w = 1 ∧ s = 2) ∨ (w = 2 ∧ s = 4) ∨ (w = 3 ∧ s = 5) ∨ (w = 4 ∧ s = 6) ∨ (w = 5 ∧ s = 7) ∨ (w = 6 ∧ s = 8) ∨ (w = 7 ∧ s = 9) ∨ (w = 8 ∧ s = 11) ∨ (w = 11 ∧ s = 1)
/-- words of names that may be asked for -/
def NMW2 (S : sS) : Prop := ∀ x : Nat, (x : Int) < Xi S 904 15 → Xi S 914 x ≠ 10 → ∀ j : Nat, (j : Int) < Xi S 912 x → 0 < Xj S 913 (3 * x + j) ∧ Xj S 913 (3 * x + j) < 1152921504606846976
def NMXR (S : sS) (w i k z : Int) : Prop := ((¬ GDR S w i ∨ k < 0) → z = -1) ∧ (GDR S w i → 0 ≤ k → ∀ s : Int, SWQ w s → (¬ lxH S s i → z = -1) ∧ ∀ x : Nat, (x : Int) < Xi S 904 15 → Xi S 914 x = s → Xi S 915 x = i → (∀ y : Nat, (y : Int) < Xi S 904 15 → Xi S 914 y = s → Xi S 915 y = i → y = x) → z = byN S x k)
theorem nmx_0 {S : sS} {w i k z : Int} (h : ¬ GDR S w i ∨ k < 0) (hz : z = -1) : NMXR S w i k z := ⟨fun _ => hz, fun g k0 => by rcases h with h | h; exact absurd g h; omega⟩
theorem nmx_1 {S : sS} {w i k z s v : Int} (hs : SWQ w s) (h : GDR S w i ∧ 0 ≤ k) (v0 : -1 ≤ v) (p : v ≠ -1 → v < Xi S 904 15) (n : v = -1 → ¬ lxH S s i) (y : v ≠ -1 → Xi S 914 v.toNat = s ∧ Xi S 915 v.toNat = i) (z1 : v = -1 → z = -1) (z2 : v ≠ -1 → z = byN S v k) : NMXR S w i k z := by
  refine ⟨fun q => by rcases q with q | q; exact absurd h.1 q; omega, fun _ _ s' hs' => ?_⟩
  have e : s' = s := by unfold SWQ at hs hs'; omega
  subst e
  refine ⟨fun q => ?_, fun x x1 x2 x3 u => ?_⟩
  · by_cases c : v = -1
    · exact z1 c
    · exact absurd ⟨v.toNat, by have := p c; omega, (y c).1, (y c).2⟩ q
  · by_cases c : v = -1
    · exact absurd ⟨x, x1, x2, x3⟩ (n c)
    · have e := u v.toNat (by have := p c; omega) (y c).1 (y c).2
      rw [z2 c, show v = (x : Int) by omega]
theorem nmw2_of {U S : sS} (a : RVO U S) : NMW2 S := fun x hx h10 => (nb_pt (l := 0) a hx h10 (Int.le_refl 0)).2
theorem nb_neg {U : sS} {so wh k : Int} (h : k < 0) : nbC U so wh k = -1 := by
  unfold nbC
  exact nb_e (v := 0) (Or.inr h)
theorem name_sm {U S : sS} {w i k z y : Int} (h : RLB U S) (c : (GDN U w i → z = nbC U w i k) ∧ (¬ GDN U w i → z = -1)) (r : NMXR S w i k y) : z = y := by
  have ct := h.1.2.2.1
  have gg : GDN U w i ↔ GDR S w i := by
    unfold GDN GDR
    obtain ⟨t0, t1, t2, t3, t4, t5, t6, t7, t8⟩ := ct
    have z0 : (0 : Int).toNat = 0 := rfl
    rw [z0]
    constructor
    · rintro ⟨a, b⟩
      refine ⟨a, ?_⟩
      rcases b with ⟨b1, b2, b3⟩ | b
      · obtain ⟨m, hm⟩ : ∃ m : Nat, w = m := ⟨w.toNat, by omega⟩
        have hm2 : w.toNat = m := by omega
        rw [hm2] at b3
        have : m = 0 ∨ m = 1 ∨ m = 2 ∨ m = 3 ∨ m = 4 ∨ m = 5 ∨ m = 6 ∨ m = 7 ∨ m = 8 := by omega
        rcases this with e | e | e | e | e | e | e | e | e <;> subst e <;> omega
      · omega
    · rintro ⟨a, b⟩
      refine ⟨a, ?_⟩
      rcases b with ⟨e, b⟩ | ⟨e, b⟩ | ⟨e, b⟩ | ⟨e, b⟩ | ⟨e, b⟩ | ⟨e, b⟩ | ⟨e, b⟩ | ⟨e, b⟩ | ⟨e, b⟩ | ⟨e, b⟩ <;> subst e
      · left; refine ⟨by omega, by omega, ?_⟩; show i < Xi U 5 0; omega
      · left; refine ⟨by omega, by omega, ?_⟩; show i < Xi U 5 1; omega
      · left; refine ⟨by omega, by omega, ?_⟩; show i < Xi U 5 2; omega
      · left; refine ⟨by omega, by omega, ?_⟩; show i < Xi U 5 3; omega
      · left; refine ⟨by omega, by omega, ?_⟩; show i < Xi U 5 4; omega
      · left; refine ⟨by omega, by omega, ?_⟩; show i < Xi U 5 5; omega
      · left; refine ⟨by omega, by omega, ?_⟩; show i < Xi U 5 6; omega
      · left; refine ⟨by omega, by omega, ?_⟩; show i < Xi U 5 7; omega
      · left; refine ⟨by omega, by omega, ?_⟩; show i < Xi U 5 8; omega
      · right; exact ⟨rfl, by omega⟩
  by_cases g : GDN U w i
  · rw [c.1 g]
    by_cases k0 : k < 0
    · rw [nb_neg k0, r.1 (Or.inr k0)]
    · have g2 := gg.1 g
      obtain ⟨s, hs⟩ : ∃ s : Int, SWQ w s := by
        unfold GDR at g2
        unfold SWQ
        obtain ⟨_, b⟩ := g2
        rcases b with ⟨e, b⟩ | ⟨e, b⟩ | ⟨e, b⟩ | ⟨e, b⟩ | ⟨e, b⟩ | ⟨e, b⟩ | ⟨e, b⟩ | ⟨e, b⟩ | ⟨e, b⟩ | ⟨e, b⟩
        · exact ⟨0, by omega⟩
        · exact ⟨2, by omega⟩
        · exact ⟨4, by omega⟩
        · exact ⟨5, by omega⟩
        · exact ⟨6, by omega⟩
        · exact ⟨7, by omega⟩
        · exact ⟨8, by omega⟩
        · exact ⟨9, by omega⟩
        · exact ⟨11, by omega⟩
        · exact ⟨1, by omega⟩
      obtain ⟨r1, r2⟩ := r.2 g2 (by omega) s hs
      have ss : sg7 s = w ∧ 0 ≤ s ∧ s ≤ 12 ∧ s ≠ 10 := by
        unfold SWQ at hs
        rcases hs with ⟨e, f⟩ | ⟨e, f⟩ | ⟨e, f⟩ | ⟨e, f⟩ | ⟨e, f⟩ | ⟨e, f⟩ | ⟨e, f⟩ | ⟨e, f⟩ | ⟨e, f⟩ | ⟨e, f⟩ <;> subst e <;> subst f <;> exact ⟨rfl, by decide, by decide, by decide⟩
      have a := h.1.1
      by_cases l : lxH S s i
      · obtain ⟨x, x1, x2, x3⟩ := l
        rw [r2 x x1 x2 x3 (fun y y1 y2 y3 => voc_us a.1 a.2.1 y x y1 x1 (y2.trans x2.symm) (y3.trans x3.symm)), (nb_pt (l := k) a x1 (by rw [x2]; exact ss.2.2.2) (by omega)).1, x2, x3, ss.1]
      · rw [r1 l]
        have ne : ∀ j : Nat, (j : Int) < Xi U 1 3 → Xi U 3 j ≠ sg7 s ∨ Xi U 4 j ≠ i := fun j hj => by
          by_cases q : Xi U 3 j = sg7 s
          · right
            intro q2
            obtain ⟨x, x1, x2⟩ := a.1.2.1 j hj
            have e15 := a.1.1.1
            have rr := (a.2.2.2.1 x (by omega)).1
            exact l ⟨x, by omega, sg_inj rr ⟨ss.2.1, ss.2.2.1⟩ (by rw [x2.1, q]), by rw [x2.2.1, q2]⟩
          · exact Or.inl q
        rw [← ss.1]
        unfold nbC
        have t := nbs_skip (U := U) (so := sg7 s) (wh := i) (l := k) (by omega) (3 * Xi U 1 3 - 0).toNat 0 0 (fun j _ hj => Or.inr (ne (j / 3) (by omega)))
        rw [Nat.add_zero] at t
        rw [t]; rfl
  · rw [c.2 g, r.1 (Or.inl (fun x => g (gg.2 x)))]
theorem gdr_n {S : sS} {w i : Int} (h : w < 0 ∨ 8 < w) (n : w ≠ 11) : ¬ GDR S w i := fun g => by
  obtain ⟨_, b⟩ := g
  rcases b with ⟨e, _⟩ | ⟨e, _⟩ | ⟨e, _⟩ | ⟨e, _⟩ | ⟨e, _⟩ | ⟨e, _⟩ | ⟨e, _⟩ | ⟨e, _⟩ | ⟨e, _⟩ | ⟨e, _⟩ <;> omega
theorem gdr_y {S : sS} {x w i v : Int} (e : x = w) (h : 0 ≤ w ∧ w ≤ 8) (q : (x = 0 → v = Xi S 904 16) ∧ (x = 1 → v = Xi S 904 18) ∧ (x = 2 → v = Xi S 904 19) ∧ (x = 3 → v = Xi S 904 23) ∧ (x = 4 → v = Xi S 904 30) ∧ (x = 5 → v = Xi S 904 32) ∧ (x = 6 → v = Xi S 904 41) ∧ (x = 7 → v = Xi S 904 47) ∧ (x = 8 → v = Xi S 904 49) ∧ (x = 9 → v = Xi S 904 130) ∧ (x = 10 → v = Xi S 904 55) ∧ (x < 0 ∨ 10 < x → v = -1)) : GDR S w i ↔ (0 ≤ i ∧ i < v) := by
  subst e
  obtain ⟨q0, q1, q2, q3, q4, q5, q6, q7, q8, _⟩ := q
  unfold GDR
  have c : x = 0 ∨ x = 1 ∨ x = 2 ∨ x = 3 ∨ x = 4 ∨ x = 5 ∨ x = 6 ∨ x = 7 ∨ x = 8 := by omega
  rcases c with c | c | c | c | c | c | c | c | c
  · have := q0 c; clear q0 q1 q2 q3 q4 q5 q6 q7 q8; omega
  · have := q1 c; clear q0 q1 q2 q3 q4 q5 q6 q7 q8; omega
  · have := q2 c; clear q0 q1 q2 q3 q4 q5 q6 q7 q8; omega
  · have := q3 c; clear q0 q1 q2 q3 q4 q5 q6 q7 q8; omega
  · have := q4 c; clear q0 q1 q2 q3 q4 q5 q6 q7 q8; omega
  · have := q5 c; clear q0 q1 q2 q3 q4 q5 q6 q7 q8; omega
  · have := q6 c; clear q0 q1 q2 q3 q4 q5 q6 q7 q8; omega
  · have := q7 c; clear q0 q1 q2 q3 q4 q5 q6 q7 q8; omega
  · have := q8 c; clear q0 q1 q2 q3 q4 q5 q6 q7 q8; omega
theorem gdr_p {S : sS} {x w i v : Int} (e : x = 0) (h : w = 11) (q : (x = 0 → v = Xi S 904 16) ∧ (x = 1 → v = Xi S 904 18) ∧ (x = 2 → v = Xi S 904 19) ∧ (x = 3 → v = Xi S 904 23) ∧ (x = 4 → v = Xi S 904 30) ∧ (x = 5 → v = Xi S 904 32) ∧ (x = 6 → v = Xi S 904 41) ∧ (x = 7 → v = Xi S 904 47) ∧ (x = 8 → v = Xi S 904 49) ∧ (x = 9 → v = Xi S 904 130) ∧ (x = 10 → v = Xi S 904 55) ∧ (x < 0 ∨ 10 < x → v = -1)) : GDR S w i ↔ (0 ≤ i ∧ i < v) := by
  have := q.1 e
  clear q
  unfold GDR
  omega
end
section
/-! which sort a name's number means -/
theorem sw_0 {w : Int} (h : w = 0) : SWQ w 0 := Or.inl ⟨h, rfl⟩
theorem sw_1 {w : Int} (h : w = 1) : SWQ w 2 := Or.inr (Or.inl ⟨h, rfl⟩)
theorem sw_2 {w : Int} (h : w = 2) : SWQ w 4 := Or.inr (Or.inr (Or.inl ⟨h, rfl⟩))
theorem sw_3 {w : Int} (h : w = 3) : SWQ w 5 := Or.inr (Or.inr (Or.inr (Or.inl ⟨h, rfl⟩)))
theorem sw_4 {w : Int} (h : w = 4) : SWQ w 6 := Or.inr (Or.inr (Or.inr (Or.inr (Or.inl ⟨h, rfl⟩))))
theorem sw_5 {w : Int} (h : w = 5) : SWQ w 7 := Or.inr (Or.inr (Or.inr (Or.inr (Or.inr (Or.inl ⟨h, rfl⟩)))))
theorem sw_6 {w : Int} (h : w = 6) : SWQ w 8 := Or.inr (Or.inr (Or.inr (Or.inr (Or.inr (Or.inr (Or.inl ⟨h, rfl⟩))))))
theorem sw_7 {w : Int} (h : w = 7) : SWQ w 9 := Or.inr (Or.inr (Or.inr (Or.inr (Or.inr (Or.inr (Or.inr (Or.inl ⟨h, rfl⟩)))))))
theorem sw_8 {w : Int} (h : w = 8) : SWQ w 11 := Or.inr (Or.inr (Or.inr (Or.inr (Or.inr (Or.inr (Or.inr (Or.inr (Or.inl ⟨h, rfl⟩))))))))
theorem sw_d {v w : Int} (c : (v = 1 ∧ w = 11) ∨ (v = 0 ∧ 0 ≤ w ∧ w ≤ 8)) (n0 : w ≠ 0) (n1 : w ≠ 1) (n2 : w ≠ 2) (n3 : w ≠ 3) (n4 : w ≠ 4) (n5 : w ≠ 5) (n6 : w ≠ 6) (n7 : w ≠ 7) (n8 : w ≠ 8) : SWQ w 1 := by
  rcases c with c | c
  · exact Or.inr (Or.inr (Or.inr (Or.inr (Or.inr (Or.inr (Or.inr (Or.inr (Or.inr (⟨c.2, rfl⟩)))))))))
  · exfalso; omega

abbrev Q_rs_name__q (S : sS) (w : Int) (i : Int) (k : Int) : pst := fun r S1 => S = S1 ∧ (∃ z : Int, r = some (iv z) ∧ (-2147483648 ≤ z ∧ z ≤ 2147483647) ∧ ((GDN S w i → z = nbC S w i k) ∧ (¬ GDN S w i → z = -1)))
set_option maxRecDepth 100000 in
theorem t_rs_name__q {S : sS} (hH : HI S) (w : Int) (i : Int) (k : Int) (hw : -2147483648 ≤ w ∧ w ≤ 2147483647) (hi : -2147483648 ≤ i ∧ i ≤ 2147483647) (hk : -2147483648 ≤ k ∧ k ≤ 2147483647) (cw : CW S) (d : Nat) : Mt lay0 (d + 2) m_rs_name [.ref 0, iv w, iv i, iv k] S (Q_rs_name__q S w i k) := by
  refine Mt_R rfl rfl ?_
  refine l_iload_n rfl rfl ?_
  refine l_bipush rfl rfl ?_
  refine l_icmp_ne rfl rfl (by unfold rg; omega) (by unfold rg; omega) (fun w1 => ?_) (fun w2 => ?_)
  · refine l_iconst rfl ?_
    refine l_istore rfl rfl rfl ?_
    refine l_iload_n rfl rfl ?_
    refine l_if_lt rfl rfl (by unfold rg; omega) (fun w3 => ?_) (fun w4 => ?_)
    · refine l_iconst rfl ?_
      refine l_ireturn rfl rfl ?_
      exact ⟨rfl, _, rfl, ⟨by omega, by omega⟩, (by first | (have t := q47; exact ⟨fun _ => q47, fun g => absurd (by unfold GDN; omega) g⟩) | exact ⟨fun g => absurd g (by unfold GDN; omega), fun _ => rfl⟩)⟩
    · refine l_iload_n rfl rfl ?_
      refine l_aload_n rfl rfl ?_
      refine l_gfr rfl rfl rfl rfl rfl (hH.r 0 0 1 rfl) ?_
      refine l_iload rfl rfl ?_
      refine l_if_eq rfl rfl (by unfold rg; omega) (fun w5 => ?_) (fun w6 => absurd w6 (by omega))
      · refine l_iload_n rfl rfl ?_
        refine l_callV rfl rfl rfl (t_vo_countOf hH w ⟨by omega, by omega⟩ _) ?_
        rintro _ _ ⟨rfl, z10, rfl, w10, w7, w8, w9⟩
        show Rl _ _ _ _ _ [iv z10, iv i] _ _
        have z32 : Xi S 5 (0 : Int).toNat = Xi S 5 0 := rfl
        refine l_icmp_lt rfl rfl (by unfold rg; omega) (by unfold rg; omega) (fun w11 => ?_) (fun w12 => ?_)
        · refine l_aload_n rfl rfl ?_
          refine l_gfr rfl rfl rfl rfl rfl (hH.r 0 0 1 rfl) ?_
          refine l_iload_n rfl rfl ?_
          refine l_iload_n rfl rfl ?_
          refine l_iload_n rfl rfl ?_
          refine l_callV rfl rfl rfl (t_vo_nameByte__w hH w i k ⟨by omega, by omega⟩ ⟨by omega, by omega⟩ ⟨by omega, by omega⟩ (by first | assumption | omega) _) ?_
          rintro _ _ ⟨rfl, z13, rfl, w13, q47⟩
          show Rl _ _ _ _ _ [iv z13] _ _
          refine l_ireturn rfl rfl ?_
          exact ⟨rfl, _, rfl, ⟨by omega, by omega⟩, (by first | (have t := q47; exact ⟨fun _ => q47, fun g => absurd (by unfold GDN; omega) g⟩) | exact ⟨fun g => absurd g (by unfold GDN; omega), fun _ => rfl⟩)⟩
        · refine l_iconst rfl ?_
          refine l_ireturn rfl rfl ?_
          exact ⟨rfl, _, rfl, ⟨by omega, by omega⟩, (by first | (have t := q47; exact ⟨fun _ => q47, fun g => absurd (by unfold GDN; omega) g⟩) | exact ⟨fun g => absurd g (by unfold GDN; omega), fun _ => rfl⟩)⟩
  · refine l_iconst rfl ?_
    refine l_goto rfl rfl ?_
    refine l_istore rfl rfl rfl ?_
    refine l_iload_n rfl rfl ?_
    refine l_if_lt rfl rfl (by unfold rg; omega) (fun w14 => ?_) (fun w15 => ?_)
    · refine l_iconst rfl ?_
      refine l_ireturn rfl rfl ?_
      exact ⟨rfl, _, rfl, ⟨by omega, by omega⟩, (by first | (have t := q47; exact ⟨fun _ => q47, fun g => absurd (by unfold GDN; omega) g⟩) | exact ⟨fun g => absurd g (by unfold GDN; omega), fun _ => rfl⟩)⟩
    · refine l_iload_n rfl rfl ?_
      refine l_aload_n rfl rfl ?_
      refine l_gfr rfl rfl rfl rfl rfl (hH.r 0 0 1 rfl) ?_
      refine l_iload rfl rfl ?_
      refine l_if_eq rfl rfl (by unfold rg; omega) (fun w16 => absurd w16 (by omega)) (fun w17 => ?_)
      · refine l_iconst rfl ?_
        refine l_goto rfl rfl ?_
        refine l_callV rfl rfl rfl (t_vo_countOf hH 0 ⟨by omega, by omega⟩ _) ?_
        rintro _ _ ⟨rfl, z21, rfl, w21, w18, w19, w20⟩
        have w22 : z21 = Xi S 5 0 ∧ 0 ≤ Xi S 5 0 ∧ Xi S 5 0 ≤ 16 := ⟨(w18 (by omega) (by omega)).1, hH.c 5 0⟩
        clear w18 w19 w20
        show Rl _ _ _ _ _ [iv z21, iv i] _ _
        have z32 : Xi S 5 (0 : Int).toNat = Xi S 5 0 := rfl
        refine l_icmp_lt rfl rfl (by unfold rg; omega) (by unfold rg; omega) (fun w23 => ?_) (fun w24 => ?_)
        · refine l_aload_n rfl rfl ?_
          refine l_gfr rfl rfl rfl rfl rfl (hH.r 0 0 1 rfl) ?_
          refine l_iload_n rfl rfl ?_
          refine l_iload_n rfl rfl ?_
          refine l_iload_n rfl rfl ?_
          refine l_callV rfl rfl rfl (t_vo_nameByte__w hH w i k ⟨by omega, by omega⟩ ⟨by omega, by omega⟩ ⟨by omega, by omega⟩ (by first | assumption | omega) _) ?_
          rintro _ _ ⟨rfl, z25, rfl, w25, q47⟩
          show Rl _ _ _ _ _ [iv z25] _ _
          refine l_ireturn rfl rfl ?_
          exact ⟨rfl, _, rfl, ⟨by omega, by omega⟩, (by first | (have t := q47; exact ⟨fun _ => q47, fun g => absurd (by unfold GDN; omega) g⟩) | exact ⟨fun g => absurd g (by unfold GDN; omega), fun _ => rfl⟩)⟩
        · refine l_iconst rfl ?_
          refine l_ireturn rfl rfl ?_
          exact ⟨rfl, _, rfl, ⟨by omega, by omega⟩, (by first | (have t := q47; exact ⟨fun _ => q47, fun g => absurd (by unfold GDN; omega) g⟩) | exact ⟨fun g => absurd g (by unfold GDN; omega), fun _ => rfl⟩)⟩
abbrev Q_mo_name_2__q (S : sS) (w : Int) (i : Int) (k : Int) : pst := fun r S1 => S = S1 ∧ (∃ z : Int, r = some (iv z) ∧ (-2147483648 ≤ z ∧ z ≤ 2147483647) ∧ (NMXR S w i k z))
set_option maxRecDepth 100000 in
set_option maxHeartbeats 6000000 in
theorem t_mo_name_2__q {S : sS} (hH : HI S) (w : Int) (i : Int) (k : Int) (hw : -2147483648 ≤ w ∧ w ≤ 2147483647) (hi : -2147483648 ≤ i ∧ i ≤ 2147483647) (hk : -2147483648 ≤ k ∧ k ≤ 2147483647) (hn2 : NMW2 S) (d : Nat) : Mt lay0 (d + 3) m_mo_name_2 [.ref 904, iv w, iv i, iv k] S (Q_mo_name_2__q S w i k) := by
  refine Mt_R rfl rfl ?_
  have C28 : ∀  (v4 : Int), (0 ≤ v4 ∧ v4 ≤ 1) → ((v4 = 1 ∧ w = 11) ∨ (v4 = 0 ∧ 0 ≤ w ∧ w ≤ 8)) → Rl lay0 (d + 2) m_mo_name_2 28 [(0, .ref 904), (1, iv w), (2, iv i), (3, iv k), (4, iv v4)] [] S (Q_mo_name_2__q S w i k) := by
    intro v4 w1 c28
    refine l_iload_n rfl rfl ?_
    refine l_iconst rfl ?_
    refine l_aload_n rfl rfl ?_
    refine l_iload rfl rfl ?_
    refine l_if_eq rfl rfl (by unfold rg; omega) (fun w2 => ?_) (fun w3 => ?_)
    · refine l_iload_n rfl rfl ?_
      have w4 : 0 ≤ Xi S 904 130 ∧ Xi S 904 130 ≤ 24 := hH.c _ _
      have w5 : 0 ≤ Xi S 904 16 ∧ Xi S 904 16 ≤ 16 := hH.c _ _
      have w6 : 0 ≤ Xi S 904 18 ∧ Xi S 904 18 ≤ 8 := hH.c _ _
      have w7 : 0 ≤ Xi S 904 19 ∧ Xi S 904 19 ≤ 24 := hH.c _ _
      have w8 : 0 ≤ Xi S 904 23 ∧ Xi S 904 23 ≤ 24 := hH.c _ _
      have w9 : 0 ≤ Xi S 904 30 ∧ Xi S 904 30 ≤ 64 := hH.c _ _
      have w10 : 0 ≤ Xi S 904 32 ∧ Xi S 904 32 ≤ 12 := hH.c _ _
      have w11 : 0 ≤ Xi S 904 41 ∧ Xi S 904 41 ≤ 6 := hH.c _ _
      have w12 : 0 ≤ Xi S 904 47 ∧ Xi S 904 47 ≤ 8 := hH.c _ _
      have w13 : 0 ≤ Xi S 904 49 ∧ Xi S 904 49 ≤ 12 := hH.c _ _
      have w14 : 0 ≤ Xi S 904 55 ∧ Xi S 904 55 ≤ 20 := hH.c _ _
      refine l_callV rfl rfl rfl (t_mo_told__q hH w ⟨by omega, by omega⟩ _) ?_
      rintro _ _ ⟨rfl, z15, rfl, w15, q41⟩
      show Rl _ _ _ _ _ [iv z15, iv 0, iv i] _ _
      have G41 : GDR S w i ↔ (0 ≤ i ∧ i < z15) := by first | exact gdr_y rfl (by clear q41; omega) q41 | exact gdr_p rfl (by clear q41; omega) q41
      clear q41
      refine l_iconst rfl ?_
      refine l_isub rfl ?_
      refine l_callS rfl rfl (by decide) rfl (t_mo_in hH i 0 (z15 - 1) ⟨by omega, by omega⟩ ⟨by omega, by omega⟩ ⟨by omega, by omega⟩ _) ?_
      rintro _ _ ⟨rfl, z16, rfl, w16, p46⟩
      show Rl _ _ _ _ _ [iv z16] _ _
      have P46 : z16 = 1 → GDR S w i := fun q => G41.2 (by have := p46.1 q; omega)
      have P46b : z16 = 0 → ¬ GDR S w i := fun q g => by have := G41.1 g; have := p46.2 q; omega
      clear p46
      refine l_if_eq rfl rfl (by unfold rg; omega) (fun w17 => ?_) (fun w18 => ?_)
      · refine l_iconst rfl ?_
        refine l_ireturn rfl rfl ?_
        exact ⟨rfl, _, rfl, ⟨by omega, by omega⟩, (by first | (have t := b172; exact nmx_1 S153 G153 (by omega) p153 n153 y153 (fun q => absurd q (by omega)) (fun _ => b172)) | (have t := S153; exact nmx_1 S153 G153 (by omega) p153 n153 y153 (fun _ => rfl) (fun q => absurd (by omega) q)) | (have t := H46; exact nmx_0 (Or.inr (by omega)) rfl) | (have t := G41; exact nmx_0 (Or.inl (P46b (by omega))) rfl) | exact nmx_0 (Or.inl (gdr_n (by omega) (by omega))) rfl)⟩
      · refine l_iload_n rfl rfl ?_
        have H46 := P46 (by omega)
        refine l_if_ge rfl rfl (by unfold rg; omega) (fun w19 => ?_) (fun w20 => ?_)
        · refine l_iload_n rfl rfl ?_
          refine l_if_ne rfl rfl (by unfold rg; omega) (fun w21 => ?_) (fun w22 => ?_)
          · refine l_iload_n rfl rfl ?_
            refine l_iconst rfl ?_
            refine l_icmp_ne rfl rfl (by unfold rg; omega) (by unfold rg; omega) (fun w23 => ?_) (fun w24 => ?_)
            · refine l_iload_n rfl rfl ?_
              refine l_iconst rfl ?_
              refine l_icmp_ne rfl rfl (by unfold rg; omega) (by unfold rg; omega) (fun w25 => ?_) (fun w26 => ?_)
              · refine l_iload_n rfl rfl ?_
                refine l_iconst rfl ?_
                refine l_icmp_ne rfl rfl (by unfold rg; omega) (by unfold rg; omega) (fun w27 => ?_) (fun w28 => ?_)
                · refine l_iload_n rfl rfl ?_
                  refine l_iconst rfl ?_
                  refine l_icmp_ne rfl rfl (by unfold rg; omega) (by unfold rg; omega) (fun w29 => ?_) (fun w30 => ?_)
                  · refine l_iload_n rfl rfl ?_
                    refine l_iconst rfl ?_
                    refine l_icmp_ne rfl rfl (by unfold rg; omega) (by unfold rg; omega) (fun w31 => ?_) (fun w32 => ?_)
                    · refine l_iload_n rfl rfl ?_
                      refine l_bipush rfl rfl ?_
                      refine l_icmp_ne rfl rfl (by unfold rg; omega) (by unfold rg; omega) (fun w33 => ?_) (fun w34 => ?_)
                      · refine l_iload_n rfl rfl ?_
                        refine l_bipush rfl rfl ?_
                        refine l_icmp_ne rfl rfl (by unfold rg; omega) (by unfold rg; omega) (fun w35 => ?_) (fun w36 => ?_)
                        · refine l_iload_n rfl rfl ?_
                          refine l_bipush rfl rfl ?_
                          refine l_icmp_ne rfl rfl (by unfold rg; omega) (by unfold rg; omega) (fun w37 => ?_) (fun w38 => ?_)
                          · refine l_iconst rfl ?_
                            refine l_istore rfl rfl rfl ?_
                            have S153 : SWQ w 1 := by first | exact sw_0 (by assumption) | exact sw_1 (by assumption) | exact sw_2 (by assumption) | exact sw_3 (by assumption) | exact sw_4 (by assumption) | exact sw_5 (by assumption) | exact sw_6 (by assumption) | exact sw_7 (by assumption) | exact sw_8 (by assumption) | exact sw_d c28 (by assumption) (by assumption) (by assumption) (by assumption) (by assumption) (by assumption) (by assumption) (by assumption) (by assumption)
                            have G153 : GDR S w i ∧ 0 ≤ k := ⟨H46, by omega⟩
                            refine l_aload_n rfl rfl ?_
                            refine l_iload rfl rfl ?_
                            refine l_iload_n rfl rfl ?_
                            have w39 : 0 ≤ Xi S 904 15 ∧ Xi S 904 15 ≤ 300 := hH.c _ _
                            refine l_callV rfl rfl rfl (t_mo_lexOf__2 hH 1 i ⟨by omega, by omega⟩ ⟨by omega, by omega⟩ _) ?_
                            rintro _ _ ⟨rfl, z40, rfl, w40, p153, n153, y153⟩
                            show Rl _ _ _ _ _ [iv z40] _ _
                            have W153 : z40 ≠ -1 → ∀ j : Nat, (j : Int) < Xi S 912 (z40).toNat → 0 < Xj S 913 (3 * (z40).toNat + j) ∧ Xj S 913 (3 * (z40).toNat + j) < 1152921504606846976 := fun q => hn2 (z40).toNat (by have := p153 q; omega) (by rw [(y153 q).1]; unfold SWQ at S153; omega)
                            refine l_istore rfl rfl rfl ?_
                            refine l_iload rfl rfl ?_
                            refine l_iconst rfl ?_
                            refine l_icmp_ne rfl rfl (by unfold rg; omega) (by unfold rg; omega) (fun w41 => ?_) (fun w42 => ?_)
                            · refine l_aload_n rfl rfl ?_
                              refine l_iload rfl rfl ?_
                              refine l_iload_n rfl rfl ?_
                              refine l_callV rfl rfl rfl (t_mo_byteOf__n hH z40 k ⟨by omega, by omega⟩ ⟨by omega, by omega⟩ (W153 (by omega)) _) ?_
                              rintro _ _ ⟨rfl, z44, rfl, w44, w43, b172⟩
                              show Rl _ _ _ _ _ [iv z44] _ _
                              refine l_ireturn rfl rfl ?_
                              exact ⟨rfl, _, rfl, ⟨by omega, by omega⟩, (by first | (have t := b172; exact nmx_1 S153 G153 (by omega) p153 n153 y153 (fun q => absurd q (by omega)) (fun _ => b172)) | (have t := S153; exact nmx_1 S153 G153 (by omega) p153 n153 y153 (fun _ => rfl) (fun q => absurd (by omega) q)) | (have t := H46; exact nmx_0 (Or.inr (by omega)) rfl) | (have t := G41; exact nmx_0 (Or.inl (P46b (by omega))) rfl) | exact nmx_0 (Or.inl (gdr_n (by omega) (by omega))) rfl)⟩
                            · refine l_iconst rfl ?_
                              refine l_goto rfl rfl ?_
                              refine l_ireturn rfl rfl ?_
                              exact ⟨rfl, _, rfl, ⟨by omega, by omega⟩, (by first | (have t := b172; exact nmx_1 S153 G153 (by omega) p153 n153 y153 (fun q => absurd q (by omega)) (fun _ => b172)) | (have t := S153; exact nmx_1 S153 G153 (by omega) p153 n153 y153 (fun _ => rfl) (fun q => absurd (by omega) q)) | (have t := H46; exact nmx_0 (Or.inr (by omega)) rfl) | (have t := G41; exact nmx_0 (Or.inl (P46b (by omega))) rfl) | exact nmx_0 (Or.inl (gdr_n (by omega) (by omega))) rfl)⟩
                          · refine l_bipush rfl rfl ?_
                            refine l_goto rfl rfl ?_
                            refine l_istore rfl rfl rfl ?_
                            have S153 : SWQ w 11 := by first | exact sw_0 (by assumption) | exact sw_1 (by assumption) | exact sw_2 (by assumption) | exact sw_3 (by assumption) | exact sw_4 (by assumption) | exact sw_5 (by assumption) | exact sw_6 (by assumption) | exact sw_7 (by assumption) | exact sw_8 (by assumption) | exact sw_d c28 (by assumption) (by assumption) (by assumption) (by assumption) (by assumption) (by assumption) (by assumption) (by assumption) (by assumption)
                            have G153 : GDR S w i ∧ 0 ≤ k := ⟨H46, by omega⟩
                            refine l_aload_n rfl rfl ?_
                            refine l_iload rfl rfl ?_
                            refine l_iload_n rfl rfl ?_
                            have w45 : 0 ≤ Xi S 904 15 ∧ Xi S 904 15 ≤ 300 := hH.c _ _
                            refine l_callV rfl rfl rfl (t_mo_lexOf__2 hH 11 i ⟨by omega, by omega⟩ ⟨by omega, by omega⟩ _) ?_
                            rintro _ _ ⟨rfl, z46, rfl, w46, p153, n153, y153⟩
                            show Rl _ _ _ _ _ [iv z46] _ _
                            have W153 : z46 ≠ -1 → ∀ j : Nat, (j : Int) < Xi S 912 (z46).toNat → 0 < Xj S 913 (3 * (z46).toNat + j) ∧ Xj S 913 (3 * (z46).toNat + j) < 1152921504606846976 := fun q => hn2 (z46).toNat (by have := p153 q; omega) (by rw [(y153 q).1]; unfold SWQ at S153; omega)
                            refine l_istore rfl rfl rfl ?_
                            refine l_iload rfl rfl ?_
                            refine l_iconst rfl ?_
                            refine l_icmp_ne rfl rfl (by unfold rg; omega) (by unfold rg; omega) (fun w47 => ?_) (fun w48 => ?_)
                            · refine l_aload_n rfl rfl ?_
                              refine l_iload rfl rfl ?_
                              refine l_iload_n rfl rfl ?_
                              refine l_callV rfl rfl rfl (t_mo_byteOf__n hH z46 k ⟨by omega, by omega⟩ ⟨by omega, by omega⟩ (W153 (by omega)) _) ?_
                              rintro _ _ ⟨rfl, z50, rfl, w50, w49, b172⟩
                              show Rl _ _ _ _ _ [iv z50] _ _
                              refine l_ireturn rfl rfl ?_
                              exact ⟨rfl, _, rfl, ⟨by omega, by omega⟩, (by first | (have t := b172; exact nmx_1 S153 G153 (by omega) p153 n153 y153 (fun q => absurd q (by omega)) (fun _ => b172)) | (have t := S153; exact nmx_1 S153 G153 (by omega) p153 n153 y153 (fun _ => rfl) (fun q => absurd (by omega) q)) | (have t := H46; exact nmx_0 (Or.inr (by omega)) rfl) | (have t := G41; exact nmx_0 (Or.inl (P46b (by omega))) rfl) | exact nmx_0 (Or.inl (gdr_n (by omega) (by omega))) rfl)⟩
                            · refine l_iconst rfl ?_
                              refine l_goto rfl rfl ?_
                              refine l_ireturn rfl rfl ?_
                              exact ⟨rfl, _, rfl, ⟨by omega, by omega⟩, (by first | (have t := b172; exact nmx_1 S153 G153 (by omega) p153 n153 y153 (fun q => absurd q (by omega)) (fun _ => b172)) | (have t := S153; exact nmx_1 S153 G153 (by omega) p153 n153 y153 (fun _ => rfl) (fun q => absurd (by omega) q)) | (have t := H46; exact nmx_0 (Or.inr (by omega)) rfl) | (have t := G41; exact nmx_0 (Or.inl (P46b (by omega))) rfl) | exact nmx_0 (Or.inl (gdr_n (by omega) (by omega))) rfl)⟩
                        · refine l_bipush rfl rfl ?_
                          refine l_goto rfl rfl ?_
                          refine l_istore rfl rfl rfl ?_
                          have S153 : SWQ w 9 := by first | exact sw_0 (by assumption) | exact sw_1 (by assumption) | exact sw_2 (by assumption) | exact sw_3 (by assumption) | exact sw_4 (by assumption) | exact sw_5 (by assumption) | exact sw_6 (by assumption) | exact sw_7 (by assumption) | exact sw_8 (by assumption) | exact sw_d c28 (by assumption) (by assumption) (by assumption) (by assumption) (by assumption) (by assumption) (by assumption) (by assumption) (by assumption)
                          have G153 : GDR S w i ∧ 0 ≤ k := ⟨H46, by omega⟩
                          refine l_aload_n rfl rfl ?_
                          refine l_iload rfl rfl ?_
                          refine l_iload_n rfl rfl ?_
                          have w51 : 0 ≤ Xi S 904 15 ∧ Xi S 904 15 ≤ 300 := hH.c _ _
                          refine l_callV rfl rfl rfl (t_mo_lexOf__2 hH 9 i ⟨by omega, by omega⟩ ⟨by omega, by omega⟩ _) ?_
                          rintro _ _ ⟨rfl, z52, rfl, w52, p153, n153, y153⟩
                          show Rl _ _ _ _ _ [iv z52] _ _
                          have W153 : z52 ≠ -1 → ∀ j : Nat, (j : Int) < Xi S 912 (z52).toNat → 0 < Xj S 913 (3 * (z52).toNat + j) ∧ Xj S 913 (3 * (z52).toNat + j) < 1152921504606846976 := fun q => hn2 (z52).toNat (by have := p153 q; omega) (by rw [(y153 q).1]; unfold SWQ at S153; omega)
                          refine l_istore rfl rfl rfl ?_
                          refine l_iload rfl rfl ?_
                          refine l_iconst rfl ?_
                          refine l_icmp_ne rfl rfl (by unfold rg; omega) (by unfold rg; omega) (fun w53 => ?_) (fun w54 => ?_)
                          · refine l_aload_n rfl rfl ?_
                            refine l_iload rfl rfl ?_
                            refine l_iload_n rfl rfl ?_
                            refine l_callV rfl rfl rfl (t_mo_byteOf__n hH z52 k ⟨by omega, by omega⟩ ⟨by omega, by omega⟩ (W153 (by omega)) _) ?_
                            rintro _ _ ⟨rfl, z56, rfl, w56, w55, b172⟩
                            show Rl _ _ _ _ _ [iv z56] _ _
                            refine l_ireturn rfl rfl ?_
                            exact ⟨rfl, _, rfl, ⟨by omega, by omega⟩, (by first | (have t := b172; exact nmx_1 S153 G153 (by omega) p153 n153 y153 (fun q => absurd q (by omega)) (fun _ => b172)) | (have t := S153; exact nmx_1 S153 G153 (by omega) p153 n153 y153 (fun _ => rfl) (fun q => absurd (by omega) q)) | (have t := H46; exact nmx_0 (Or.inr (by omega)) rfl) | (have t := G41; exact nmx_0 (Or.inl (P46b (by omega))) rfl) | exact nmx_0 (Or.inl (gdr_n (by omega) (by omega))) rfl)⟩
                          · refine l_iconst rfl ?_
                            refine l_goto rfl rfl ?_
                            refine l_ireturn rfl rfl ?_
                            exact ⟨rfl, _, rfl, ⟨by omega, by omega⟩, (by first | (have t := b172; exact nmx_1 S153 G153 (by omega) p153 n153 y153 (fun q => absurd q (by omega)) (fun _ => b172)) | (have t := S153; exact nmx_1 S153 G153 (by omega) p153 n153 y153 (fun _ => rfl) (fun q => absurd (by omega) q)) | (have t := H46; exact nmx_0 (Or.inr (by omega)) rfl) | (have t := G41; exact nmx_0 (Or.inl (P46b (by omega))) rfl) | exact nmx_0 (Or.inl (gdr_n (by omega) (by omega))) rfl)⟩
                      · refine l_bipush rfl rfl ?_
                        refine l_goto rfl rfl ?_
                        refine l_istore rfl rfl rfl ?_
                        have S153 : SWQ w 8 := by first | exact sw_0 (by assumption) | exact sw_1 (by assumption) | exact sw_2 (by assumption) | exact sw_3 (by assumption) | exact sw_4 (by assumption) | exact sw_5 (by assumption) | exact sw_6 (by assumption) | exact sw_7 (by assumption) | exact sw_8 (by assumption) | exact sw_d c28 (by assumption) (by assumption) (by assumption) (by assumption) (by assumption) (by assumption) (by assumption) (by assumption) (by assumption)
                        have G153 : GDR S w i ∧ 0 ≤ k := ⟨H46, by omega⟩
                        refine l_aload_n rfl rfl ?_
                        refine l_iload rfl rfl ?_
                        refine l_iload_n rfl rfl ?_
                        have w57 : 0 ≤ Xi S 904 15 ∧ Xi S 904 15 ≤ 300 := hH.c _ _
                        refine l_callV rfl rfl rfl (t_mo_lexOf__2 hH 8 i ⟨by omega, by omega⟩ ⟨by omega, by omega⟩ _) ?_
                        rintro _ _ ⟨rfl, z58, rfl, w58, p153, n153, y153⟩
                        show Rl _ _ _ _ _ [iv z58] _ _
                        have W153 : z58 ≠ -1 → ∀ j : Nat, (j : Int) < Xi S 912 (z58).toNat → 0 < Xj S 913 (3 * (z58).toNat + j) ∧ Xj S 913 (3 * (z58).toNat + j) < 1152921504606846976 := fun q => hn2 (z58).toNat (by have := p153 q; omega) (by rw [(y153 q).1]; unfold SWQ at S153; omega)
                        refine l_istore rfl rfl rfl ?_
                        refine l_iload rfl rfl ?_
                        refine l_iconst rfl ?_
                        refine l_icmp_ne rfl rfl (by unfold rg; omega) (by unfold rg; omega) (fun w59 => ?_) (fun w60 => ?_)
                        · refine l_aload_n rfl rfl ?_
                          refine l_iload rfl rfl ?_
                          refine l_iload_n rfl rfl ?_
                          refine l_callV rfl rfl rfl (t_mo_byteOf__n hH z58 k ⟨by omega, by omega⟩ ⟨by omega, by omega⟩ (W153 (by omega)) _) ?_
                          rintro _ _ ⟨rfl, z62, rfl, w62, w61, b172⟩
                          show Rl _ _ _ _ _ [iv z62] _ _
                          refine l_ireturn rfl rfl ?_
                          exact ⟨rfl, _, rfl, ⟨by omega, by omega⟩, (by first | (have t := b172; exact nmx_1 S153 G153 (by omega) p153 n153 y153 (fun q => absurd q (by omega)) (fun _ => b172)) | (have t := S153; exact nmx_1 S153 G153 (by omega) p153 n153 y153 (fun _ => rfl) (fun q => absurd (by omega) q)) | (have t := H46; exact nmx_0 (Or.inr (by omega)) rfl) | (have t := G41; exact nmx_0 (Or.inl (P46b (by omega))) rfl) | exact nmx_0 (Or.inl (gdr_n (by omega) (by omega))) rfl)⟩
                        · refine l_iconst rfl ?_
                          refine l_goto rfl rfl ?_
                          refine l_ireturn rfl rfl ?_
                          exact ⟨rfl, _, rfl, ⟨by omega, by omega⟩, (by first | (have t := b172; exact nmx_1 S153 G153 (by omega) p153 n153 y153 (fun q => absurd q (by omega)) (fun _ => b172)) | (have t := S153; exact nmx_1 S153 G153 (by omega) p153 n153 y153 (fun _ => rfl) (fun q => absurd (by omega) q)) | (have t := H46; exact nmx_0 (Or.inr (by omega)) rfl) | (have t := G41; exact nmx_0 (Or.inl (P46b (by omega))) rfl) | exact nmx_0 (Or.inl (gdr_n (by omega) (by omega))) rfl)⟩
                    · refine l_bipush rfl rfl ?_
                      refine l_goto rfl rfl ?_
                      refine l_istore rfl rfl rfl ?_
                      have S153 : SWQ w 7 := by first | exact sw_0 (by assumption) | exact sw_1 (by assumption) | exact sw_2 (by assumption) | exact sw_3 (by assumption) | exact sw_4 (by assumption) | exact sw_5 (by assumption) | exact sw_6 (by assumption) | exact sw_7 (by assumption) | exact sw_8 (by assumption) | exact sw_d c28 (by assumption) (by assumption) (by assumption) (by assumption) (by assumption) (by assumption) (by assumption) (by assumption) (by assumption)
                      have G153 : GDR S w i ∧ 0 ≤ k := ⟨H46, by omega⟩
                      refine l_aload_n rfl rfl ?_
                      refine l_iload rfl rfl ?_
                      refine l_iload_n rfl rfl ?_
                      have w63 : 0 ≤ Xi S 904 15 ∧ Xi S 904 15 ≤ 300 := hH.c _ _
                      refine l_callV rfl rfl rfl (t_mo_lexOf__2 hH 7 i ⟨by omega, by omega⟩ ⟨by omega, by omega⟩ _) ?_
                      rintro _ _ ⟨rfl, z64, rfl, w64, p153, n153, y153⟩
                      show Rl _ _ _ _ _ [iv z64] _ _
                      have W153 : z64 ≠ -1 → ∀ j : Nat, (j : Int) < Xi S 912 (z64).toNat → 0 < Xj S 913 (3 * (z64).toNat + j) ∧ Xj S 913 (3 * (z64).toNat + j) < 1152921504606846976 := fun q => hn2 (z64).toNat (by have := p153 q; omega) (by rw [(y153 q).1]; unfold SWQ at S153; omega)
                      refine l_istore rfl rfl rfl ?_
                      refine l_iload rfl rfl ?_
                      refine l_iconst rfl ?_
                      refine l_icmp_ne rfl rfl (by unfold rg; omega) (by unfold rg; omega) (fun w65 => ?_) (fun w66 => ?_)
                      · refine l_aload_n rfl rfl ?_
                        refine l_iload rfl rfl ?_
                        refine l_iload_n rfl rfl ?_
                        refine l_callV rfl rfl rfl (t_mo_byteOf__n hH z64 k ⟨by omega, by omega⟩ ⟨by omega, by omega⟩ (W153 (by omega)) _) ?_
                        rintro _ _ ⟨rfl, z68, rfl, w68, w67, b172⟩
                        show Rl _ _ _ _ _ [iv z68] _ _
                        refine l_ireturn rfl rfl ?_
                        exact ⟨rfl, _, rfl, ⟨by omega, by omega⟩, (by first | (have t := b172; exact nmx_1 S153 G153 (by omega) p153 n153 y153 (fun q => absurd q (by omega)) (fun _ => b172)) | (have t := S153; exact nmx_1 S153 G153 (by omega) p153 n153 y153 (fun _ => rfl) (fun q => absurd (by omega) q)) | (have t := H46; exact nmx_0 (Or.inr (by omega)) rfl) | (have t := G41; exact nmx_0 (Or.inl (P46b (by omega))) rfl) | exact nmx_0 (Or.inl (gdr_n (by omega) (by omega))) rfl)⟩
                      · refine l_iconst rfl ?_
                        refine l_goto rfl rfl ?_
                        refine l_ireturn rfl rfl ?_
                        exact ⟨rfl, _, rfl, ⟨by omega, by omega⟩, (by first | (have t := b172; exact nmx_1 S153 G153 (by omega) p153 n153 y153 (fun q => absurd q (by omega)) (fun _ => b172)) | (have t := S153; exact nmx_1 S153 G153 (by omega) p153 n153 y153 (fun _ => rfl) (fun q => absurd (by omega) q)) | (have t := H46; exact nmx_0 (Or.inr (by omega)) rfl) | (have t := G41; exact nmx_0 (Or.inl (P46b (by omega))) rfl) | exact nmx_0 (Or.inl (gdr_n (by omega) (by omega))) rfl)⟩
                  · refine l_bipush rfl rfl ?_
                    refine l_goto rfl rfl ?_
                    refine l_istore rfl rfl rfl ?_
                    have S153 : SWQ w 6 := by first | exact sw_0 (by assumption) | exact sw_1 (by assumption) | exact sw_2 (by assumption) | exact sw_3 (by assumption) | exact sw_4 (by assumption) | exact sw_5 (by assumption) | exact sw_6 (by assumption) | exact sw_7 (by assumption) | exact sw_8 (by assumption) | exact sw_d c28 (by assumption) (by assumption) (by assumption) (by assumption) (by assumption) (by assumption) (by assumption) (by assumption) (by assumption)
                    have G153 : GDR S w i ∧ 0 ≤ k := ⟨H46, by omega⟩
                    refine l_aload_n rfl rfl ?_
                    refine l_iload rfl rfl ?_
                    refine l_iload_n rfl rfl ?_
                    have w69 : 0 ≤ Xi S 904 15 ∧ Xi S 904 15 ≤ 300 := hH.c _ _
                    refine l_callV rfl rfl rfl (t_mo_lexOf__2 hH 6 i ⟨by omega, by omega⟩ ⟨by omega, by omega⟩ _) ?_
                    rintro _ _ ⟨rfl, z70, rfl, w70, p153, n153, y153⟩
                    show Rl _ _ _ _ _ [iv z70] _ _
                    have W153 : z70 ≠ -1 → ∀ j : Nat, (j : Int) < Xi S 912 (z70).toNat → 0 < Xj S 913 (3 * (z70).toNat + j) ∧ Xj S 913 (3 * (z70).toNat + j) < 1152921504606846976 := fun q => hn2 (z70).toNat (by have := p153 q; omega) (by rw [(y153 q).1]; unfold SWQ at S153; omega)
                    refine l_istore rfl rfl rfl ?_
                    refine l_iload rfl rfl ?_
                    refine l_iconst rfl ?_
                    refine l_icmp_ne rfl rfl (by unfold rg; omega) (by unfold rg; omega) (fun w71 => ?_) (fun w72 => ?_)
                    · refine l_aload_n rfl rfl ?_
                      refine l_iload rfl rfl ?_
                      refine l_iload_n rfl rfl ?_
                      refine l_callV rfl rfl rfl (t_mo_byteOf__n hH z70 k ⟨by omega, by omega⟩ ⟨by omega, by omega⟩ (W153 (by omega)) _) ?_
                      rintro _ _ ⟨rfl, z74, rfl, w74, w73, b172⟩
                      show Rl _ _ _ _ _ [iv z74] _ _
                      refine l_ireturn rfl rfl ?_
                      exact ⟨rfl, _, rfl, ⟨by omega, by omega⟩, (by first | (have t := b172; exact nmx_1 S153 G153 (by omega) p153 n153 y153 (fun q => absurd q (by omega)) (fun _ => b172)) | (have t := S153; exact nmx_1 S153 G153 (by omega) p153 n153 y153 (fun _ => rfl) (fun q => absurd (by omega) q)) | (have t := H46; exact nmx_0 (Or.inr (by omega)) rfl) | (have t := G41; exact nmx_0 (Or.inl (P46b (by omega))) rfl) | exact nmx_0 (Or.inl (gdr_n (by omega) (by omega))) rfl)⟩
                    · refine l_iconst rfl ?_
                      refine l_goto rfl rfl ?_
                      refine l_ireturn rfl rfl ?_
                      exact ⟨rfl, _, rfl, ⟨by omega, by omega⟩, (by first | (have t := b172; exact nmx_1 S153 G153 (by omega) p153 n153 y153 (fun q => absurd q (by omega)) (fun _ => b172)) | (have t := S153; exact nmx_1 S153 G153 (by omega) p153 n153 y153 (fun _ => rfl) (fun q => absurd (by omega) q)) | (have t := H46; exact nmx_0 (Or.inr (by omega)) rfl) | (have t := G41; exact nmx_0 (Or.inl (P46b (by omega))) rfl) | exact nmx_0 (Or.inl (gdr_n (by omega) (by omega))) rfl)⟩
                · refine l_iconst rfl ?_
                  refine l_goto rfl rfl ?_
                  refine l_istore rfl rfl rfl ?_
                  have S153 : SWQ w 5 := by first | exact sw_0 (by assumption) | exact sw_1 (by assumption) | exact sw_2 (by assumption) | exact sw_3 (by assumption) | exact sw_4 (by assumption) | exact sw_5 (by assumption) | exact sw_6 (by assumption) | exact sw_7 (by assumption) | exact sw_8 (by assumption) | exact sw_d c28 (by assumption) (by assumption) (by assumption) (by assumption) (by assumption) (by assumption) (by assumption) (by assumption) (by assumption)
                  have G153 : GDR S w i ∧ 0 ≤ k := ⟨H46, by omega⟩
                  refine l_aload_n rfl rfl ?_
                  refine l_iload rfl rfl ?_
                  refine l_iload_n rfl rfl ?_
                  have w75 : 0 ≤ Xi S 904 15 ∧ Xi S 904 15 ≤ 300 := hH.c _ _
                  refine l_callV rfl rfl rfl (t_mo_lexOf__2 hH 5 i ⟨by omega, by omega⟩ ⟨by omega, by omega⟩ _) ?_
                  rintro _ _ ⟨rfl, z76, rfl, w76, p153, n153, y153⟩
                  show Rl _ _ _ _ _ [iv z76] _ _
                  have W153 : z76 ≠ -1 → ∀ j : Nat, (j : Int) < Xi S 912 (z76).toNat → 0 < Xj S 913 (3 * (z76).toNat + j) ∧ Xj S 913 (3 * (z76).toNat + j) < 1152921504606846976 := fun q => hn2 (z76).toNat (by have := p153 q; omega) (by rw [(y153 q).1]; unfold SWQ at S153; omega)
                  refine l_istore rfl rfl rfl ?_
                  refine l_iload rfl rfl ?_
                  refine l_iconst rfl ?_
                  refine l_icmp_ne rfl rfl (by unfold rg; omega) (by unfold rg; omega) (fun w77 => ?_) (fun w78 => ?_)
                  · refine l_aload_n rfl rfl ?_
                    refine l_iload rfl rfl ?_
                    refine l_iload_n rfl rfl ?_
                    refine l_callV rfl rfl rfl (t_mo_byteOf__n hH z76 k ⟨by omega, by omega⟩ ⟨by omega, by omega⟩ (W153 (by omega)) _) ?_
                    rintro _ _ ⟨rfl, z80, rfl, w80, w79, b172⟩
                    show Rl _ _ _ _ _ [iv z80] _ _
                    refine l_ireturn rfl rfl ?_
                    exact ⟨rfl, _, rfl, ⟨by omega, by omega⟩, (by first | (have t := b172; exact nmx_1 S153 G153 (by omega) p153 n153 y153 (fun q => absurd q (by omega)) (fun _ => b172)) | (have t := S153; exact nmx_1 S153 G153 (by omega) p153 n153 y153 (fun _ => rfl) (fun q => absurd (by omega) q)) | (have t := H46; exact nmx_0 (Or.inr (by omega)) rfl) | (have t := G41; exact nmx_0 (Or.inl (P46b (by omega))) rfl) | exact nmx_0 (Or.inl (gdr_n (by omega) (by omega))) rfl)⟩
                  · refine l_iconst rfl ?_
                    refine l_goto rfl rfl ?_
                    refine l_ireturn rfl rfl ?_
                    exact ⟨rfl, _, rfl, ⟨by omega, by omega⟩, (by first | (have t := b172; exact nmx_1 S153 G153 (by omega) p153 n153 y153 (fun q => absurd q (by omega)) (fun _ => b172)) | (have t := S153; exact nmx_1 S153 G153 (by omega) p153 n153 y153 (fun _ => rfl) (fun q => absurd (by omega) q)) | (have t := H46; exact nmx_0 (Or.inr (by omega)) rfl) | (have t := G41; exact nmx_0 (Or.inl (P46b (by omega))) rfl) | exact nmx_0 (Or.inl (gdr_n (by omega) (by omega))) rfl)⟩
              · refine l_iconst rfl ?_
                refine l_goto rfl rfl ?_
                refine l_istore rfl rfl rfl ?_
                have S153 : SWQ w 4 := by first | exact sw_0 (by assumption) | exact sw_1 (by assumption) | exact sw_2 (by assumption) | exact sw_3 (by assumption) | exact sw_4 (by assumption) | exact sw_5 (by assumption) | exact sw_6 (by assumption) | exact sw_7 (by assumption) | exact sw_8 (by assumption) | exact sw_d c28 (by assumption) (by assumption) (by assumption) (by assumption) (by assumption) (by assumption) (by assumption) (by assumption) (by assumption)
                have G153 : GDR S w i ∧ 0 ≤ k := ⟨H46, by omega⟩
                refine l_aload_n rfl rfl ?_
                refine l_iload rfl rfl ?_
                refine l_iload_n rfl rfl ?_
                have w81 : 0 ≤ Xi S 904 15 ∧ Xi S 904 15 ≤ 300 := hH.c _ _
                refine l_callV rfl rfl rfl (t_mo_lexOf__2 hH 4 i ⟨by omega, by omega⟩ ⟨by omega, by omega⟩ _) ?_
                rintro _ _ ⟨rfl, z82, rfl, w82, p153, n153, y153⟩
                show Rl _ _ _ _ _ [iv z82] _ _
                have W153 : z82 ≠ -1 → ∀ j : Nat, (j : Int) < Xi S 912 (z82).toNat → 0 < Xj S 913 (3 * (z82).toNat + j) ∧ Xj S 913 (3 * (z82).toNat + j) < 1152921504606846976 := fun q => hn2 (z82).toNat (by have := p153 q; omega) (by rw [(y153 q).1]; unfold SWQ at S153; omega)
                refine l_istore rfl rfl rfl ?_
                refine l_iload rfl rfl ?_
                refine l_iconst rfl ?_
                refine l_icmp_ne rfl rfl (by unfold rg; omega) (by unfold rg; omega) (fun w83 => ?_) (fun w84 => ?_)
                · refine l_aload_n rfl rfl ?_
                  refine l_iload rfl rfl ?_
                  refine l_iload_n rfl rfl ?_
                  refine l_callV rfl rfl rfl (t_mo_byteOf__n hH z82 k ⟨by omega, by omega⟩ ⟨by omega, by omega⟩ (W153 (by omega)) _) ?_
                  rintro _ _ ⟨rfl, z86, rfl, w86, w85, b172⟩
                  show Rl _ _ _ _ _ [iv z86] _ _
                  refine l_ireturn rfl rfl ?_
                  exact ⟨rfl, _, rfl, ⟨by omega, by omega⟩, (by first | (have t := b172; exact nmx_1 S153 G153 (by omega) p153 n153 y153 (fun q => absurd q (by omega)) (fun _ => b172)) | (have t := S153; exact nmx_1 S153 G153 (by omega) p153 n153 y153 (fun _ => rfl) (fun q => absurd (by omega) q)) | (have t := H46; exact nmx_0 (Or.inr (by omega)) rfl) | (have t := G41; exact nmx_0 (Or.inl (P46b (by omega))) rfl) | exact nmx_0 (Or.inl (gdr_n (by omega) (by omega))) rfl)⟩
                · refine l_iconst rfl ?_
                  refine l_goto rfl rfl ?_
                  refine l_ireturn rfl rfl ?_
                  exact ⟨rfl, _, rfl, ⟨by omega, by omega⟩, (by first | (have t := b172; exact nmx_1 S153 G153 (by omega) p153 n153 y153 (fun q => absurd q (by omega)) (fun _ => b172)) | (have t := S153; exact nmx_1 S153 G153 (by omega) p153 n153 y153 (fun _ => rfl) (fun q => absurd (by omega) q)) | (have t := H46; exact nmx_0 (Or.inr (by omega)) rfl) | (have t := G41; exact nmx_0 (Or.inl (P46b (by omega))) rfl) | exact nmx_0 (Or.inl (gdr_n (by omega) (by omega))) rfl)⟩
            · refine l_iconst rfl ?_
              refine l_goto rfl rfl ?_
              refine l_istore rfl rfl rfl ?_
              have S153 : SWQ w 2 := by first | exact sw_0 (by assumption) | exact sw_1 (by assumption) | exact sw_2 (by assumption) | exact sw_3 (by assumption) | exact sw_4 (by assumption) | exact sw_5 (by assumption) | exact sw_6 (by assumption) | exact sw_7 (by assumption) | exact sw_8 (by assumption) | exact sw_d c28 (by assumption) (by assumption) (by assumption) (by assumption) (by assumption) (by assumption) (by assumption) (by assumption) (by assumption)
              have G153 : GDR S w i ∧ 0 ≤ k := ⟨H46, by omega⟩
              refine l_aload_n rfl rfl ?_
              refine l_iload rfl rfl ?_
              refine l_iload_n rfl rfl ?_
              have w87 : 0 ≤ Xi S 904 15 ∧ Xi S 904 15 ≤ 300 := hH.c _ _
              refine l_callV rfl rfl rfl (t_mo_lexOf__2 hH 2 i ⟨by omega, by omega⟩ ⟨by omega, by omega⟩ _) ?_
              rintro _ _ ⟨rfl, z88, rfl, w88, p153, n153, y153⟩
              show Rl _ _ _ _ _ [iv z88] _ _
              have W153 : z88 ≠ -1 → ∀ j : Nat, (j : Int) < Xi S 912 (z88).toNat → 0 < Xj S 913 (3 * (z88).toNat + j) ∧ Xj S 913 (3 * (z88).toNat + j) < 1152921504606846976 := fun q => hn2 (z88).toNat (by have := p153 q; omega) (by rw [(y153 q).1]; unfold SWQ at S153; omega)
              refine l_istore rfl rfl rfl ?_
              refine l_iload rfl rfl ?_
              refine l_iconst rfl ?_
              refine l_icmp_ne rfl rfl (by unfold rg; omega) (by unfold rg; omega) (fun w89 => ?_) (fun w90 => ?_)
              · refine l_aload_n rfl rfl ?_
                refine l_iload rfl rfl ?_
                refine l_iload_n rfl rfl ?_
                refine l_callV rfl rfl rfl (t_mo_byteOf__n hH z88 k ⟨by omega, by omega⟩ ⟨by omega, by omega⟩ (W153 (by omega)) _) ?_
                rintro _ _ ⟨rfl, z92, rfl, w92, w91, b172⟩
                show Rl _ _ _ _ _ [iv z92] _ _
                refine l_ireturn rfl rfl ?_
                exact ⟨rfl, _, rfl, ⟨by omega, by omega⟩, (by first | (have t := b172; exact nmx_1 S153 G153 (by omega) p153 n153 y153 (fun q => absurd q (by omega)) (fun _ => b172)) | (have t := S153; exact nmx_1 S153 G153 (by omega) p153 n153 y153 (fun _ => rfl) (fun q => absurd (by omega) q)) | (have t := H46; exact nmx_0 (Or.inr (by omega)) rfl) | (have t := G41; exact nmx_0 (Or.inl (P46b (by omega))) rfl) | exact nmx_0 (Or.inl (gdr_n (by omega) (by omega))) rfl)⟩
              · refine l_iconst rfl ?_
                refine l_goto rfl rfl ?_
                refine l_ireturn rfl rfl ?_
                exact ⟨rfl, _, rfl, ⟨by omega, by omega⟩, (by first | (have t := b172; exact nmx_1 S153 G153 (by omega) p153 n153 y153 (fun q => absurd q (by omega)) (fun _ => b172)) | (have t := S153; exact nmx_1 S153 G153 (by omega) p153 n153 y153 (fun _ => rfl) (fun q => absurd (by omega) q)) | (have t := H46; exact nmx_0 (Or.inr (by omega)) rfl) | (have t := G41; exact nmx_0 (Or.inl (P46b (by omega))) rfl) | exact nmx_0 (Or.inl (gdr_n (by omega) (by omega))) rfl)⟩
          · refine l_iconst rfl ?_
            refine l_goto rfl rfl ?_
            refine l_istore rfl rfl rfl ?_
            have S153 : SWQ w 0 := by first | exact sw_0 (by assumption) | exact sw_1 (by assumption) | exact sw_2 (by assumption) | exact sw_3 (by assumption) | exact sw_4 (by assumption) | exact sw_5 (by assumption) | exact sw_6 (by assumption) | exact sw_7 (by assumption) | exact sw_8 (by assumption) | exact sw_d c28 (by assumption) (by assumption) (by assumption) (by assumption) (by assumption) (by assumption) (by assumption) (by assumption) (by assumption)
            have G153 : GDR S w i ∧ 0 ≤ k := ⟨H46, by omega⟩
            refine l_aload_n rfl rfl ?_
            refine l_iload rfl rfl ?_
            refine l_iload_n rfl rfl ?_
            have w93 : 0 ≤ Xi S 904 15 ∧ Xi S 904 15 ≤ 300 := hH.c _ _
            refine l_callV rfl rfl rfl (t_mo_lexOf__2 hH 0 i ⟨by omega, by omega⟩ ⟨by omega, by omega⟩ _) ?_
            rintro _ _ ⟨rfl, z94, rfl, w94, p153, n153, y153⟩
            show Rl _ _ _ _ _ [iv z94] _ _
            have W153 : z94 ≠ -1 → ∀ j : Nat, (j : Int) < Xi S 912 (z94).toNat → 0 < Xj S 913 (3 * (z94).toNat + j) ∧ Xj S 913 (3 * (z94).toNat + j) < 1152921504606846976 := fun q => hn2 (z94).toNat (by have := p153 q; omega) (by rw [(y153 q).1]; unfold SWQ at S153; omega)
            refine l_istore rfl rfl rfl ?_
            refine l_iload rfl rfl ?_
            refine l_iconst rfl ?_
            refine l_icmp_ne rfl rfl (by unfold rg; omega) (by unfold rg; omega) (fun w95 => ?_) (fun w96 => ?_)
            · refine l_aload_n rfl rfl ?_
              refine l_iload rfl rfl ?_
              refine l_iload_n rfl rfl ?_
              refine l_callV rfl rfl rfl (t_mo_byteOf__n hH z94 k ⟨by omega, by omega⟩ ⟨by omega, by omega⟩ (W153 (by omega)) _) ?_
              rintro _ _ ⟨rfl, z98, rfl, w98, w97, b172⟩
              show Rl _ _ _ _ _ [iv z98] _ _
              refine l_ireturn rfl rfl ?_
              exact ⟨rfl, _, rfl, ⟨by omega, by omega⟩, (by first | (have t := b172; exact nmx_1 S153 G153 (by omega) p153 n153 y153 (fun q => absurd q (by omega)) (fun _ => b172)) | (have t := S153; exact nmx_1 S153 G153 (by omega) p153 n153 y153 (fun _ => rfl) (fun q => absurd (by omega) q)) | (have t := H46; exact nmx_0 (Or.inr (by omega)) rfl) | (have t := G41; exact nmx_0 (Or.inl (P46b (by omega))) rfl) | exact nmx_0 (Or.inl (gdr_n (by omega) (by omega))) rfl)⟩
            · refine l_iconst rfl ?_
              refine l_goto rfl rfl ?_
              refine l_ireturn rfl rfl ?_
              exact ⟨rfl, _, rfl, ⟨by omega, by omega⟩, (by first | (have t := b172; exact nmx_1 S153 G153 (by omega) p153 n153 y153 (fun q => absurd q (by omega)) (fun _ => b172)) | (have t := S153; exact nmx_1 S153 G153 (by omega) p153 n153 y153 (fun _ => rfl) (fun q => absurd (by omega) q)) | (have t := H46; exact nmx_0 (Or.inr (by omega)) rfl) | (have t := G41; exact nmx_0 (Or.inl (P46b (by omega))) rfl) | exact nmx_0 (Or.inl (gdr_n (by omega) (by omega))) rfl)⟩
        · refine l_iconst rfl ?_
          refine l_ireturn rfl rfl ?_
          exact ⟨rfl, _, rfl, ⟨by omega, by omega⟩, (by first | (have t := b172; exact nmx_1 S153 G153 (by omega) p153 n153 y153 (fun q => absurd q (by omega)) (fun _ => b172)) | (have t := S153; exact nmx_1 S153 G153 (by omega) p153 n153 y153 (fun _ => rfl) (fun q => absurd (by omega) q)) | (have t := H46; exact nmx_0 (Or.inr (by omega)) rfl) | (have t := G41; exact nmx_0 (Or.inl (P46b (by omega))) rfl) | exact nmx_0 (Or.inl (gdr_n (by omega) (by omega))) rfl)⟩
    · refine l_iconst rfl ?_
      refine l_goto rfl rfl ?_
      have w99 : 0 ≤ Xi S 904 130 ∧ Xi S 904 130 ≤ 24 := hH.c _ _
      have w100 : 0 ≤ Xi S 904 16 ∧ Xi S 904 16 ≤ 16 := hH.c _ _
      have w101 : 0 ≤ Xi S 904 18 ∧ Xi S 904 18 ≤ 8 := hH.c _ _
      have w102 : 0 ≤ Xi S 904 19 ∧ Xi S 904 19 ≤ 24 := hH.c _ _
      have w103 : 0 ≤ Xi S 904 23 ∧ Xi S 904 23 ≤ 24 := hH.c _ _
      have w104 : 0 ≤ Xi S 904 30 ∧ Xi S 904 30 ≤ 64 := hH.c _ _
      have w105 : 0 ≤ Xi S 904 32 ∧ Xi S 904 32 ≤ 12 := hH.c _ _
      have w106 : 0 ≤ Xi S 904 41 ∧ Xi S 904 41 ≤ 6 := hH.c _ _
      have w107 : 0 ≤ Xi S 904 47 ∧ Xi S 904 47 ≤ 8 := hH.c _ _
      have w108 : 0 ≤ Xi S 904 49 ∧ Xi S 904 49 ≤ 12 := hH.c _ _
      have w109 : 0 ≤ Xi S 904 55 ∧ Xi S 904 55 ≤ 20 := hH.c _ _
      refine l_callV rfl rfl rfl (t_mo_told__q hH 0 ⟨by omega, by omega⟩ _) ?_
      rintro _ _ ⟨rfl, z110, rfl, w110, q41⟩
      show Rl _ _ _ _ _ [iv z110, iv 0, iv i] _ _
      have G41 : GDR S w i ↔ (0 ≤ i ∧ i < z110) := by first | exact gdr_y rfl (by clear q41; omega) q41 | exact gdr_p rfl (by clear q41; omega) q41
      clear q41
      refine l_iconst rfl ?_
      refine l_isub rfl ?_
      refine l_callS rfl rfl (by decide) rfl (t_mo_in hH i 0 (z110 - 1) ⟨by omega, by omega⟩ ⟨by omega, by omega⟩ ⟨by omega, by omega⟩ _) ?_
      rintro _ _ ⟨rfl, z111, rfl, w111, p46⟩
      show Rl _ _ _ _ _ [iv z111] _ _
      have P46 : z111 = 1 → GDR S w i := fun q => G41.2 (by have := p46.1 q; omega)
      have P46b : z111 = 0 → ¬ GDR S w i := fun q g => by have := G41.1 g; have := p46.2 q; omega
      clear p46
      refine l_if_eq rfl rfl (by unfold rg; omega) (fun w112 => ?_) (fun w113 => ?_)
      · refine l_iconst rfl ?_
        refine l_ireturn rfl rfl ?_
        exact ⟨rfl, _, rfl, ⟨by omega, by omega⟩, (by first | (have t := b172; exact nmx_1 S153 G153 (by omega) p153 n153 y153 (fun q => absurd q (by omega)) (fun _ => b172)) | (have t := S153; exact nmx_1 S153 G153 (by omega) p153 n153 y153 (fun _ => rfl) (fun q => absurd (by omega) q)) | (have t := H46; exact nmx_0 (Or.inr (by omega)) rfl) | (have t := G41; exact nmx_0 (Or.inl (P46b (by omega))) rfl) | exact nmx_0 (Or.inl (gdr_n (by omega) (by omega))) rfl)⟩
      · refine l_iload_n rfl rfl ?_
        have H46 := P46 (by omega)
        refine l_if_ge rfl rfl (by unfold rg; omega) (fun w114 => ?_) (fun w115 => ?_)
        · refine l_iload_n rfl rfl ?_
          refine l_if_ne rfl rfl (by unfold rg; omega) (fun w116 => ?_) (fun w117 => ?_)
          · refine l_iload_n rfl rfl ?_
            refine l_iconst rfl ?_
            refine l_icmp_ne rfl rfl (by unfold rg; omega) (by unfold rg; omega) (fun w118 => ?_) (fun w119 => ?_)
            · refine l_iload_n rfl rfl ?_
              refine l_iconst rfl ?_
              refine l_icmp_ne rfl rfl (by unfold rg; omega) (by unfold rg; omega) (fun w120 => ?_) (fun w121 => ?_)
              · refine l_iload_n rfl rfl ?_
                refine l_iconst rfl ?_
                refine l_icmp_ne rfl rfl (by unfold rg; omega) (by unfold rg; omega) (fun w122 => ?_) (fun w123 => ?_)
                · refine l_iload_n rfl rfl ?_
                  refine l_iconst rfl ?_
                  refine l_icmp_ne rfl rfl (by unfold rg; omega) (by unfold rg; omega) (fun w124 => ?_) (fun w125 => ?_)
                  · refine l_iload_n rfl rfl ?_
                    refine l_iconst rfl ?_
                    refine l_icmp_ne rfl rfl (by unfold rg; omega) (by unfold rg; omega) (fun w126 => ?_) (fun w127 => ?_)
                    · refine l_iload_n rfl rfl ?_
                      refine l_bipush rfl rfl ?_
                      refine l_icmp_ne rfl rfl (by unfold rg; omega) (by unfold rg; omega) (fun w128 => ?_) (fun w129 => ?_)
                      · refine l_iload_n rfl rfl ?_
                        refine l_bipush rfl rfl ?_
                        refine l_icmp_ne rfl rfl (by unfold rg; omega) (by unfold rg; omega) (fun w130 => ?_) (fun w131 => ?_)
                        · refine l_iload_n rfl rfl ?_
                          refine l_bipush rfl rfl ?_
                          refine l_icmp_ne rfl rfl (by unfold rg; omega) (by unfold rg; omega) (fun w132 => ?_) (fun w133 => ?_)
                          · refine l_iconst rfl ?_
                            refine l_istore rfl rfl rfl ?_
                            have S153 : SWQ w 1 := by first | exact sw_0 (by assumption) | exact sw_1 (by assumption) | exact sw_2 (by assumption) | exact sw_3 (by assumption) | exact sw_4 (by assumption) | exact sw_5 (by assumption) | exact sw_6 (by assumption) | exact sw_7 (by assumption) | exact sw_8 (by assumption) | exact sw_d c28 (by assumption) (by assumption) (by assumption) (by assumption) (by assumption) (by assumption) (by assumption) (by assumption) (by assumption)
                            have G153 : GDR S w i ∧ 0 ≤ k := ⟨H46, by omega⟩
                            refine l_aload_n rfl rfl ?_
                            refine l_iload rfl rfl ?_
                            refine l_iload_n rfl rfl ?_
                            have w134 : 0 ≤ Xi S 904 15 ∧ Xi S 904 15 ≤ 300 := hH.c _ _
                            refine l_callV rfl rfl rfl (t_mo_lexOf__2 hH 1 i ⟨by omega, by omega⟩ ⟨by omega, by omega⟩ _) ?_
                            rintro _ _ ⟨rfl, z135, rfl, w135, p153, n153, y153⟩
                            show Rl _ _ _ _ _ [iv z135] _ _
                            have W153 : z135 ≠ -1 → ∀ j : Nat, (j : Int) < Xi S 912 (z135).toNat → 0 < Xj S 913 (3 * (z135).toNat + j) ∧ Xj S 913 (3 * (z135).toNat + j) < 1152921504606846976 := fun q => hn2 (z135).toNat (by have := p153 q; omega) (by rw [(y153 q).1]; unfold SWQ at S153; omega)
                            refine l_istore rfl rfl rfl ?_
                            refine l_iload rfl rfl ?_
                            refine l_iconst rfl ?_
                            refine l_icmp_ne rfl rfl (by unfold rg; omega) (by unfold rg; omega) (fun w136 => ?_) (fun w137 => ?_)
                            · refine l_aload_n rfl rfl ?_
                              refine l_iload rfl rfl ?_
                              refine l_iload_n rfl rfl ?_
                              refine l_callV rfl rfl rfl (t_mo_byteOf__n hH z135 k ⟨by omega, by omega⟩ ⟨by omega, by omega⟩ (W153 (by omega)) _) ?_
                              rintro _ _ ⟨rfl, z139, rfl, w139, w138, b172⟩
                              show Rl _ _ _ _ _ [iv z139] _ _
                              refine l_ireturn rfl rfl ?_
                              exact ⟨rfl, _, rfl, ⟨by omega, by omega⟩, (by first | (have t := b172; exact nmx_1 S153 G153 (by omega) p153 n153 y153 (fun q => absurd q (by omega)) (fun _ => b172)) | (have t := S153; exact nmx_1 S153 G153 (by omega) p153 n153 y153 (fun _ => rfl) (fun q => absurd (by omega) q)) | (have t := H46; exact nmx_0 (Or.inr (by omega)) rfl) | (have t := G41; exact nmx_0 (Or.inl (P46b (by omega))) rfl) | exact nmx_0 (Or.inl (gdr_n (by omega) (by omega))) rfl)⟩
                            · refine l_iconst rfl ?_
                              refine l_goto rfl rfl ?_
                              refine l_ireturn rfl rfl ?_
                              exact ⟨rfl, _, rfl, ⟨by omega, by omega⟩, (by first | (have t := b172; exact nmx_1 S153 G153 (by omega) p153 n153 y153 (fun q => absurd q (by omega)) (fun _ => b172)) | (have t := S153; exact nmx_1 S153 G153 (by omega) p153 n153 y153 (fun _ => rfl) (fun q => absurd (by omega) q)) | (have t := H46; exact nmx_0 (Or.inr (by omega)) rfl) | (have t := G41; exact nmx_0 (Or.inl (P46b (by omega))) rfl) | exact nmx_0 (Or.inl (gdr_n (by omega) (by omega))) rfl)⟩
                          · refine l_bipush rfl rfl ?_
                            refine l_goto rfl rfl ?_
                            refine l_istore rfl rfl rfl ?_
                            have S153 : SWQ w 11 := by first | exact sw_0 (by assumption) | exact sw_1 (by assumption) | exact sw_2 (by assumption) | exact sw_3 (by assumption) | exact sw_4 (by assumption) | exact sw_5 (by assumption) | exact sw_6 (by assumption) | exact sw_7 (by assumption) | exact sw_8 (by assumption) | exact sw_d c28 (by assumption) (by assumption) (by assumption) (by assumption) (by assumption) (by assumption) (by assumption) (by assumption) (by assumption)
                            have G153 : GDR S w i ∧ 0 ≤ k := ⟨H46, by omega⟩
                            refine l_aload_n rfl rfl ?_
                            refine l_iload rfl rfl ?_
                            refine l_iload_n rfl rfl ?_
                            have w140 : 0 ≤ Xi S 904 15 ∧ Xi S 904 15 ≤ 300 := hH.c _ _
                            refine l_callV rfl rfl rfl (t_mo_lexOf__2 hH 11 i ⟨by omega, by omega⟩ ⟨by omega, by omega⟩ _) ?_
                            rintro _ _ ⟨rfl, z141, rfl, w141, p153, n153, y153⟩
                            show Rl _ _ _ _ _ [iv z141] _ _
                            have W153 : z141 ≠ -1 → ∀ j : Nat, (j : Int) < Xi S 912 (z141).toNat → 0 < Xj S 913 (3 * (z141).toNat + j) ∧ Xj S 913 (3 * (z141).toNat + j) < 1152921504606846976 := fun q => hn2 (z141).toNat (by have := p153 q; omega) (by rw [(y153 q).1]; unfold SWQ at S153; omega)
                            refine l_istore rfl rfl rfl ?_
                            refine l_iload rfl rfl ?_
                            refine l_iconst rfl ?_
                            refine l_icmp_ne rfl rfl (by unfold rg; omega) (by unfold rg; omega) (fun w142 => ?_) (fun w143 => ?_)
                            · refine l_aload_n rfl rfl ?_
                              refine l_iload rfl rfl ?_
                              refine l_iload_n rfl rfl ?_
                              refine l_callV rfl rfl rfl (t_mo_byteOf__n hH z141 k ⟨by omega, by omega⟩ ⟨by omega, by omega⟩ (W153 (by omega)) _) ?_
                              rintro _ _ ⟨rfl, z145, rfl, w145, w144, b172⟩
                              show Rl _ _ _ _ _ [iv z145] _ _
                              refine l_ireturn rfl rfl ?_
                              exact ⟨rfl, _, rfl, ⟨by omega, by omega⟩, (by first | (have t := b172; exact nmx_1 S153 G153 (by omega) p153 n153 y153 (fun q => absurd q (by omega)) (fun _ => b172)) | (have t := S153; exact nmx_1 S153 G153 (by omega) p153 n153 y153 (fun _ => rfl) (fun q => absurd (by omega) q)) | (have t := H46; exact nmx_0 (Or.inr (by omega)) rfl) | (have t := G41; exact nmx_0 (Or.inl (P46b (by omega))) rfl) | exact nmx_0 (Or.inl (gdr_n (by omega) (by omega))) rfl)⟩
                            · refine l_iconst rfl ?_
                              refine l_goto rfl rfl ?_
                              refine l_ireturn rfl rfl ?_
                              exact ⟨rfl, _, rfl, ⟨by omega, by omega⟩, (by first | (have t := b172; exact nmx_1 S153 G153 (by omega) p153 n153 y153 (fun q => absurd q (by omega)) (fun _ => b172)) | (have t := S153; exact nmx_1 S153 G153 (by omega) p153 n153 y153 (fun _ => rfl) (fun q => absurd (by omega) q)) | (have t := H46; exact nmx_0 (Or.inr (by omega)) rfl) | (have t := G41; exact nmx_0 (Or.inl (P46b (by omega))) rfl) | exact nmx_0 (Or.inl (gdr_n (by omega) (by omega))) rfl)⟩
                        · refine l_bipush rfl rfl ?_
                          refine l_goto rfl rfl ?_
                          refine l_istore rfl rfl rfl ?_
                          have S153 : SWQ w 9 := by first | exact sw_0 (by assumption) | exact sw_1 (by assumption) | exact sw_2 (by assumption) | exact sw_3 (by assumption) | exact sw_4 (by assumption) | exact sw_5 (by assumption) | exact sw_6 (by assumption) | exact sw_7 (by assumption) | exact sw_8 (by assumption) | exact sw_d c28 (by assumption) (by assumption) (by assumption) (by assumption) (by assumption) (by assumption) (by assumption) (by assumption) (by assumption)
                          have G153 : GDR S w i ∧ 0 ≤ k := ⟨H46, by omega⟩
                          refine l_aload_n rfl rfl ?_
                          refine l_iload rfl rfl ?_
                          refine l_iload_n rfl rfl ?_
                          have w146 : 0 ≤ Xi S 904 15 ∧ Xi S 904 15 ≤ 300 := hH.c _ _
                          refine l_callV rfl rfl rfl (t_mo_lexOf__2 hH 9 i ⟨by omega, by omega⟩ ⟨by omega, by omega⟩ _) ?_
                          rintro _ _ ⟨rfl, z147, rfl, w147, p153, n153, y153⟩
                          show Rl _ _ _ _ _ [iv z147] _ _
                          have W153 : z147 ≠ -1 → ∀ j : Nat, (j : Int) < Xi S 912 (z147).toNat → 0 < Xj S 913 (3 * (z147).toNat + j) ∧ Xj S 913 (3 * (z147).toNat + j) < 1152921504606846976 := fun q => hn2 (z147).toNat (by have := p153 q; omega) (by rw [(y153 q).1]; unfold SWQ at S153; omega)
                          refine l_istore rfl rfl rfl ?_
                          refine l_iload rfl rfl ?_
                          refine l_iconst rfl ?_
                          refine l_icmp_ne rfl rfl (by unfold rg; omega) (by unfold rg; omega) (fun w148 => ?_) (fun w149 => ?_)
                          · refine l_aload_n rfl rfl ?_
                            refine l_iload rfl rfl ?_
                            refine l_iload_n rfl rfl ?_
                            refine l_callV rfl rfl rfl (t_mo_byteOf__n hH z147 k ⟨by omega, by omega⟩ ⟨by omega, by omega⟩ (W153 (by omega)) _) ?_
                            rintro _ _ ⟨rfl, z151, rfl, w151, w150, b172⟩
                            show Rl _ _ _ _ _ [iv z151] _ _
                            refine l_ireturn rfl rfl ?_
                            exact ⟨rfl, _, rfl, ⟨by omega, by omega⟩, (by first | (have t := b172; exact nmx_1 S153 G153 (by omega) p153 n153 y153 (fun q => absurd q (by omega)) (fun _ => b172)) | (have t := S153; exact nmx_1 S153 G153 (by omega) p153 n153 y153 (fun _ => rfl) (fun q => absurd (by omega) q)) | (have t := H46; exact nmx_0 (Or.inr (by omega)) rfl) | (have t := G41; exact nmx_0 (Or.inl (P46b (by omega))) rfl) | exact nmx_0 (Or.inl (gdr_n (by omega) (by omega))) rfl)⟩
                          · refine l_iconst rfl ?_
                            refine l_goto rfl rfl ?_
                            refine l_ireturn rfl rfl ?_
                            exact ⟨rfl, _, rfl, ⟨by omega, by omega⟩, (by first | (have t := b172; exact nmx_1 S153 G153 (by omega) p153 n153 y153 (fun q => absurd q (by omega)) (fun _ => b172)) | (have t := S153; exact nmx_1 S153 G153 (by omega) p153 n153 y153 (fun _ => rfl) (fun q => absurd (by omega) q)) | (have t := H46; exact nmx_0 (Or.inr (by omega)) rfl) | (have t := G41; exact nmx_0 (Or.inl (P46b (by omega))) rfl) | exact nmx_0 (Or.inl (gdr_n (by omega) (by omega))) rfl)⟩
                      · refine l_bipush rfl rfl ?_
                        refine l_goto rfl rfl ?_
                        refine l_istore rfl rfl rfl ?_
                        have S153 : SWQ w 8 := by first | exact sw_0 (by assumption) | exact sw_1 (by assumption) | exact sw_2 (by assumption) | exact sw_3 (by assumption) | exact sw_4 (by assumption) | exact sw_5 (by assumption) | exact sw_6 (by assumption) | exact sw_7 (by assumption) | exact sw_8 (by assumption) | exact sw_d c28 (by assumption) (by assumption) (by assumption) (by assumption) (by assumption) (by assumption) (by assumption) (by assumption) (by assumption)
                        have G153 : GDR S w i ∧ 0 ≤ k := ⟨H46, by omega⟩
                        refine l_aload_n rfl rfl ?_
                        refine l_iload rfl rfl ?_
                        refine l_iload_n rfl rfl ?_
                        have w152 : 0 ≤ Xi S 904 15 ∧ Xi S 904 15 ≤ 300 := hH.c _ _
                        refine l_callV rfl rfl rfl (t_mo_lexOf__2 hH 8 i ⟨by omega, by omega⟩ ⟨by omega, by omega⟩ _) ?_
                        rintro _ _ ⟨rfl, z153, rfl, w153, p153, n153, y153⟩
                        show Rl _ _ _ _ _ [iv z153] _ _
                        have W153 : z153 ≠ -1 → ∀ j : Nat, (j : Int) < Xi S 912 (z153).toNat → 0 < Xj S 913 (3 * (z153).toNat + j) ∧ Xj S 913 (3 * (z153).toNat + j) < 1152921504606846976 := fun q => hn2 (z153).toNat (by have := p153 q; omega) (by rw [(y153 q).1]; unfold SWQ at S153; omega)
                        refine l_istore rfl rfl rfl ?_
                        refine l_iload rfl rfl ?_
                        refine l_iconst rfl ?_
                        refine l_icmp_ne rfl rfl (by unfold rg; omega) (by unfold rg; omega) (fun w154 => ?_) (fun w155 => ?_)
                        · refine l_aload_n rfl rfl ?_
                          refine l_iload rfl rfl ?_
                          refine l_iload_n rfl rfl ?_
                          refine l_callV rfl rfl rfl (t_mo_byteOf__n hH z153 k ⟨by omega, by omega⟩ ⟨by omega, by omega⟩ (W153 (by omega)) _) ?_
                          rintro _ _ ⟨rfl, z157, rfl, w157, w156, b172⟩
                          show Rl _ _ _ _ _ [iv z157] _ _
                          refine l_ireturn rfl rfl ?_
                          exact ⟨rfl, _, rfl, ⟨by omega, by omega⟩, (by first | (have t := b172; exact nmx_1 S153 G153 (by omega) p153 n153 y153 (fun q => absurd q (by omega)) (fun _ => b172)) | (have t := S153; exact nmx_1 S153 G153 (by omega) p153 n153 y153 (fun _ => rfl) (fun q => absurd (by omega) q)) | (have t := H46; exact nmx_0 (Or.inr (by omega)) rfl) | (have t := G41; exact nmx_0 (Or.inl (P46b (by omega))) rfl) | exact nmx_0 (Or.inl (gdr_n (by omega) (by omega))) rfl)⟩
                        · refine l_iconst rfl ?_
                          refine l_goto rfl rfl ?_
                          refine l_ireturn rfl rfl ?_
                          exact ⟨rfl, _, rfl, ⟨by omega, by omega⟩, (by first | (have t := b172; exact nmx_1 S153 G153 (by omega) p153 n153 y153 (fun q => absurd q (by omega)) (fun _ => b172)) | (have t := S153; exact nmx_1 S153 G153 (by omega) p153 n153 y153 (fun _ => rfl) (fun q => absurd (by omega) q)) | (have t := H46; exact nmx_0 (Or.inr (by omega)) rfl) | (have t := G41; exact nmx_0 (Or.inl (P46b (by omega))) rfl) | exact nmx_0 (Or.inl (gdr_n (by omega) (by omega))) rfl)⟩
                    · refine l_bipush rfl rfl ?_
                      refine l_goto rfl rfl ?_
                      refine l_istore rfl rfl rfl ?_
                      have S153 : SWQ w 7 := by first | exact sw_0 (by assumption) | exact sw_1 (by assumption) | exact sw_2 (by assumption) | exact sw_3 (by assumption) | exact sw_4 (by assumption) | exact sw_5 (by assumption) | exact sw_6 (by assumption) | exact sw_7 (by assumption) | exact sw_8 (by assumption) | exact sw_d c28 (by assumption) (by assumption) (by assumption) (by assumption) (by assumption) (by assumption) (by assumption) (by assumption) (by assumption)
                      have G153 : GDR S w i ∧ 0 ≤ k := ⟨H46, by omega⟩
                      refine l_aload_n rfl rfl ?_
                      refine l_iload rfl rfl ?_
                      refine l_iload_n rfl rfl ?_
                      have w158 : 0 ≤ Xi S 904 15 ∧ Xi S 904 15 ≤ 300 := hH.c _ _
                      refine l_callV rfl rfl rfl (t_mo_lexOf__2 hH 7 i ⟨by omega, by omega⟩ ⟨by omega, by omega⟩ _) ?_
                      rintro _ _ ⟨rfl, z159, rfl, w159, p153, n153, y153⟩
                      show Rl _ _ _ _ _ [iv z159] _ _
                      have W153 : z159 ≠ -1 → ∀ j : Nat, (j : Int) < Xi S 912 (z159).toNat → 0 < Xj S 913 (3 * (z159).toNat + j) ∧ Xj S 913 (3 * (z159).toNat + j) < 1152921504606846976 := fun q => hn2 (z159).toNat (by have := p153 q; omega) (by rw [(y153 q).1]; unfold SWQ at S153; omega)
                      refine l_istore rfl rfl rfl ?_
                      refine l_iload rfl rfl ?_
                      refine l_iconst rfl ?_
                      refine l_icmp_ne rfl rfl (by unfold rg; omega) (by unfold rg; omega) (fun w160 => ?_) (fun w161 => ?_)
                      · refine l_aload_n rfl rfl ?_
                        refine l_iload rfl rfl ?_
                        refine l_iload_n rfl rfl ?_
                        refine l_callV rfl rfl rfl (t_mo_byteOf__n hH z159 k ⟨by omega, by omega⟩ ⟨by omega, by omega⟩ (W153 (by omega)) _) ?_
                        rintro _ _ ⟨rfl, z163, rfl, w163, w162, b172⟩
                        show Rl _ _ _ _ _ [iv z163] _ _
                        refine l_ireturn rfl rfl ?_
                        exact ⟨rfl, _, rfl, ⟨by omega, by omega⟩, (by first | (have t := b172; exact nmx_1 S153 G153 (by omega) p153 n153 y153 (fun q => absurd q (by omega)) (fun _ => b172)) | (have t := S153; exact nmx_1 S153 G153 (by omega) p153 n153 y153 (fun _ => rfl) (fun q => absurd (by omega) q)) | (have t := H46; exact nmx_0 (Or.inr (by omega)) rfl) | (have t := G41; exact nmx_0 (Or.inl (P46b (by omega))) rfl) | exact nmx_0 (Or.inl (gdr_n (by omega) (by omega))) rfl)⟩
                      · refine l_iconst rfl ?_
                        refine l_goto rfl rfl ?_
                        refine l_ireturn rfl rfl ?_
                        exact ⟨rfl, _, rfl, ⟨by omega, by omega⟩, (by first | (have t := b172; exact nmx_1 S153 G153 (by omega) p153 n153 y153 (fun q => absurd q (by omega)) (fun _ => b172)) | (have t := S153; exact nmx_1 S153 G153 (by omega) p153 n153 y153 (fun _ => rfl) (fun q => absurd (by omega) q)) | (have t := H46; exact nmx_0 (Or.inr (by omega)) rfl) | (have t := G41; exact nmx_0 (Or.inl (P46b (by omega))) rfl) | exact nmx_0 (Or.inl (gdr_n (by omega) (by omega))) rfl)⟩
                  · refine l_bipush rfl rfl ?_
                    refine l_goto rfl rfl ?_
                    refine l_istore rfl rfl rfl ?_
                    have S153 : SWQ w 6 := by first | exact sw_0 (by assumption) | exact sw_1 (by assumption) | exact sw_2 (by assumption) | exact sw_3 (by assumption) | exact sw_4 (by assumption) | exact sw_5 (by assumption) | exact sw_6 (by assumption) | exact sw_7 (by assumption) | exact sw_8 (by assumption) | exact sw_d c28 (by assumption) (by assumption) (by assumption) (by assumption) (by assumption) (by assumption) (by assumption) (by assumption) (by assumption)
                    have G153 : GDR S w i ∧ 0 ≤ k := ⟨H46, by omega⟩
                    refine l_aload_n rfl rfl ?_
                    refine l_iload rfl rfl ?_
                    refine l_iload_n rfl rfl ?_
                    have w164 : 0 ≤ Xi S 904 15 ∧ Xi S 904 15 ≤ 300 := hH.c _ _
                    refine l_callV rfl rfl rfl (t_mo_lexOf__2 hH 6 i ⟨by omega, by omega⟩ ⟨by omega, by omega⟩ _) ?_
                    rintro _ _ ⟨rfl, z165, rfl, w165, p153, n153, y153⟩
                    show Rl _ _ _ _ _ [iv z165] _ _
                    have W153 : z165 ≠ -1 → ∀ j : Nat, (j : Int) < Xi S 912 (z165).toNat → 0 < Xj S 913 (3 * (z165).toNat + j) ∧ Xj S 913 (3 * (z165).toNat + j) < 1152921504606846976 := fun q => hn2 (z165).toNat (by have := p153 q; omega) (by rw [(y153 q).1]; unfold SWQ at S153; omega)
                    refine l_istore rfl rfl rfl ?_
                    refine l_iload rfl rfl ?_
                    refine l_iconst rfl ?_
                    refine l_icmp_ne rfl rfl (by unfold rg; omega) (by unfold rg; omega) (fun w166 => ?_) (fun w167 => ?_)
                    · refine l_aload_n rfl rfl ?_
                      refine l_iload rfl rfl ?_
                      refine l_iload_n rfl rfl ?_
                      refine l_callV rfl rfl rfl (t_mo_byteOf__n hH z165 k ⟨by omega, by omega⟩ ⟨by omega, by omega⟩ (W153 (by omega)) _) ?_
                      rintro _ _ ⟨rfl, z169, rfl, w169, w168, b172⟩
                      show Rl _ _ _ _ _ [iv z169] _ _
                      refine l_ireturn rfl rfl ?_
                      exact ⟨rfl, _, rfl, ⟨by omega, by omega⟩, (by first | (have t := b172; exact nmx_1 S153 G153 (by omega) p153 n153 y153 (fun q => absurd q (by omega)) (fun _ => b172)) | (have t := S153; exact nmx_1 S153 G153 (by omega) p153 n153 y153 (fun _ => rfl) (fun q => absurd (by omega) q)) | (have t := H46; exact nmx_0 (Or.inr (by omega)) rfl) | (have t := G41; exact nmx_0 (Or.inl (P46b (by omega))) rfl) | exact nmx_0 (Or.inl (gdr_n (by omega) (by omega))) rfl)⟩
                    · refine l_iconst rfl ?_
                      refine l_goto rfl rfl ?_
                      refine l_ireturn rfl rfl ?_
                      exact ⟨rfl, _, rfl, ⟨by omega, by omega⟩, (by first | (have t := b172; exact nmx_1 S153 G153 (by omega) p153 n153 y153 (fun q => absurd q (by omega)) (fun _ => b172)) | (have t := S153; exact nmx_1 S153 G153 (by omega) p153 n153 y153 (fun _ => rfl) (fun q => absurd (by omega) q)) | (have t := H46; exact nmx_0 (Or.inr (by omega)) rfl) | (have t := G41; exact nmx_0 (Or.inl (P46b (by omega))) rfl) | exact nmx_0 (Or.inl (gdr_n (by omega) (by omega))) rfl)⟩
                · refine l_iconst rfl ?_
                  refine l_goto rfl rfl ?_
                  refine l_istore rfl rfl rfl ?_
                  have S153 : SWQ w 5 := by first | exact sw_0 (by assumption) | exact sw_1 (by assumption) | exact sw_2 (by assumption) | exact sw_3 (by assumption) | exact sw_4 (by assumption) | exact sw_5 (by assumption) | exact sw_6 (by assumption) | exact sw_7 (by assumption) | exact sw_8 (by assumption) | exact sw_d c28 (by assumption) (by assumption) (by assumption) (by assumption) (by assumption) (by assumption) (by assumption) (by assumption) (by assumption)
                  have G153 : GDR S w i ∧ 0 ≤ k := ⟨H46, by omega⟩
                  refine l_aload_n rfl rfl ?_
                  refine l_iload rfl rfl ?_
                  refine l_iload_n rfl rfl ?_
                  have w170 : 0 ≤ Xi S 904 15 ∧ Xi S 904 15 ≤ 300 := hH.c _ _
                  refine l_callV rfl rfl rfl (t_mo_lexOf__2 hH 5 i ⟨by omega, by omega⟩ ⟨by omega, by omega⟩ _) ?_
                  rintro _ _ ⟨rfl, z171, rfl, w171, p153, n153, y153⟩
                  show Rl _ _ _ _ _ [iv z171] _ _
                  have W153 : z171 ≠ -1 → ∀ j : Nat, (j : Int) < Xi S 912 (z171).toNat → 0 < Xj S 913 (3 * (z171).toNat + j) ∧ Xj S 913 (3 * (z171).toNat + j) < 1152921504606846976 := fun q => hn2 (z171).toNat (by have := p153 q; omega) (by rw [(y153 q).1]; unfold SWQ at S153; omega)
                  refine l_istore rfl rfl rfl ?_
                  refine l_iload rfl rfl ?_
                  refine l_iconst rfl ?_
                  refine l_icmp_ne rfl rfl (by unfold rg; omega) (by unfold rg; omega) (fun w172 => ?_) (fun w173 => ?_)
                  · refine l_aload_n rfl rfl ?_
                    refine l_iload rfl rfl ?_
                    refine l_iload_n rfl rfl ?_
                    refine l_callV rfl rfl rfl (t_mo_byteOf__n hH z171 k ⟨by omega, by omega⟩ ⟨by omega, by omega⟩ (W153 (by omega)) _) ?_
                    rintro _ _ ⟨rfl, z175, rfl, w175, w174, b172⟩
                    show Rl _ _ _ _ _ [iv z175] _ _
                    refine l_ireturn rfl rfl ?_
                    exact ⟨rfl, _, rfl, ⟨by omega, by omega⟩, (by first | (have t := b172; exact nmx_1 S153 G153 (by omega) p153 n153 y153 (fun q => absurd q (by omega)) (fun _ => b172)) | (have t := S153; exact nmx_1 S153 G153 (by omega) p153 n153 y153 (fun _ => rfl) (fun q => absurd (by omega) q)) | (have t := H46; exact nmx_0 (Or.inr (by omega)) rfl) | (have t := G41; exact nmx_0 (Or.inl (P46b (by omega))) rfl) | exact nmx_0 (Or.inl (gdr_n (by omega) (by omega))) rfl)⟩
                  · refine l_iconst rfl ?_
                    refine l_goto rfl rfl ?_
                    refine l_ireturn rfl rfl ?_
                    exact ⟨rfl, _, rfl, ⟨by omega, by omega⟩, (by first | (have t := b172; exact nmx_1 S153 G153 (by omega) p153 n153 y153 (fun q => absurd q (by omega)) (fun _ => b172)) | (have t := S153; exact nmx_1 S153 G153 (by omega) p153 n153 y153 (fun _ => rfl) (fun q => absurd (by omega) q)) | (have t := H46; exact nmx_0 (Or.inr (by omega)) rfl) | (have t := G41; exact nmx_0 (Or.inl (P46b (by omega))) rfl) | exact nmx_0 (Or.inl (gdr_n (by omega) (by omega))) rfl)⟩
              · refine l_iconst rfl ?_
                refine l_goto rfl rfl ?_
                refine l_istore rfl rfl rfl ?_
                have S153 : SWQ w 4 := by first | exact sw_0 (by assumption) | exact sw_1 (by assumption) | exact sw_2 (by assumption) | exact sw_3 (by assumption) | exact sw_4 (by assumption) | exact sw_5 (by assumption) | exact sw_6 (by assumption) | exact sw_7 (by assumption) | exact sw_8 (by assumption) | exact sw_d c28 (by assumption) (by assumption) (by assumption) (by assumption) (by assumption) (by assumption) (by assumption) (by assumption) (by assumption)
                have G153 : GDR S w i ∧ 0 ≤ k := ⟨H46, by omega⟩
                refine l_aload_n rfl rfl ?_
                refine l_iload rfl rfl ?_
                refine l_iload_n rfl rfl ?_
                have w176 : 0 ≤ Xi S 904 15 ∧ Xi S 904 15 ≤ 300 := hH.c _ _
                refine l_callV rfl rfl rfl (t_mo_lexOf__2 hH 4 i ⟨by omega, by omega⟩ ⟨by omega, by omega⟩ _) ?_
                rintro _ _ ⟨rfl, z177, rfl, w177, p153, n153, y153⟩
                show Rl _ _ _ _ _ [iv z177] _ _
                have W153 : z177 ≠ -1 → ∀ j : Nat, (j : Int) < Xi S 912 (z177).toNat → 0 < Xj S 913 (3 * (z177).toNat + j) ∧ Xj S 913 (3 * (z177).toNat + j) < 1152921504606846976 := fun q => hn2 (z177).toNat (by have := p153 q; omega) (by rw [(y153 q).1]; unfold SWQ at S153; omega)
                refine l_istore rfl rfl rfl ?_
                refine l_iload rfl rfl ?_
                refine l_iconst rfl ?_
                refine l_icmp_ne rfl rfl (by unfold rg; omega) (by unfold rg; omega) (fun w178 => ?_) (fun w179 => ?_)
                · refine l_aload_n rfl rfl ?_
                  refine l_iload rfl rfl ?_
                  refine l_iload_n rfl rfl ?_
                  refine l_callV rfl rfl rfl (t_mo_byteOf__n hH z177 k ⟨by omega, by omega⟩ ⟨by omega, by omega⟩ (W153 (by omega)) _) ?_
                  rintro _ _ ⟨rfl, z181, rfl, w181, w180, b172⟩
                  show Rl _ _ _ _ _ [iv z181] _ _
                  refine l_ireturn rfl rfl ?_
                  exact ⟨rfl, _, rfl, ⟨by omega, by omega⟩, (by first | (have t := b172; exact nmx_1 S153 G153 (by omega) p153 n153 y153 (fun q => absurd q (by omega)) (fun _ => b172)) | (have t := S153; exact nmx_1 S153 G153 (by omega) p153 n153 y153 (fun _ => rfl) (fun q => absurd (by omega) q)) | (have t := H46; exact nmx_0 (Or.inr (by omega)) rfl) | (have t := G41; exact nmx_0 (Or.inl (P46b (by omega))) rfl) | exact nmx_0 (Or.inl (gdr_n (by omega) (by omega))) rfl)⟩
                · refine l_iconst rfl ?_
                  refine l_goto rfl rfl ?_
                  refine l_ireturn rfl rfl ?_
                  exact ⟨rfl, _, rfl, ⟨by omega, by omega⟩, (by first | (have t := b172; exact nmx_1 S153 G153 (by omega) p153 n153 y153 (fun q => absurd q (by omega)) (fun _ => b172)) | (have t := S153; exact nmx_1 S153 G153 (by omega) p153 n153 y153 (fun _ => rfl) (fun q => absurd (by omega) q)) | (have t := H46; exact nmx_0 (Or.inr (by omega)) rfl) | (have t := G41; exact nmx_0 (Or.inl (P46b (by omega))) rfl) | exact nmx_0 (Or.inl (gdr_n (by omega) (by omega))) rfl)⟩
            · refine l_iconst rfl ?_
              refine l_goto rfl rfl ?_
              refine l_istore rfl rfl rfl ?_
              have S153 : SWQ w 2 := by first | exact sw_0 (by assumption) | exact sw_1 (by assumption) | exact sw_2 (by assumption) | exact sw_3 (by assumption) | exact sw_4 (by assumption) | exact sw_5 (by assumption) | exact sw_6 (by assumption) | exact sw_7 (by assumption) | exact sw_8 (by assumption) | exact sw_d c28 (by assumption) (by assumption) (by assumption) (by assumption) (by assumption) (by assumption) (by assumption) (by assumption) (by assumption)
              have G153 : GDR S w i ∧ 0 ≤ k := ⟨H46, by omega⟩
              refine l_aload_n rfl rfl ?_
              refine l_iload rfl rfl ?_
              refine l_iload_n rfl rfl ?_
              have w182 : 0 ≤ Xi S 904 15 ∧ Xi S 904 15 ≤ 300 := hH.c _ _
              refine l_callV rfl rfl rfl (t_mo_lexOf__2 hH 2 i ⟨by omega, by omega⟩ ⟨by omega, by omega⟩ _) ?_
              rintro _ _ ⟨rfl, z183, rfl, w183, p153, n153, y153⟩
              show Rl _ _ _ _ _ [iv z183] _ _
              have W153 : z183 ≠ -1 → ∀ j : Nat, (j : Int) < Xi S 912 (z183).toNat → 0 < Xj S 913 (3 * (z183).toNat + j) ∧ Xj S 913 (3 * (z183).toNat + j) < 1152921504606846976 := fun q => hn2 (z183).toNat (by have := p153 q; omega) (by rw [(y153 q).1]; unfold SWQ at S153; omega)
              refine l_istore rfl rfl rfl ?_
              refine l_iload rfl rfl ?_
              refine l_iconst rfl ?_
              refine l_icmp_ne rfl rfl (by unfold rg; omega) (by unfold rg; omega) (fun w184 => ?_) (fun w185 => ?_)
              · refine l_aload_n rfl rfl ?_
                refine l_iload rfl rfl ?_
                refine l_iload_n rfl rfl ?_
                refine l_callV rfl rfl rfl (t_mo_byteOf__n hH z183 k ⟨by omega, by omega⟩ ⟨by omega, by omega⟩ (W153 (by omega)) _) ?_
                rintro _ _ ⟨rfl, z187, rfl, w187, w186, b172⟩
                show Rl _ _ _ _ _ [iv z187] _ _
                refine l_ireturn rfl rfl ?_
                exact ⟨rfl, _, rfl, ⟨by omega, by omega⟩, (by first | (have t := b172; exact nmx_1 S153 G153 (by omega) p153 n153 y153 (fun q => absurd q (by omega)) (fun _ => b172)) | (have t := S153; exact nmx_1 S153 G153 (by omega) p153 n153 y153 (fun _ => rfl) (fun q => absurd (by omega) q)) | (have t := H46; exact nmx_0 (Or.inr (by omega)) rfl) | (have t := G41; exact nmx_0 (Or.inl (P46b (by omega))) rfl) | exact nmx_0 (Or.inl (gdr_n (by omega) (by omega))) rfl)⟩
              · refine l_iconst rfl ?_
                refine l_goto rfl rfl ?_
                refine l_ireturn rfl rfl ?_
                exact ⟨rfl, _, rfl, ⟨by omega, by omega⟩, (by first | (have t := b172; exact nmx_1 S153 G153 (by omega) p153 n153 y153 (fun q => absurd q (by omega)) (fun _ => b172)) | (have t := S153; exact nmx_1 S153 G153 (by omega) p153 n153 y153 (fun _ => rfl) (fun q => absurd (by omega) q)) | (have t := H46; exact nmx_0 (Or.inr (by omega)) rfl) | (have t := G41; exact nmx_0 (Or.inl (P46b (by omega))) rfl) | exact nmx_0 (Or.inl (gdr_n (by omega) (by omega))) rfl)⟩
          · refine l_iconst rfl ?_
            refine l_goto rfl rfl ?_
            refine l_istore rfl rfl rfl ?_
            have S153 : SWQ w 0 := by first | exact sw_0 (by assumption) | exact sw_1 (by assumption) | exact sw_2 (by assumption) | exact sw_3 (by assumption) | exact sw_4 (by assumption) | exact sw_5 (by assumption) | exact sw_6 (by assumption) | exact sw_7 (by assumption) | exact sw_8 (by assumption) | exact sw_d c28 (by assumption) (by assumption) (by assumption) (by assumption) (by assumption) (by assumption) (by assumption) (by assumption) (by assumption)
            have G153 : GDR S w i ∧ 0 ≤ k := ⟨H46, by omega⟩
            refine l_aload_n rfl rfl ?_
            refine l_iload rfl rfl ?_
            refine l_iload_n rfl rfl ?_
            have w188 : 0 ≤ Xi S 904 15 ∧ Xi S 904 15 ≤ 300 := hH.c _ _
            refine l_callV rfl rfl rfl (t_mo_lexOf__2 hH 0 i ⟨by omega, by omega⟩ ⟨by omega, by omega⟩ _) ?_
            rintro _ _ ⟨rfl, z189, rfl, w189, p153, n153, y153⟩
            show Rl _ _ _ _ _ [iv z189] _ _
            have W153 : z189 ≠ -1 → ∀ j : Nat, (j : Int) < Xi S 912 (z189).toNat → 0 < Xj S 913 (3 * (z189).toNat + j) ∧ Xj S 913 (3 * (z189).toNat + j) < 1152921504606846976 := fun q => hn2 (z189).toNat (by have := p153 q; omega) (by rw [(y153 q).1]; unfold SWQ at S153; omega)
            refine l_istore rfl rfl rfl ?_
            refine l_iload rfl rfl ?_
            refine l_iconst rfl ?_
            refine l_icmp_ne rfl rfl (by unfold rg; omega) (by unfold rg; omega) (fun w190 => ?_) (fun w191 => ?_)
            · refine l_aload_n rfl rfl ?_
              refine l_iload rfl rfl ?_
              refine l_iload_n rfl rfl ?_
              refine l_callV rfl rfl rfl (t_mo_byteOf__n hH z189 k ⟨by omega, by omega⟩ ⟨by omega, by omega⟩ (W153 (by omega)) _) ?_
              rintro _ _ ⟨rfl, z193, rfl, w193, w192, b172⟩
              show Rl _ _ _ _ _ [iv z193] _ _
              refine l_ireturn rfl rfl ?_
              exact ⟨rfl, _, rfl, ⟨by omega, by omega⟩, (by first | (have t := b172; exact nmx_1 S153 G153 (by omega) p153 n153 y153 (fun q => absurd q (by omega)) (fun _ => b172)) | (have t := S153; exact nmx_1 S153 G153 (by omega) p153 n153 y153 (fun _ => rfl) (fun q => absurd (by omega) q)) | (have t := H46; exact nmx_0 (Or.inr (by omega)) rfl) | (have t := G41; exact nmx_0 (Or.inl (P46b (by omega))) rfl) | exact nmx_0 (Or.inl (gdr_n (by omega) (by omega))) rfl)⟩
            · refine l_iconst rfl ?_
              refine l_goto rfl rfl ?_
              refine l_ireturn rfl rfl ?_
              exact ⟨rfl, _, rfl, ⟨by omega, by omega⟩, (by first | (have t := b172; exact nmx_1 S153 G153 (by omega) p153 n153 y153 (fun q => absurd q (by omega)) (fun _ => b172)) | (have t := S153; exact nmx_1 S153 G153 (by omega) p153 n153 y153 (fun _ => rfl) (fun q => absurd (by omega) q)) | (have t := H46; exact nmx_0 (Or.inr (by omega)) rfl) | (have t := G41; exact nmx_0 (Or.inl (P46b (by omega))) rfl) | exact nmx_0 (Or.inl (gdr_n (by omega) (by omega))) rfl)⟩
        · refine l_iconst rfl ?_
          refine l_ireturn rfl rfl ?_
          exact ⟨rfl, _, rfl, ⟨by omega, by omega⟩, (by first | (have t := b172; exact nmx_1 S153 G153 (by omega) p153 n153 y153 (fun q => absurd q (by omega)) (fun _ => b172)) | (have t := S153; exact nmx_1 S153 G153 (by omega) p153 n153 y153 (fun _ => rfl) (fun q => absurd (by omega) q)) | (have t := H46; exact nmx_0 (Or.inr (by omega)) rfl) | (have t := G41; exact nmx_0 (Or.inl (P46b (by omega))) rfl) | exact nmx_0 (Or.inl (gdr_n (by omega) (by omega))) rfl)⟩
  refine l_iload_n rfl rfl ?_
  refine l_bipush rfl rfl ?_
  refine l_icmp_ne rfl rfl (by unfold rg; omega) (by unfold rg; omega) (fun w194 => ?_) (fun w195 => ?_)
  · refine l_iconst rfl ?_
    refine l_istore rfl rfl rfl ?_
    refine l_iload rfl rfl ?_
    refine l_if_ne rfl rfl (by unfold rg; omega) (fun w196 => absurd w196 (by omega)) (fun w197 => ?_)
    · refine l_iload_n rfl rfl ?_
      refine l_iconst rfl ?_
      refine l_bipush rfl rfl ?_
      refine l_callS rfl rfl (by decide) rfl (t_mo_in hH w 0 8 ⟨by omega, by omega⟩ ⟨by omega, by omega⟩ ⟨by omega, by omega⟩ _) ?_
      rintro _ _ ⟨rfl, z199, rfl, w199, w198⟩
      show Rl _ _ _ _ _ [iv z199] _ _
      refine l_if_eq rfl rfl (by unfold rg; omega) (fun w200 => ?_) (fun w201 => ?_)
      · refine l_iconst rfl ?_
        refine l_ireturn rfl rfl ?_
        exact ⟨rfl, _, rfl, ⟨by omega, by omega⟩, (by first | (have t := b172; exact nmx_1 S153 G153 (by omega) p153 n153 y153 (fun q => absurd q (by omega)) (fun _ => b172)) | (have t := S153; exact nmx_1 S153 G153 (by omega) p153 n153 y153 (fun _ => rfl) (fun q => absurd (by omega) q)) | (have t := H46; exact nmx_0 (Or.inr (by omega)) rfl) | (have t := G41; exact nmx_0 (Or.inl (P46b (by omega))) rfl) | exact nmx_0 (Or.inl (gdr_n (by omega) (by omega))) rfl)⟩
      · exact Rl_weak (C28 (0) (by omega) (by omega)) (And.intro rfl (And.intro rfl (And.intro rfl (And.intro rfl (And.intro rfl (True.intro))))))
  · refine l_iconst rfl ?_
    refine l_goto rfl rfl ?_
    refine l_istore rfl rfl rfl ?_
    refine l_iload rfl rfl ?_
    refine l_if_ne rfl rfl (by unfold rg; omega) (fun w202 => ?_) (fun w203 => absurd w203 (by omega))
    · exact Rl_weak (C28 (1) (by omega) (by omega)) (And.intro rfl (And.intro rfl (And.intro rfl (And.intro rfl (And.intro rfl (True.intro))))))
end
section
/-! COMMANDS: the words that are typed (class) -/
def WLq (B : Nat → Int) (to : Int) : Int → List (Int × Int) → Int → Prop
  | a, [], p => a ≤ p ∧ p ≤ to ∧ ∀ q : Int, a ≤ q → q < p → B q.toNat = 32
  | a, (s, e) :: L, p => (a ≤ s ∧ s < to ∧ ∀ q : Int, a ≤ q → q < s → B q.toNat = 32) ∧ B s.toNat ≠ 32 ∧ e = we7 B to s ∧ e ≠ s ∧ WLq B to e L p
theorem wlq_b {B : Nat → Int} {to : Int} : ∀ (L : List (Int × Int)) {a p : Int}, WLq B to a L p → p < to → B p.toNat = 32 → WLq B to a L (p + 1)
  | [], a, p, h, hp, hb => ⟨by have := h.1; omega, by omega, fun q x y => by
      by_cases c : q = p
      · rw [c]; exact hb
      · exact h.2.2 q x (by omega)⟩
  | (s, e) :: L, a, p, h, hp, hb => ⟨h.1, h.2.1, h.2.2.1, h.2.2.2.1, wlq_b L h.2.2.2.2 hp hb⟩
theorem wlq_w {B : Nat → Int} {to e : Int} : ∀ (L : List (Int × Int)) {a p : Int}, WLq B to a L p → p < to → B p.toNat ≠ 32 → e = we7 B to p → e ≠ p → e ≤ to → WLq B to a (L ++ [(p, e)]) e
  | [], a, p, h, hp, hb, he, hn, ht => ⟨⟨h.1, hp, h.2.2⟩, hb, he, hn, Int.le_refl _, ht, fun q x y => absurd x (by omega)⟩
  | (s, f) :: L, a, p, h, hp, hb, he, hn, ht => ⟨h.1, h.2.1, h.2.2.1, h.2.2.2.1, wlq_w L h.2.2.2.2 hp hb he hn ht⟩
def tyW (S : sS) (t : Nat) (x : Int × Int) : Int := if x.2 - x.1 ≤ 12 then c27 (Xi S t) x.1.toNat (x.2 - x.1).toNat else -1
def TYC (S T : sS) (t : Nat) (to p : Int) : Prop := ∃ L : List (Int × Int), WLq (Xi S t) to 0 L p ∧ L.length ≤ 50 ∧ Xi T 882 12 = L.length ∧ ∀ i : Nat, i < L.length → Xj T 889 i = tyW S t (L.getD i (0, 0))
def TYO (S S1 : sS) (t : Nat) (n z : Int) : Prop := (z = 1 → TYC S S1 t n n) ∧ (z = 0 → ∃ (L : List (Int × Int)) (p : Int), WLq (Xi S t) n 0 L p ∧ p < n ∧ Xi S t p.toNat ≠ 32 ∧ (we7 (Xi S t) n p = p ∨ L.length = 50))
theorem tyc_0 {S T : sS} {t : Nat} {to : Int} (h : 0 ≤ to) (e : T = uI S 882 12 (Int32.ofInt 0)) : TYC S T t to 0 := ⟨[], ⟨Int.le_refl _, h, fun q x y => absurd x (by omega)⟩, by decide, by rw [e]; exact Xi_same ⟨by decide, by decide⟩, fun i hi => absurd hi (Nat.not_lt_zero _)⟩
theorem tyc_b {S T : sS} {t : Nat} {to p : Int} (h : TYC S T t to p) (hp : p < to) (hb : Xi S t p.toNat = 32) : TYC S T t to (p + 1) := by
  obtain ⟨L, h1, h2⟩ := h
  exact ⟨L, wlq_b L h1 hp hb, h2⟩
theorem tyc_w {S T P U : sS} {t : Nat} {to p e w : Int} (h : TYC S T t to p) (hp : p < to) (hb : Xi S t p.toNat ≠ 32) (he : e = we7 (Xi S t) to p) (hn : e ≠ p) (h50 : Xi T 882 12 ≠ 50) (hw : w = tyW S t (p, e)) (hr : rgL w) (e1 : P = uJ T 889 (Xi T 882 12).toNat (Int64.ofInt w)) (e2 : U = uI P 882 12 (Int32.ofInt (Xi T 882 12 + 1))) : TYC S U t to e := by
  obtain ⟨L, h1, h2, h3, h4⟩ := h
  have b := we7_b (B := Xi S t) (e := to) (p := p)
  refine ⟨L ++ [(p, e)], wlq_w L h1 hp hb he hn (by rw [he]; exact b.2 (by omega)), by rw [List.length_append]; simp; omega, by rw [e2, Xi_same ⟨by omega, by omega⟩, h3]; simp, fun i hl => ?_⟩
  by_cases c : i < L.length
  · have g : (L ++ [(p, e)]).getD i (0, 0) = L.getD i (0, 0) := by simp [List.getD_eq_getElem?_getD, List.getElem?_append_left c]
    rw [g, e2, Xj_I, e1, Xj_ne (by omega)]
    exact h4 i c
  · have z1 : i = L.length := by simp at hl; omega
    have z2 : (L ++ [(p, e)]).getD i (0, 0) = (p, e) := by rw [z1]; simp
    rw [z2, e2, Xj_I, e1, show (Xi T 882 12).toNat = i by omega, Xj_same hr]
    exact hw
theorem tyc_r {S T : sS} {t : Nat} {to p : Int} (h : TYC S T t to p) : 0 ≤ Xi T 882 12 ∧ Xi T 882 12 ≤ 50 := by
  obtain ⟨L, _, h2, h3, _⟩ := h
  omega
theorem tyo_y {S T : sS} {t : Nat} {n p z : Int} (h : TYC S T t n p) (hp : p = n) (hz : z = 1) : TYO S T t n z := ⟨fun _ => by rw [hp] at h; exact h, fun q => absurd q (by omega)⟩
theorem tyo_n {S T U : sS} {t : Nat} {n p e z : Int} (h : TYC S T t n p) (hp : p < n) (hb : Xi S t p.toNat ≠ 32) (he : e = we7 (Xi S t) n p) (hx : e = p ∨ Xi T 882 12 = 50) (hz : z = 0) : TYO S U t n z := by
  obtain ⟨L, h1, _, h3, _⟩ := h
  exact ⟨fun q => absurd q (by omega), fun _ => ⟨L, p, h1, hp, hb, by rw [← he]; omega⟩⟩

def md_co_takeTyped__p : List rec := [(882, 883, 12, 13), (889, 890, 0, 100000)]
abbrev Q_co_takeTyped__p (S : sS) (t : Nat) (length : Int) : pst := fun r S1 => RI S1 ∧ FR md_co_takeTyped__p S S1 ∧ (∃ z : Int, r = some (iv z) ∧ (0 ≤ z ∧ z ≤ 1) ∧ (TYO S S1 t length z))
set_option maxRecDepth 100000 in
theorem t_co_takeTyped__p {S : sS} (hH : RI S) (t : Nat) (length : Int) (ht : tp t) (hlength : 0 ≤ length ∧ length ≤ 5000) (hby : BYT S t) (d : Nat) : Mp lay0 (d + 3) m_co_takeTyped [.ref 882, .ref t, iv length] S (Q_co_takeTyped__p S t length) := by
  refine Mp_R rfl rfl (fun fu => ?_)
  have hF : FR md_co_takeTyped__p S S := FR.rf
  have C7 : ∀ (n7 : Nat) (_ : n7 ≤ fu) (T1 : sS) (_ : RI T1) (_ : FR md_co_takeTyped__p S T1) (v3 : Int), (0 ≤ v3 ∧ v3 ≤ 5000) → (0 ≤ v3 ∧ v3 ≤ length) → (Hid (TYC S T1 t length v3)) → Pl n7 lay0 (d + 2) m_co_takeTyped 7 [(0, .ref 882), (1, .ref t), (2, iv length), (3, iv v3)] [] T1 (Q_co_takeTyped__p S t length) := by
    intro n7
    induction n7 with
    | zero => intros; exact Pl_0
    | succ n7 ih7 =>
      intro hm7 T1 hHT1 hFT1 v3 w1 w2 L7
      refine ys_iload_n rfl rfl ?_
      refine y_iload_n rfl rfl ?_
      refine y_icmp_ge rfl rfl (by unfold rg; omega) (by unfold rg; omega) (fun w3 => ?_) (fun w4 => ?_)
      · refine y_iconst rfl ?_
        refine y_ireturn rfl rfl ?_
        exact ⟨hHT1, hFT1, _, rfl, ⟨by omega, by omega⟩, (by first | (have u := e29; exact tyo_n L7.o (by omega) (by omega) e29 (by omega) (by omega)) | exact tyo_y L7.o (by omega) (by omega))⟩
      · refine y_aload_n rfl rfl ?_
        refine y_iload_n rfl rfl ?_
        refine y_baloadP (n := 5000) rfl (tp_sv (by assumption)) (lay_tp (by assumption)) (by decide) (by unfold rg; omega) (fun w5 w6 => ?_)
        have w7 : -2147483648 ≤ (Xi T1 t ((v3).toNat)) ∧ (Xi T1 t ((v3).toNat)) ≤ 2147483647 := Xi_rgI
        have y14 : Xi T1 t (v3).toNat = Xi S t (v3).toNat := congrFun (tp_F hFT1 rfl ht) _
        refine y_bipush rfl rfl ?_
        refine y_icmp_ne rfl rfl (by unfold rg; omega) (by unfold rg; omega) (fun w8 => ?_) (fun w9 => ?_)
        · refine y_aload_n rfl rfl ?_
          refine y_iload_n rfl rfl ?_
          refine y_iload_n rfl rfl ?_
          refine y_callS rfl rfl (by decide) rfl (t_co_wordEnd__p hHT1 t v3 length ht ⟨by omega, by omega⟩ ⟨by omega, by omega⟩ (BYT_F hFT1 rfl ht hby) _) ?_
          rintro _ _ ⟨rfl, z11, rfl, w11, v29, w10⟩
          show Pl _ _ _ _ _ _ [iv z11] _ _
          have e29 : z11 = we7 (Xi S t) length v3 := by have u := v29; rw [tp_F hFT1 rfl ht] at u; exact u
          clear v29
          refine y_istore rfl rfl rfl ?_
          refine y_iload rfl rfl ?_
          refine y_iload_n rfl rfl ?_
          refine y_icmp_eq rfl rfl (by unfold rg; omega) (by unfold rg; omega) (fun w12 => ?_) (fun w13 => ?_)
          · refine y_iconst rfl ?_
            refine y_ireturn rfl rfl ?_
            exact ⟨hHT1, hFT1, _, rfl, ⟨by omega, by omega⟩, (by first | (have u := e29; exact tyo_n L7.o (by omega) (by omega) e29 (by omega) (by omega)) | exact tyo_y L7.o (by omega) (by omega))⟩
          · refine y_aload_n rfl rfl ?_
            refine y_gfi rfl rfl rfl rfl rfl ?_
            have w14 : -2147483648 ≤ (Xi T1 882 12) ∧ (Xi T1 882 12) ≤ 2147483647 := Xi_rgI
            refine y_bipush rfl rfl ?_
            refine y_icmp_ne rfl rfl (by unfold rg; omega) (by unfold rg; omega) (fun w15 => ?_) (fun w16 => ?_)
            · refine y_aload_n rfl rfl ?_
              refine y_gfr rfl rfl rfl rfl rfl (hHT1.r 882 11 889 rfl) ?_
              refine y_aload_n rfl rfl ?_
              refine y_gfi rfl rfl rfl rfl rfl ?_
              refine y_iload rfl rfl ?_
              refine y_iload_n rfl rfl ?_
              refine y_isub rfl ?_
              refine y_bipush rfl rfl ?_
              refine y_icmp_le rfl rfl (by unfold rg; omega) (by unfold rg; omega) (fun w17 => ?_) (fun w18 => ?_)
              · refine y_aload_n rfl rfl ?_
                refine y_iload_n rfl rfl ?_
                refine y_iload rfl rfl ?_
                refine y_callS rfl rfl (by decide) rfl (t_co_codeOf__p hHT1 t v3 z11 ht ⟨by omega, by omega⟩ ⟨by omega, by omega⟩ (BYT_F hFT1 rfl ht hby) (by first | assumption | omega) _) ?_
                rintro _ _ ⟨rfl, z19, rfl, v78, g78⟩
                show Pl _ _ _ _ _ _ [jw z19, iv (Xi T1 882 12), .ref 889] _ _
                have c78 : z11 - v3 ≤ 12 → z19 = c27 (Xi S t) (v3).toNat (z11 - v3).toNat := fun q => by have u := v78; rw [tp_F hFT1 rfl ht] at u; exact c27_d q u
                clear v78
                refine y_lastoreP (n := 50) rfl rfl (by unfold rg; omega) (fun w20 w21 => ?_)
                obtain ⟨U2, eU2⟩ : ∃ T : sS, T = uJ T1 889 (((Xi T1 882 12)).toNat) (Int64.ofInt z19) := ⟨_, rfl⟩
                rw [← eU2]
                have hHU2 : RI U2 := by rw [eU2]; exact RI_J hHT1
                have hFU2 : FR md_co_takeTyped__p S U2 := by rw [eU2]; exact FR.wJ hFT1 (mdf_i (r := (889, 890, 0, 100000)) (List.mem_of_getElem? (i := 1) rfl) (inR_i (by omega) (by omega) (by omega) (by omega)))
                have e81 := eU2
                refine y_aload_n rfl rfl ?_
                refine y_dup rfl rfl ?_
                refine y_gfi rfl rfl rfl rfl rfl ?_
                have w22 : (Xi U2 882 12) = (Xi T1 882 12) := (show Xi U2 882 12 = Xi T1 882 12 from by rw [eU2]; rfl)
                rw [w22]
                refine y_iconst rfl ?_
                refine y_iadd rfl ?_
                refine y_pfi rfl rfl rfl rfl ?_
                obtain ⟨U3, eU3⟩ : ∃ T : sS, T = uI U2 882 12 (Int32.ofInt ((Xi T1 882 12) + 1)) := ⟨_, rfl⟩
                rw [← eU3]
                have hHU3 : RI U3 := by rw [eU3]; exact RI_w hHU2
                have hFU3 : FR md_co_takeTyped__p S U3 := by rw [eU3]; exact FR.wI hFU2 (mdf_i (r := (882, 883, 12, 13)) (List.mem_of_getElem? (i := 0) rfl) (inR_i (by omega) (by omega) (by omega) (by omega)))
                have w23 : Xi U3 882 12 = ((Xi T1 882 12) + 1) := by rw [eU3]; exact Xi_same (by unfold rg; omega)
                have e89 := eU3
                have L89 : Hid (TYC S U3 t length z11) := by first | (have u := K68; exact tyc_w L7.o (by omega) (by omega) e29 (by omega) (by omega) (if_neg (show ¬ (z11 - v3 ≤ 12) by omega)).symm (by unfold rgL; omega) e81 e89) | exact tyc_w L7.o (by omega) (by omega) e29 (by omega) (by omega) ((c78 (by omega)).trans (if_pos (show z11 - v3 ≤ 12 by omega)).symm) g78 e81 e89
                refine y_iload rfl rfl ?_
                refine y_istore_n rfl rfl rfl ?_
                refine y_goto rfl rfl ?_
                exact Pl_weak (ih7 (by omega) U3 hHU3 hFU3 (z11) (by omega) (by omega) (by first | exact L89 | exact L20 | exact tyc_0 (by omega) e4)) (by omega) (And.intro rfl (And.intro rfl (And.intro rfl (And.intro rfl (True.intro)))))
              · refine y_ldc2 (z := (-1)) rfl rfl ?_
                have K68 : True := trivial
                refine y_goto rfl rfl ?_
                refine y_lastoreP (n := 50) rfl rfl (by unfold rg; omega) (fun w24 w25 => ?_)
                obtain ⟨U4, eU4⟩ : ∃ T : sS, T = uJ T1 889 (((Xi T1 882 12)).toNat) (Int64.ofInt (-1)) := ⟨_, rfl⟩
                rw [← eU4]
                have hHU4 : RI U4 := by rw [eU4]; exact RI_J hHT1
                have hFU4 : FR md_co_takeTyped__p S U4 := by rw [eU4]; exact FR.wJ hFT1 (mdf_i (r := (889, 890, 0, 100000)) (List.mem_of_getElem? (i := 1) rfl) (inR_i (by omega) (by omega) (by omega) (by omega)))
                have e81 := eU4
                refine y_aload_n rfl rfl ?_
                refine y_dup rfl rfl ?_
                refine y_gfi rfl rfl rfl rfl rfl ?_
                have w26 : (Xi U4 882 12) = (Xi T1 882 12) := (show Xi U4 882 12 = Xi T1 882 12 from by rw [eU4]; rfl)
                rw [w26]
                refine y_iconst rfl ?_
                refine y_iadd rfl ?_
                refine y_pfi rfl rfl rfl rfl ?_
                obtain ⟨U5, eU5⟩ : ∃ T : sS, T = uI U4 882 12 (Int32.ofInt ((Xi T1 882 12) + 1)) := ⟨_, rfl⟩
                rw [← eU5]
                have hHU5 : RI U5 := by rw [eU5]; exact RI_w hHU4
                have hFU5 : FR md_co_takeTyped__p S U5 := by rw [eU5]; exact FR.wI hFU4 (mdf_i (r := (882, 883, 12, 13)) (List.mem_of_getElem? (i := 0) rfl) (inR_i (by omega) (by omega) (by omega) (by omega)))
                have w27 : Xi U5 882 12 = ((Xi T1 882 12) + 1) := by rw [eU5]; exact Xi_same (by unfold rg; omega)
                have e89 := eU5
                have L89 : Hid (TYC S U5 t length z11) := by first | (have u := K68; exact tyc_w L7.o (by omega) (by omega) e29 (by omega) (by omega) (if_neg (show ¬ (z11 - v3 ≤ 12) by omega)).symm (by unfold rgL; omega) e81 e89) | exact tyc_w L7.o (by omega) (by omega) e29 (by omega) (by omega) ((c78 (by omega)).trans (if_pos (show z11 - v3 ≤ 12 by omega)).symm) g78 e81 e89
                refine y_iload rfl rfl ?_
                refine y_istore_n rfl rfl rfl ?_
                refine y_goto rfl rfl ?_
                exact Pl_weak (ih7 (by omega) U5 hHU5 hFU5 (z11) (by omega) (by omega) (by first | exact L89 | exact L20 | exact tyc_0 (by omega) e4)) (by omega) (And.intro rfl (And.intro rfl (And.intro rfl (And.intro rfl (True.intro)))))
            · refine y_iconst rfl ?_
              refine y_ireturn rfl rfl ?_
              exact ⟨hHT1, hFT1, _, rfl, ⟨by omega, by omega⟩, (by first | (have u := e29; exact tyo_n L7.o (by omega) (by omega) e29 (by omega) (by omega)) | exact tyo_y L7.o (by omega) (by omega))⟩
        · refine y_iinc rfl rfl rfl rfl ?_
          have L20 : Hid (TYC S T1 t length (v3 + 1)) := tyc_b L7.o (by omega) (by omega)
          refine y_goto rfl rfl ?_
          exact Pl_weak (ih7 (by omega) T1 hHT1 hFT1 ((v3 + 1)) (by omega) (by omega) (by first | exact L89 | exact L20 | exact tyc_0 (by omega) e4)) (by omega) (And.intro rfl (And.intro rfl (And.intro rfl (And.intro rfl (True.intro)))))
  refine y_iconst rfl ?_
  refine y_istore_n rfl rfl rfl ?_
  refine y_aload_n rfl rfl ?_
  refine y_iconst rfl ?_
  refine y_pfi rfl rfl rfl rfl ?_
  obtain ⟨U6, eU6⟩ : ∃ T : sS, T = uI S 882 12 (Int32.ofInt 0) := ⟨_, rfl⟩
  rw [← eU6]
  have hHU6 : RI U6 := by rw [eU6]; exact RI_w hH
  have hFU6 : FR md_co_takeTyped__p S U6 := by rw [eU6]; exact FR.wI hF (mdf_i (r := (882, 883, 12, 13)) (List.mem_of_getElem? (i := 0) rfl) (inR_i (by omega) (by omega) (by omega) (by omega)))
  have w28 : Xi U6 882 12 = 0 := by rw [eU6]; exact Xi_same (by unfold rg; omega)
  have e4 := eU6
  exact Pl_weak (C7 fu (by omega) U6 hHU6 hFU6 (0) (by omega) (by omega) (by first | exact L89 | exact L20 | exact tyc_0 (by omega) e4)) (by omega) (And.intro rfl (And.intro rfl (And.intro rfl (And.intro rfl (True.intro)))))
end
