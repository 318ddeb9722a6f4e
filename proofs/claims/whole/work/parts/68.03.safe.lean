/-! SAFETY of methods: printed by wip/safe (vc.py, decl.py) -/
def md_gr_takePhrases : List rec := [(890, 891, 1, 2)]
abbrev Q_gr_takePhrases (S : sS) : pst := fun r S1 => HI S1 ∧ FR md_gr_takePhrases S S1 ∧ (∃ z : Int, r = some (iv z) ∧ (0 ≤ z ∧ z ≤ 1) ∧ (Xi S 890 1 ≤ Xi S1 890 1 ∧ Xi S1 890 1 ≤ Xi S 876 7) ∧ (z = 1 → SAY S1 (Xi S1 890 1)))
set_option maxRecDepth 100000 in
theorem t_gr_takePhrases {S : sS} (hH : HI S) (ha : Xi S 890 1 ≤ Xi S 876 7) (hs : SAY S (Xi S 890 1)) (d : Nat) : Mt lay0 (d + 6) m_gr_takePhrases [.ref 890] S (Q_gr_takePhrases S) := by
  refine Mt_R rfl rfl ?_
  have hF : FR md_gr_takePhrases S S := FR.rf
  have w1 : 0 ≤ Xi S 876 7 ∧ Xi S 876 7 ≤ 5125 := hH.c _ _
  have w2 : 0 ≤ Xi S 890 1 ∧ Xi S 890 1 ≤ 5126 := hH.c _ _
  have C4 : ∀ (n4 : Nat) (T1 : sS) (_ : HI T1) (_ : FR md_gr_takePhrases S T1) (v1 : Int) (v2 : Int), (0 ≤ v1 ∧ v1 ≤ 1) → (0 ≤ v2 ∧ v2 ≤ 5000) → (v1 = 1 → SAY T1 (Xi T1 890 1)) → (Xi S 890 1 ≤ Xi T1 890 1 ∧ Xi T1 890 1 ≤ Xi S 876 7) → n4 = (5001 - v2).toNat → Rl lay0 (d + 5) m_gr_takePhrases 4 [(0, .ref 890), (1, iv v1), (2, iv v2)] [] T1 (Q_gr_takePhrases S) := by
    intro n4
    induction n4 using Nat.strongRecOn with
    | ind n4 ih4 =>
      intro T1 hHT1 hFT1 v1 v2 w3 w4 hs4 w5 hm4
      have w6 : Xi T1 876 7 = Xi S 876 7 := hFT1.x _ _ rfl
      have w7 : 0 ≤ Xi T1 890 1 ∧ Xi T1 890 1 ≤ 5126 := hHT1.c _ _
      have C56 : ∀  (T2 : sS) (_ : HI T2) (_ : FR md_gr_takePhrases S T2) (v1 : Int), (0 ≤ v1 ∧ v1 ≤ 1) → (v1 = 1 → SAY T2 (Xi T2 890 1)) → (Xi S 890 1 ≤ Xi T2 890 1 ∧ Xi T2 890 1 ≤ Xi S 876 7) → Rl lay0 (d + 5) m_gr_takePhrases 56 [(1, iv v1)] [] T2 (Q_gr_takePhrases S) := by
        intro T2 hHT2 hFT2 v1 w8 hs56 w9
        have w10 : Xi T2 876 7 = Xi S 876 7 := hFT2.x _ _ rfl
        have w11 : 0 ≤ Xi T2 890 1 ∧ Xi T2 890 1 ≤ 5126 := hHT2.c _ _
        refine l_iload_n rfl rfl ?_
        refine l_ireturn rfl (retI_z (by omega)) ?_
        have w12 : 0 ≤ Xi T2 890 1 ∧ Xi T2 890 1 ≤ 5126 := hHT2.c _ _
        exact ⟨hHT2, hFT2, _, rfl, ⟨by omega, by omega⟩, (by first | assumption | omega), (by first | assumption | omega)⟩
      refine l_iload_n rfl rfl ?_
      refine l_sipush rfl rfl ?_
      refine l_icmp_ge rfl rfl (by unfold rg; omega) (by unfold rg; omega) (fun w13 => ?_) (fun w14 => ?_)
      · have w15 : 0 ≤ Xi T1 890 1 ∧ Xi T1 890 1 ≤ 5126 := hHT1.c _ _
        exact Rl_weak (C56 T1 hHT1 hFT1 (v1) (by omega) (by first | assumption | (intro _; assumption) | (intro hz; omega)) (by omega)) (And.intro rfl (True.intro))
      · refine l_iload_n rfl rfl ?_
        refine l_if_eq rfl rfl (by unfold rg; omega) (fun w16 => ?_) (fun w17 => ?_)
        · have w18 : 0 ≤ Xi T1 890 1 ∧ Xi T1 890 1 ≤ 5126 := hHT1.c _ _
          exact Rl_weak (C56 T1 hHT1 hFT1 (v1) (by omega) (by first | assumption | (intro _; assumption) | (intro hz; omega)) (by omega)) (And.intro rfl (True.intro))
        · refine l_iload_n rfl rfl ?_
          refine l_if_eq rfl rfl (by unfold rg; omega) (fun w19 => ?_) (fun w20 => ?_)
          · refine l_aload_n rfl rfl ?_
            refine l_bipush rfl rfl ?_
            have w21 : 0 ≤ Xi T1 876 7 ∧ Xi T1 876 7 ≤ 5125 := hHT1.c _ _
            have w22 : 0 ≤ Xi T1 890 1 ∧ Xi T1 890 1 ≤ 5126 := hHT1.c _ _
            refine l_callV rfl rfl rfl (t_gr_take hHT1 44 ⟨by omega, by omega⟩ (by first | assumption | omega) (by first | assumption | exact hs4 (by omega)) (by first | assumption | omega) _) ?_
            rintro _ T3 ⟨hHT3, w28, z27, rfl, w27, w23, w24, w25, w26⟩
            have hFT3 : FR md_gr_takePhrases S T3 := FR.tr hFT1 w28 rfl
            show Rl _ _ _ _ _ [iv z27] _ _
            refine l_if_eq rfl rfl (by unfold rg; omega) (fun w29 => ?_) (fun w30 => ?_)
            · refine l_aload_n rfl rfl ?_
              have w31 : Xi T3 876 7 = Xi T1 876 7 := (show Xi T3 876 7 = Xi T1 876 7 from w28.x _ _ rfl)
              have w32 : 0 ≤ Xi T1 876 7 ∧ Xi T1 876 7 ≤ 5125 := hHT1.c _ _
              have w33 : 0 ≤ Xi T3 890 1 ∧ Xi T3 890 1 ≤ 5126 := hHT3.c _ _
              refine l_callV rfl rfl rfl (t_gr_takePhrase hHT3 (by first | assumption | omega) (by first | assumption | exact hs4 (by omega)) _) ?_
              rintro _ T4 ⟨hHT4, w37, z36, rfl, w36, w34, w35⟩
              have hFT4 : FR md_gr_takePhrases S T4 := FR.tr hFT3 w37 rfl
              show Rl _ _ _ _ _ [iv z36] _ _
              refine l_istore_n rfl rfl rfl ?_
              refine l_iinc rfl rfl rfl rfl ?_
              refine l_goto rfl rfl ?_
              have w38 : 0 ≤ Xi T4 890 1 ∧ Xi T4 890 1 ≤ 5126 := hHT4.c _ _
              exact Rl_weak (ih4 _ (by omega) T4 hHT4 hFT4 (z36) ((v2 + 1)) (by omega) (by omega) (by first | assumption | (intro _; assumption)) (by omega) rfl) (And.intro rfl (And.intro rfl (And.intro rfl (True.intro))))
            · refine l_aload_n rfl rfl ?_
              refine l_iconst rfl ?_
              have w39 : Xi T3 876 7 = Xi T1 876 7 := (show Xi T3 876 7 = Xi T1 876 7 from w28.x _ _ rfl)
              have w40 : 0 ≤ Xi T1 876 7 ∧ Xi T1 876 7 ≤ 5125 := hHT1.c _ _
              have w41 : 0 ≤ Xi T3 890 1 ∧ Xi T3 890 1 ≤ 5126 := hHT3.c _ _
              refine l_callV rfl rfl rfl (t_gr_takeTest hHT3 1 ⟨by omega, by omega⟩ (by first | assumption | omega) (by first | assumption | exact hs4 (by omega)) _) ?_
              rintro _ T5 ⟨hHT5, w45, z44, rfl, w44, w42, w43⟩
              have hFT5 : FR md_gr_takePhrases S T5 := FR.tr hFT3 w45 rfl
              show Rl _ _ _ _ _ [iv z44] _ _
              refine l_goto rfl rfl ?_
              refine l_istore_n rfl rfl rfl ?_
              refine l_iinc rfl rfl rfl rfl ?_
              refine l_goto rfl rfl ?_
              have w46 : 0 ≤ Xi T5 890 1 ∧ Xi T5 890 1 ≤ 5126 := hHT5.c _ _
              exact Rl_weak (ih4 _ (by omega) T5 hHT5 hFT5 (z44) ((v2 + 1)) (by omega) (by omega) (by first | assumption | (intro _; assumption)) (by omega) rfl) (And.intro rfl (And.intro rfl (And.intro rfl (True.intro))))
          · refine l_aload_n rfl rfl ?_
            refine l_bipush rfl rfl ?_
            have w47 : 0 ≤ Xi T1 876 7 ∧ Xi T1 876 7 ≤ 5125 := hHT1.c _ _
            have w48 : 0 ≤ Xi T1 890 1 ∧ Xi T1 890 1 ≤ 5126 := hHT1.c _ _
            refine l_callV rfl rfl rfl (t_gr_take hHT1 105 ⟨by omega, by omega⟩ (by first | assumption | omega) (by first | assumption | exact hs4 (by omega)) (by first | assumption | omega) _) ?_
            rintro _ T6 ⟨hHT6, w54, z53, rfl, w53, w49, w50, w51, w52⟩
            have hFT6 : FR md_gr_takePhrases S T6 := FR.tr hFT1 w54 rfl
            show Rl _ _ _ _ _ [iv z53] _ _
            refine l_if_eq rfl rfl (by unfold rg; omega) (fun w55 => ?_) (fun w56 => ?_)
            · have w57 : 0 ≤ Xi T6 890 1 ∧ Xi T6 890 1 ≤ 5126 := hHT6.c _ _
              exact Rl_weak (C56 T6 hHT6 hFT6 (v1) (by omega) (by first | assumption | (intro _; assumption) | (intro hz; omega)) (by omega)) (And.intro rfl (True.intro))
            · refine l_aload_n rfl rfl ?_
              refine l_bipush rfl rfl ?_
              have w58 : Xi T6 876 7 = Xi T1 876 7 := (show Xi T6 876 7 = Xi T1 876 7 from w54.x _ _ rfl)
              have w59 : 0 ≤ Xi T1 876 7 ∧ Xi T1 876 7 ≤ 5125 := hHT1.c _ _
              have w60 : 0 ≤ Xi T6 890 1 ∧ Xi T6 890 1 ≤ 5126 := hHT6.c _ _
              refine l_callV rfl rfl rfl (t_gr_take hHT6 44 ⟨by omega, by omega⟩ (by first | assumption | omega) (by first | assumption | exact hs4 (by omega)) (by first | assumption | omega) _) ?_
              rintro _ T7 ⟨hHT7, w66, z65, rfl, w65, w61, w62, w63, w64⟩
              have hFT7 : FR md_gr_takePhrases S T7 := FR.tr hFT6 w66 rfl
              show Rl _ _ _ _ _ [iv z65] _ _
              refine l_if_eq rfl rfl (by unfold rg; omega) (fun w67 => ?_) (fun w68 => ?_)
              · refine l_aload_n rfl rfl ?_
                have w69 : Xi T7 876 7 = Xi T1 876 7 := (show Xi T7 876 7 = Xi T6 876 7 from w66.x _ _ rfl).trans ((show Xi T6 876 7 = Xi T1 876 7 from w54.x _ _ rfl))
                have w70 : 0 ≤ Xi T1 876 7 ∧ Xi T1 876 7 ≤ 5125 := hHT1.c _ _
                have w71 : 0 ≤ Xi T7 890 1 ∧ Xi T7 890 1 ≤ 5126 := hHT7.c _ _
                refine l_callV rfl rfl rfl (t_gr_takePhrase hHT7 (by first | assumption | omega) (by first | assumption | exact hs4 (by omega)) _) ?_
                rintro _ T8 ⟨hHT8, w75, z74, rfl, w74, w72, w73⟩
                have hFT8 : FR md_gr_takePhrases S T8 := FR.tr hFT7 w75 rfl
                show Rl _ _ _ _ _ [iv z74] _ _
                refine l_istore_n rfl rfl rfl ?_
                refine l_iinc rfl rfl rfl rfl ?_
                refine l_goto rfl rfl ?_
                have w76 : 0 ≤ Xi T8 890 1 ∧ Xi T8 890 1 ≤ 5126 := hHT8.c _ _
                exact Rl_weak (ih4 _ (by omega) T8 hHT8 hFT8 (z74) ((v2 + 1)) (by omega) (by omega) (by first | assumption | (intro _; assumption)) (by omega) rfl) (And.intro rfl (And.intro rfl (And.intro rfl (True.intro))))
              · refine l_aload_n rfl rfl ?_
                refine l_iconst rfl ?_
                have w77 : Xi T7 876 7 = Xi T1 876 7 := (show Xi T7 876 7 = Xi T6 876 7 from w66.x _ _ rfl).trans ((show Xi T6 876 7 = Xi T1 876 7 from w54.x _ _ rfl))
                have w78 : 0 ≤ Xi T1 876 7 ∧ Xi T1 876 7 ≤ 5125 := hHT1.c _ _
                have w79 : 0 ≤ Xi T7 890 1 ∧ Xi T7 890 1 ≤ 5126 := hHT7.c _ _
                refine l_callV rfl rfl rfl (t_gr_takeTest hHT7 1 ⟨by omega, by omega⟩ (by first | assumption | omega) (by first | assumption | exact hs4 (by omega)) _) ?_
                rintro _ T9 ⟨hHT9, w83, z82, rfl, w82, w80, w81⟩
                have hFT9 : FR md_gr_takePhrases S T9 := FR.tr hFT7 w83 rfl
                show Rl _ _ _ _ _ [iv z82] _ _
                refine l_goto rfl rfl ?_
                refine l_istore_n rfl rfl rfl ?_
                refine l_iinc rfl rfl rfl rfl ?_
                refine l_goto rfl rfl ?_
                have w84 : 0 ≤ Xi T9 890 1 ∧ Xi T9 890 1 ≤ 5126 := hHT9.c _ _
                exact Rl_weak (ih4 _ (by omega) T9 hHT9 hFT9 (z82) ((v2 + 1)) (by omega) (by omega) (by first | assumption | (intro _; assumption)) (by omega) rfl) (And.intro rfl (And.intro rfl (And.intro rfl (True.intro))))
  refine l_iconst rfl ?_
  refine l_istore_n rfl rfl rfl ?_
  refine l_iconst rfl ?_
  refine l_istore_n rfl rfl rfl ?_
  have w85 : 0 ≤ Xi S 890 1 ∧ Xi S 890 1 ≤ 5126 := hH.c _ _
  exact Rl_weak (C4 _ S hH hF (1) (0) (by omega) (by omega) (by first | assumption | (intro _; assumption)) (by omega) rfl) (And.intro rfl (And.intro rfl (And.intro rfl (True.intro))))
def md_gr_checkBe : List rec := [(890, 891, 1, 2), (890, 891, 2, 3)]
abbrev Q_gr_checkBe (S : sS) : pst := fun r S1 => HI S1 ∧ FR md_gr_checkBe S S1 ∧ (∃ z : Int, r = some (iv z) ∧ (0 ≤ z ∧ z ≤ 1) ∧ (9 ≤ Xi S1 890 2 ∨ z = 0))
set_option maxRecDepth 100000 in
theorem t_gr_checkBe {S : sS} (hH : HI S) (ha : Xi S 890 1 ≤ Xi S 876 7) (hs : SAY S (Xi S 890 1)) (h0 : Xi S 890 1 = 0) (d : Nat) : Mt lay0 (d + 5) m_gr_checkBe [.ref 890] S (Q_gr_checkBe S) := by
  refine Mt_R rfl rfl ?_
  have hF : FR md_gr_checkBe S S := FR.rf
  have w1 : 0 ≤ Xi S 876 7 ∧ Xi S 876 7 ≤ 5125 := hH.c _ _
  have w2 : 0 ≤ Xi S 890 1 ∧ Xi S 890 1 ≤ 5126 := hH.c _ _
  refine l_aload_n rfl rfl ?_
  refine l_gfr rfl rfl rfl rfl rfl (hH.r 890 0 876 rfl) ?_
  refine l_iconst rfl ?_
  refine l_callV rfl rfl rfl (t_to_beginsProperty hH 0 ⟨by omega, by omega⟩ _) ?_
  rintro _ _ ⟨rfl, z4, rfl, w4, w3⟩
  show Rl _ _ _ _ _ [iv z4] _ _
  refine l_if_eq rfl rfl (by unfold rg; omega) (fun w5 => ?_) (fun w6 => ?_)
  · refine l_aload_n rfl rfl ?_
    have w7 : 0 ≤ Xi S 876 7 ∧ Xi S 876 7 ≤ 5125 := hH.c _ _
    have w8 : 0 ≤ Xi S 890 1 ∧ Xi S 890 1 ≤ 5126 := hH.c _ _
    refine l_callV rfl rfl rfl (t_gr_takeList hH (by first | assumption | omega) (by first | assumption | omega) _) ?_
    rintro _ T1 ⟨hHT1, w12, z11, rfl, w11, w9, w10⟩
    have hFT1 : FR md_gr_checkBe S T1 := FR.tr hF w12 rfl
    show Rl _ _ _ _ _ [iv z11] _ _
    refine l_if_eq rfl rfl (by unfold rg; omega) (fun w13 => ?_) (fun w14 => ?_)
    · refine l_iconst rfl ?_
      refine l_ireturn rfl rfl ?_
      have w15 : Xi T1 890 2 = Xi S 890 2 := (show Xi T1 890 2 = Xi S 890 2 from w12.x _ _ rfl)
      have w16 : 0 ≤ Xi S 890 2 ∧ Xi S 890 2 ≤ 20 := hH.c _ _
      exact ⟨hHT1, hFT1, _, rfl, ⟨by omega, by omega⟩, (by first | assumption | omega)⟩
    · refine l_aload_n rfl rfl ?_
      have w17 : Xi T1 876 7 = Xi S 876 7 := (show Xi T1 876 7 = Xi S 876 7 from w12.x _ _ rfl)
      have w18 : 0 ≤ Xi S 876 7 ∧ Xi S 876 7 ≤ 5125 := hH.c _ _
      have w19 : 0 ≤ Xi T1 890 1 ∧ Xi T1 890 1 ≤ 5126 := hHT1.c _ _
      refine l_callV rfl rfl rfl (t_gr_takeBe hHT1 (by first | assumption | omega) (by first | assumption | omega) _) ?_
      rintro _ T2 ⟨hHT2, w23, z22, rfl, w22, w20, w21⟩
      have hFT2 : FR md_gr_checkBe S T2 := FR.tr hFT1 w23 rfl
      show Rl _ _ _ _ _ [iv z22] _ _
      refine l_if_ne rfl rfl (by unfold rg; omega) (fun w24 => ?_) (fun w25 => ?_)
      · refine l_aload_n rfl rfl ?_
        refine l_gfr rfl rfl rfl rfl rfl (hHT2.r 890 0 876 rfl) ?_
        refine l_aload_n rfl rfl ?_
        refine l_gfi rfl rfl rfl rfl rfl ?_
        have w26 : 0 ≤ (Xi T2 890 1) ∧ (Xi T2 890 1) ≤ 5126 := hHT2.c _ _
        have w27 : Xi T2 876 7 = Xi S 876 7 := (show Xi T2 876 7 = Xi T1 876 7 from w23.x _ _ rfl).trans ((show Xi T1 876 7 = Xi S 876 7 from w12.x _ _ rfl))
        have w28 : 0 ≤ Xi S 876 7 ∧ Xi S 876 7 ≤ 5125 := hH.c _ _
        refine l_callV rfl rfl rfl (t_to_typeAt hHT2 (Xi T2 890 1) ⟨by omega, by omega⟩ _) ?_
        rintro _ _ ⟨rfl, z30, rfl, w30, w29⟩
        show Rl _ _ _ _ _ [iv z30] _ _
        refine l_istore_n rfl rfl rfl ?_
        refine l_aload_n rfl rfl ?_
        refine l_gfr rfl rfl rfl rfl rfl (hHT2.r 890 0 876 rfl) ?_
        refine l_aload_n rfl rfl ?_
        refine l_gfi rfl rfl rfl rfl rfl ?_
        refine l_iconst rfl ?_
        refine l_iadd rfl ?_
        have w31 : Xi T2 876 7 = Xi S 876 7 := (show Xi T2 876 7 = Xi T1 876 7 from w23.x _ _ rfl).trans ((show Xi T1 876 7 = Xi S 876 7 from w12.x _ _ rfl))
        have w32 : 0 ≤ Xi S 876 7 ∧ Xi S 876 7 ≤ 5125 := hH.c _ _
        refine l_callV rfl rfl rfl (t_to_typeAt hHT2 ((Xi T2 890 1) + 1) ⟨by omega, by omega⟩ _) ?_
        rintro _ _ ⟨rfl, z34, rfl, w34, w33⟩
        show Rl _ _ _ _ _ [iv z34] _ _
        refine l_istore_n rfl rfl rfl ?_
        refine l_iload_n rfl rfl ?_
        refine l_if_ne rfl rfl (by unfold rg; omega) (fun w35 => ?_) (fun w36 => ?_)
        · refine l_iload_n rfl rfl ?_
          refine l_iconst rfl ?_
          refine l_icmp_ne rfl rfl (by unfold rg; omega) (by unfold rg; omega) (fun w37 => ?_) (fun w38 => ?_)
          · refine l_iload_n rfl rfl ?_
            refine l_callS rfl rfl (by decide) rfl (t_rs_isArt hHT2 z30 ⟨by omega, by omega⟩ _) ?_
            rintro _ _ ⟨rfl, z40, rfl, w40, w39⟩
            show Rl _ _ _ _ _ [iv z40] _ _
            refine l_if_eq rfl rfl (by unfold rg; omega) (fun w41 => ?_) (fun w42 => ?_)
            · refine l_aload_n rfl rfl ?_
              have w43 : Xi T2 876 7 = Xi S 876 7 := (show Xi T2 876 7 = Xi T1 876 7 from w23.x _ _ rfl).trans ((show Xi T1 876 7 = Xi S 876 7 from w12.x _ _ rfl))
              have w44 : 0 ≤ Xi S 876 7 ∧ Xi S 876 7 ≤ 5125 := hH.c _ _
              have w45 : 0 ≤ Xi T2 890 1 ∧ Xi T2 890 1 ≤ 5126 := hHT2.c _ _
              refine l_callV rfl rfl rfl (t_gr_atPlace hHT2 _) ?_
              rintro _ _ ⟨rfl, z47, rfl, w47, w46⟩
              show Rl _ _ _ _ _ [iv z47] _ _
              refine l_if_eq rfl rfl (by unfold rg; omega) (fun w48 => ?_) (fun w49 => ?_)
              · refine l_aload_n rfl rfl ?_
                refine l_aload_n rfl rfl ?_
                refine l_bipush rfl rfl ?_
                have w50 : Xi T2 876 7 = Xi S 876 7 := (show Xi T2 876 7 = Xi T1 876 7 from w23.x _ _ rfl).trans ((show Xi T1 876 7 = Xi S 876 7 from w12.x _ _ rfl))
                have w51 : 0 ≤ Xi S 876 7 ∧ Xi S 876 7 ≤ 5125 := hH.c _ _
                have w52 : 0 ≤ Xi T2 890 1 ∧ Xi T2 890 1 ≤ 5126 := hHT2.c _ _
                refine l_callV rfl rfl rfl (t_gr_take hHT2 6 ⟨by omega, by omega⟩ (by first | assumption | omega) (by first | assumption | omega) (by first | assumption | omega) _) ?_
                rintro _ T3 ⟨hHT3, w58, z57, rfl, w57, w53, w54, w55, w56⟩
                have hFT3 : FR md_gr_checkBe S T3 := FR.tr hFT2 w58 rfl
                show Rl _ _ _ _ _ [iv z57, .ref 890] _ _
                refine l_if_ne rfl rfl (by unfold rg; omega) (fun w59 => ?_) (fun w60 => ?_)
                · refine l_iconst rfl ?_
                  refine l_goto rfl rfl ?_
                  have w61 : Xi T3 876 7 = Xi S 876 7 := (show Xi T3 876 7 = Xi T2 876 7 from w58.x _ _ rfl).trans ( (show Xi T2 876 7 = Xi T1 876 7 from w23.x _ _ rfl).trans ((show Xi T1 876 7 = Xi S 876 7 from w12.x _ _ rfl)))
                  have w62 : 0 ≤ Xi S 876 7 ∧ Xi S 876 7 ≤ 5125 := hH.c _ _
                  have w63 : 0 ≤ Xi T3 890 1 ∧ Xi T3 890 1 ≤ 5126 := hHT3.c _ _
                  refine l_callV rfl rfl rfl (t_gr_checkRuns hHT3 1 ⟨by omega, by omega⟩ (by first | assumption | omega) (by first | assumption | omega) _) ?_
                  rintro _ T4 ⟨hHT4, w68, z67, rfl, w67, w64, w65, w66⟩
                  have hFT4 : FR md_gr_checkBe S T4 := FR.tr hFT3 w68 rfl
                  show Rl _ _ _ _ _ [iv z67] _ _
                  refine l_ireturn rfl (retI_z (by omega)) ?_
                  have w69 : 0 ≤ Xi T4 890 2 ∧ Xi T4 890 2 ≤ 20 := hHT4.c _ _
                  exact ⟨hHT4, hFT4, _, rfl, ⟨by omega, by omega⟩, (by first | assumption | omega)⟩
                · refine l_aload_n rfl rfl ?_
                  refine l_bipush rfl rfl ?_
                  have w70 : Xi T3 876 7 = Xi S 876 7 := (show Xi T3 876 7 = Xi T2 876 7 from w58.x _ _ rfl).trans ( (show Xi T2 876 7 = Xi T1 876 7 from w23.x _ _ rfl).trans ((show Xi T1 876 7 = Xi S 876 7 from w12.x _ _ rfl)))
                  have w71 : 0 ≤ Xi S 876 7 ∧ Xi S 876 7 ≤ 5125 := hH.c _ _
                  have w72 : 0 ≤ Xi T3 890 1 ∧ Xi T3 890 1 ≤ 5126 := hHT3.c _ _
                  refine l_callV rfl rfl rfl (t_gr_take hHT3 32 ⟨by omega, by omega⟩ (by first | assumption | omega) (by first | assumption | omega) (by first | assumption | omega) _) ?_
                  rintro _ T5 ⟨hHT5, w78, z77, rfl, w77, w73, w74, w75, w76⟩
                  have hFT5 : FR md_gr_checkBe S T5 := FR.tr hFT3 w78 rfl
                  show Rl _ _ _ _ _ [iv z77, .ref 890] _ _
                  refine l_if_eq rfl rfl (by unfold rg; omega) (fun w79 => ?_) (fun w80 => ?_)
                  · refine l_iconst rfl ?_
                    have w81 : Xi T5 876 7 = Xi S 876 7 := (show Xi T5 876 7 = Xi T3 876 7 from w78.x _ _ rfl).trans ( (show Xi T3 876 7 = Xi T2 876 7 from w58.x _ _ rfl).trans ( (show Xi T2 876 7 = Xi T1 876 7 from w23.x _ _ rfl).trans ((show Xi T1 876 7 = Xi S 876 7 from w12.x _ _ rfl))))
                    have w82 : 0 ≤ Xi S 876 7 ∧ Xi S 876 7 ≤ 5125 := hH.c _ _
                    have w83 : 0 ≤ Xi T5 890 1 ∧ Xi T5 890 1 ≤ 5126 := hHT5.c _ _
                    refine l_callV rfl rfl rfl (t_gr_checkRuns hHT5 0 ⟨by omega, by omega⟩ (by first | assumption | omega) (by first | assumption | omega) _) ?_
                    rintro _ T6 ⟨hHT6, w88, z87, rfl, w87, w84, w85, w86⟩
                    have hFT6 : FR md_gr_checkBe S T6 := FR.tr hFT5 w88 rfl
                    show Rl _ _ _ _ _ [iv z87] _ _
                    refine l_ireturn rfl (retI_z (by omega)) ?_
                    have w89 : 0 ≤ Xi T6 890 2 ∧ Xi T6 890 2 ≤ 20 := hHT6.c _ _
                    exact ⟨hHT6, hFT6, _, rfl, ⟨by omega, by omega⟩, (by first | assumption | omega)⟩
                  · refine l_iconst rfl ?_
                    refine l_goto rfl rfl ?_
                    have w90 : Xi T5 876 7 = Xi S 876 7 := (show Xi T5 876 7 = Xi T3 876 7 from w78.x _ _ rfl).trans ( (show Xi T3 876 7 = Xi T2 876 7 from w58.x _ _ rfl).trans ( (show Xi T2 876 7 = Xi T1 876 7 from w23.x _ _ rfl).trans ((show Xi T1 876 7 = Xi S 876 7 from w12.x _ _ rfl))))
                    have w91 : 0 ≤ Xi S 876 7 ∧ Xi S 876 7 ≤ 5125 := hH.c _ _
                    have w92 : 0 ≤ Xi T5 890 1 ∧ Xi T5 890 1 ≤ 5126 := hHT5.c _ _
                    refine l_callV rfl rfl rfl (t_gr_checkRuns hHT5 1 ⟨by omega, by omega⟩ (by first | assumption | omega) (by first | assumption | omega) _) ?_
                    rintro _ T7 ⟨hHT7, w97, z96, rfl, w96, w93, w94, w95⟩
                    have hFT7 : FR md_gr_checkBe S T7 := FR.tr hFT5 w97 rfl
                    show Rl _ _ _ _ _ [iv z96] _ _
                    refine l_ireturn rfl (retI_z (by omega)) ?_
                    have w98 : 0 ≤ Xi T7 890 2 ∧ Xi T7 890 2 ≤ 20 := hHT7.c _ _
                    exact ⟨hHT7, hFT7, _, rfl, ⟨by omega, by omega⟩, (by first | assumption | omega)⟩
              · refine l_aload_n rfl rfl ?_
                refine l_bipush rfl rfl ?_
                refine l_pfi rfl rfl rfl rfl ?_
                obtain ⟨U8, eU8⟩ : ∃ T : sS, T = uI T2 890 2 (Int32.ofInt 13) := ⟨_, rfl⟩
                rw [← eU8]
                have hHU8 : HI U8 := by rw [eU8]; exact HI_w hHT2 (show 0 ≤ 13 by omega) (show 13 ≤ 20 by omega)
                have hFU8 : FR md_gr_checkBe S U8 := by rw [eU8]; exact FR.wI hFT2 (mdf_i (r := (890, 891, 2, 3)) (List.mem_of_getElem? (i := 1) rfl) (inR_i (by omega) (by omega) (by omega) (by omega)))
                have w99 : Xi U8 890 2 = 13 := by rw [eU8]; exact Xi_same (by unfold rg; omega)
                have hso321 : SAY U8 (Xi U8 890 1) := SAY_sort eU8 (by assumption) (by decide)
                refine l_aload_n rfl rfl ?_
                refine l_iconst rfl ?_
                have w100 : Xi U8 876 7 = Xi S 876 7 := (show Xi U8 876 7 = Xi T2 876 7 from by rw [eU8]; exact Xi_ne (by omega)).trans ( (show Xi T2 876 7 = Xi T1 876 7 from w23.x _ _ rfl).trans ((show Xi T1 876 7 = Xi S 876 7 from w12.x _ _ rfl)))
                have w101 : 0 ≤ Xi S 876 7 ∧ Xi S 876 7 ≤ 5125 := hH.c _ _
                have w102 : Xi U8 890 1 = Xi T2 890 1 := (show Xi U8 890 1 = Xi T2 890 1 from by rw [eU8]; exact Xi_ne (by omega))
                have w103 : 0 ≤ Xi T2 890 1 ∧ Xi T2 890 1 ≤ 5126 := hHT2.c _ _
                refine l_callV rfl rfl rfl (t_gr_takePlace hHU8 0 ⟨by omega, by omega⟩ (by first | assumption | omega) (by first | assumption | omega) (by first | omega | exact ⟨by omega, by rw [x877 eU8, show (Xi U8 890 1).toNat = (Xi T2 890 1).toNat by omega]; omega⟩) _) ?_
                rintro _ T9 ⟨hHT9, w107, z106, rfl, w106, w104, w105⟩
                have hFT9 : FR md_gr_checkBe S T9 := FR.tr hFU8 w107 rfl
                show Rl _ _ _ _ _ [iv z106] _ _
                refine l_if_eq rfl rfl (by unfold rg; omega) (fun w108 => ?_) (fun w109 => ?_)
                · refine l_iconst rfl ?_
                  refine l_ireturn rfl rfl ?_
                  have w110 : Xi T9 890 2 = Xi U8 890 2 := (show Xi T9 890 2 = Xi U8 890 2 from w107.x _ _ rfl)
                  have w111 : 0 ≤ Xi U8 890 2 ∧ Xi U8 890 2 ≤ 20 := hHU8.c _ _
                  exact ⟨hHT9, hFT9, _, rfl, ⟨by omega, by omega⟩, (by first | assumption | omega)⟩
                · refine l_aload_n rfl rfl ?_
                  refine l_bipush rfl rfl ?_
                  have w112 : Xi T9 876 7 = Xi S 876 7 := (show Xi T9 876 7 = Xi U8 876 7 from w107.x _ _ rfl).trans ( (show Xi U8 876 7 = Xi T2 876 7 from by rw [eU8]; exact Xi_ne (by omega)).trans ( (show Xi T2 876 7 = Xi T1 876 7 from w23.x _ _ rfl).trans ((show Xi T1 876 7 = Xi S 876 7 from w12.x _ _ rfl))))
                  have w113 : 0 ≤ Xi S 876 7 ∧ Xi S 876 7 ≤ 5125 := hH.c _ _
                  have w114 : 0 ≤ Xi T9 890 1 ∧ Xi T9 890 1 ≤ 5126 := hHT9.c _ _
                  refine l_callV rfl rfl rfl (t_gr_take hHT9 103 ⟨by omega, by omega⟩ (by first | assumption | omega) (by first | assumption | omega) (by first | assumption | omega) _) ?_
                  rintro _ T10 ⟨hHT10, w120, z119, rfl, w119, w115, w116, w117, w118⟩
                  have hFT10 : FR md_gr_checkBe S T10 := FR.tr hFT9 w120 rfl
                  show Rl _ _ _ _ _ [iv z119] _ _
                  refine l_if_eq rfl rfl (by unfold rg; omega) (fun w121 => ?_) (fun w122 => ?_)
                  · refine l_iconst rfl ?_
                    refine l_ireturn rfl rfl ?_
                    have w123 : Xi T10 890 2 = Xi U8 890 2 := (show Xi T10 890 2 = Xi T9 890 2 from w120.x _ _ rfl).trans ((show Xi T9 890 2 = Xi U8 890 2 from w107.x _ _ rfl))
                    have w124 : 0 ≤ Xi U8 890 2 ∧ Xi U8 890 2 ≤ 20 := hHU8.c _ _
                    exact ⟨hHT10, hFT10, _, rfl, ⟨by omega, by omega⟩, (by first | assumption | omega)⟩
                  · refine l_iconst rfl ?_
                    refine l_goto rfl rfl ?_
                    refine l_ireturn rfl rfl ?_
                    have w125 : Xi T10 890 2 = Xi U8 890 2 := (show Xi T10 890 2 = Xi T9 890 2 from w120.x _ _ rfl).trans ((show Xi T9 890 2 = Xi U8 890 2 from w107.x _ _ rfl))
                    have w126 : 0 ≤ Xi U8 890 2 ∧ Xi U8 890 2 ≤ 20 := hHU8.c _ _
                    exact ⟨hHT10, hFT10, _, rfl, ⟨by omega, by omega⟩, (by first | assumption | omega)⟩
            · refine l_aload_n rfl rfl ?_
              refine l_bipush rfl rfl ?_
              refine l_pfi rfl rfl rfl rfl ?_
              obtain ⟨U11, eU11⟩ : ∃ T : sS, T = uI T2 890 2 (Int32.ofInt 12) := ⟨_, rfl⟩
              rw [← eU11]
              have hHU11 : HI U11 := by rw [eU11]; exact HI_w hHT2 (show 0 ≤ 12 by omega) (show 12 ≤ 20 by omega)
              have hFU11 : FR md_gr_checkBe S U11 := by rw [eU11]; exact FR.wI hFT2 (mdf_i (r := (890, 891, 2, 3)) (List.mem_of_getElem? (i := 1) rfl) (inR_i (by omega) (by omega) (by omega) (by omega)))
              have w127 : Xi U11 890 2 = 12 := by rw [eU11]; exact Xi_same (by unfold rg; omega)
              have hso261 : SAY U11 (Xi U11 890 1) := SAY_sort eU11 (by assumption) (by decide)
              refine l_aload_n rfl rfl ?_
              refine l_dup rfl rfl ?_
              refine l_gfi rfl rfl rfl rfl rfl ?_
              have w128 : (Xi U11 890 1) = (Xi T2 890 1) := (show Xi U11 890 1 = Xi T2 890 1 from by rw [eU11]; exact Xi_ne (by omega))
              rw [w128]
              refine l_iconst rfl ?_
              refine l_iadd rfl ?_
              refine l_pfi rfl rfl rfl rfl ?_
              obtain ⟨U12, eU12⟩ : ∃ T : sS, T = uI U11 890 1 (Int32.ofInt ((Xi T2 890 1) + 1)) := ⟨_, rfl⟩
              rw [← eU12]
              have hHU12 : HI U12 := by rw [eU12]; exact HI_w hHU11 (show 0 ≤ ((Xi T2 890 1) + 1) by omega) (show ((Xi T2 890 1) + 1) ≤ 5126 by omega)
              have hFU12 : FR md_gr_checkBe S U12 := by rw [eU12]; exact FR.wI hFU11 (mdf_i (r := (890, 891, 1, 2)) (List.mem_of_getElem? (i := 0) rfl) (inR_i (by omega) (by omega) (by omega) (by omega)))
              have w129 : Xi U12 890 1 = ((Xi T2 890 1) + 1) := by rw [eU12]; exact Xi_same (by unfold rg; omega)
              have hs271 : SAY U12 (Xi U12 890 1) := SAY_1x eU11 eU12 (by omega) (by assumption) (by omega) (by omega) (by omega)
              refine l_aload_n rfl rfl ?_
              have w130 : Xi U12 876 7 = Xi S 876 7 := (show Xi U12 876 7 = Xi U11 876 7 from by rw [eU12]; exact Xi_ne (by omega)).trans ( (show Xi U11 876 7 = Xi T2 876 7 from by rw [eU11]; exact Xi_ne (by omega)).trans ( (show Xi T2 876 7 = Xi T1 876 7 from w23.x _ _ rfl).trans ((show Xi T1 876 7 = Xi S 876 7 from w12.x _ _ rfl))))
              have w131 : 0 ≤ Xi S 876 7 ∧ Xi S 876 7 ≤ 5125 := hH.c _ _
              have w132 : 0 ≤ Xi U12 890 1 ∧ Xi U12 890 1 ≤ 5126 := hHU12.c _ _
              refine l_callV rfl rfl rfl (t_gr_takeRun hHU12 (by first | assumption | omega) (by first | assumption | omega) _) ?_
              rintro _ T13 ⟨hHT13, w137, z136, rfl, w136, w133, w134, w135⟩
              have hFT13 : FR md_gr_checkBe S T13 := FR.tr hFU12 w137 rfl
              show Rl _ _ _ _ _ [iv z136] _ _
              refine l_if_eq rfl rfl (by unfold rg; omega) (fun w138 => ?_) (fun w139 => ?_)
              · refine l_iconst rfl ?_
                refine l_ireturn rfl rfl ?_
                have w140 : Xi T13 890 2 = Xi U11 890 2 := (show Xi T13 890 2 = Xi U12 890 2 from w137.x _ _ rfl).trans ((show Xi U12 890 2 = Xi U11 890 2 from by rw [eU12]; exact Xi_ne (by omega)))
                have w141 : 0 ≤ Xi U11 890 2 ∧ Xi U11 890 2 ≤ 20 := hHU11.c _ _
                exact ⟨hHT13, hFT13, _, rfl, ⟨by omega, by omega⟩, (by first | assumption | omega)⟩
              · refine l_aload_n rfl rfl ?_
                have w142 : Xi T13 876 7 = Xi S 876 7 := (show Xi T13 876 7 = Xi U12 876 7 from w137.x _ _ rfl).trans ( (show Xi U12 876 7 = Xi U11 876 7 from by rw [eU12]; exact Xi_ne (by omega)).trans ( (show Xi U11 876 7 = Xi T2 876 7 from by rw [eU11]; exact Xi_ne (by omega)).trans ( (show Xi T2 876 7 = Xi T1 876 7 from w23.x _ _ rfl).trans ((show Xi T1 876 7 = Xi S 876 7 from w12.x _ _ rfl)))))
                have w143 : 0 ≤ Xi S 876 7 ∧ Xi S 876 7 ≤ 5125 := hH.c _ _
                have w144 : 0 ≤ Xi T13 890 1 ∧ Xi T13 890 1 ≤ 5126 := hHT13.c _ _
                refine l_callV rfl rfl rfl (t_gr_atPlace hHT13 _) ?_
                rintro _ _ ⟨rfl, z146, rfl, w146, w145⟩
                show Rl _ _ _ _ _ [iv z146] _ _
                refine l_if_eq rfl rfl (by unfold rg; omega) (fun w147 => ?_) (fun w148 => ?_)
                · refine l_aload_n rfl rfl ?_
                  refine l_bipush rfl rfl ?_
                  have w149 : Xi T13 876 7 = Xi S 876 7 := (show Xi T13 876 7 = Xi U12 876 7 from w137.x _ _ rfl).trans ( (show Xi U12 876 7 = Xi U11 876 7 from by rw [eU12]; exact Xi_ne (by omega)).trans ( (show Xi U11 876 7 = Xi T2 876 7 from by rw [eU11]; exact Xi_ne (by omega)).trans ( (show Xi T2 876 7 = Xi T1 876 7 from w23.x _ _ rfl).trans ((show Xi T1 876 7 = Xi S 876 7 from w12.x _ _ rfl)))))
                  have w150 : 0 ≤ Xi S 876 7 ∧ Xi S 876 7 ≤ 5125 := hH.c _ _
                  have w151 : 0 ≤ Xi T13 890 1 ∧ Xi T13 890 1 ≤ 5126 := hHT13.c _ _
                  refine l_callV rfl rfl rfl (t_gr_take hHT13 103 ⟨by omega, by omega⟩ (by first | assumption | omega) (by first | assumption | omega) (by first | assumption | omega) _) ?_
                  rintro _ T14 ⟨hHT14, w157, z156, rfl, w156, w152, w153, w154, w155⟩
                  have hFT14 : FR md_gr_checkBe S T14 := FR.tr hFT13 w157 rfl
                  show Rl _ _ _ _ _ [iv z156] _ _
                  refine l_if_eq rfl rfl (by unfold rg; omega) (fun w158 => ?_) (fun w159 => ?_)
                  · refine l_iconst rfl ?_
                    refine l_ireturn rfl rfl ?_
                    have w160 : Xi T14 890 2 = Xi U11 890 2 := (show Xi T14 890 2 = Xi T13 890 2 from w157.x _ _ rfl).trans ( (show Xi T13 890 2 = Xi U12 890 2 from w137.x _ _ rfl).trans ((show Xi U12 890 2 = Xi U11 890 2 from by rw [eU12]; exact Xi_ne (by omega))))
                    have w161 : 0 ≤ Xi U11 890 2 ∧ Xi U11 890 2 ≤ 20 := hHU11.c _ _
                    exact ⟨hHT14, hFT14, _, rfl, ⟨by omega, by omega⟩, (by first | assumption | omega)⟩
                  · refine l_iconst rfl ?_
                    refine l_goto rfl rfl ?_
                    refine l_ireturn rfl rfl ?_
                    have w162 : Xi T14 890 2 = Xi U11 890 2 := (show Xi T14 890 2 = Xi T13 890 2 from w157.x _ _ rfl).trans ( (show Xi T13 890 2 = Xi U12 890 2 from w137.x _ _ rfl).trans ((show Xi U12 890 2 = Xi U11 890 2 from by rw [eU12]; exact Xi_ne (by omega))))
                    have w163 : 0 ≤ Xi U11 890 2 ∧ Xi U11 890 2 ≤ 20 := hHU11.c _ _
                    exact ⟨hHT14, hFT14, _, rfl, ⟨by omega, by omega⟩, (by first | assumption | omega)⟩
                · refine l_aload_n rfl rfl ?_
                  refine l_iconst rfl ?_
                  have w164 : Xi T13 876 7 = Xi S 876 7 := (show Xi T13 876 7 = Xi U12 876 7 from w137.x _ _ rfl).trans ( (show Xi U12 876 7 = Xi U11 876 7 from by rw [eU12]; exact Xi_ne (by omega)).trans ( (show Xi U11 876 7 = Xi T2 876 7 from by rw [eU11]; exact Xi_ne (by omega)).trans ( (show Xi T2 876 7 = Xi T1 876 7 from w23.x _ _ rfl).trans ((show Xi T1 876 7 = Xi S 876 7 from w12.x _ _ rfl)))))
                  have w165 : 0 ≤ Xi S 876 7 ∧ Xi S 876 7 ≤ 5125 := hH.c _ _
                  have w166 : 0 ≤ Xi T13 890 1 ∧ Xi T13 890 1 ≤ 5126 := hHT13.c _ _
                  refine l_callV rfl rfl rfl (t_gr_takePlace hHT13 0 ⟨by omega, by omega⟩ (by first | assumption | omega) (by first | assumption | omega) (by first | omega | exact ⟨by omega, by rw [x877 , show (Xi T13 890 1).toNat = (Xi U12 890 1).toNat by omega]; omega⟩) _) ?_
                  rintro _ T15 ⟨hHT15, w170, z169, rfl, w169, w167, w168⟩
                  have hFT15 : FR md_gr_checkBe S T15 := FR.tr hFT13 w170 rfl
                  show Rl _ _ _ _ _ [iv z169] _ _
                  refine l_if_eq rfl rfl (by unfold rg; omega) (fun w171 => ?_) (fun w172 => ?_)
                  · refine l_iconst rfl ?_
                    refine l_ireturn rfl rfl ?_
                    have w173 : Xi T15 890 2 = Xi U11 890 2 := (show Xi T15 890 2 = Xi T13 890 2 from w170.x _ _ rfl).trans ( (show Xi T13 890 2 = Xi U12 890 2 from w137.x _ _ rfl).trans ((show Xi U12 890 2 = Xi U11 890 2 from by rw [eU12]; exact Xi_ne (by omega))))
                    have w174 : 0 ≤ Xi U11 890 2 ∧ Xi U11 890 2 ≤ 20 := hHU11.c _ _
                    exact ⟨hHT15, hFT15, _, rfl, ⟨by omega, by omega⟩, (by first | assumption | omega)⟩
                  · refine l_aload_n rfl rfl ?_
                    refine l_bipush rfl rfl ?_
                    have w175 : Xi T15 876 7 = Xi S 876 7 := (show Xi T15 876 7 = Xi T13 876 7 from w170.x _ _ rfl).trans ( (show Xi T13 876 7 = Xi U12 876 7 from w137.x _ _ rfl).trans ( (show Xi U12 876 7 = Xi U11 876 7 from by rw [eU12]; exact Xi_ne (by omega)).trans ( (show Xi U11 876 7 = Xi T2 876 7 from by rw [eU11]; exact Xi_ne (by omega)).trans ( (show Xi T2 876 7 = Xi T1 876 7 from w23.x _ _ rfl).trans ((show Xi T1 876 7 = Xi S 876 7 from w12.x _ _ rfl))))))
                    have w176 : 0 ≤ Xi S 876 7 ∧ Xi S 876 7 ≤ 5125 := hH.c _ _
                    have w177 : 0 ≤ Xi T15 890 1 ∧ Xi T15 890 1 ≤ 5126 := hHT15.c _ _
                    refine l_callV rfl rfl rfl (t_gr_take hHT15 103 ⟨by omega, by omega⟩ (by first | assumption | omega) (by first | assumption | omega) (by first | assumption | omega) _) ?_
                    rintro _ T16 ⟨hHT16, w183, z182, rfl, w182, w178, w179, w180, w181⟩
                    have hFT16 : FR md_gr_checkBe S T16 := FR.tr hFT15 w183 rfl
                    show Rl _ _ _ _ _ [iv z182] _ _
                    refine l_if_eq rfl rfl (by unfold rg; omega) (fun w184 => ?_) (fun w185 => ?_)
                    · refine l_iconst rfl ?_
                      refine l_ireturn rfl rfl ?_
                      have w186 : Xi T16 890 2 = Xi U11 890 2 := (show Xi T16 890 2 = Xi T15 890 2 from w183.x _ _ rfl).trans ( (show Xi T15 890 2 = Xi T13 890 2 from w170.x _ _ rfl).trans ( (show Xi T13 890 2 = Xi U12 890 2 from w137.x _ _ rfl).trans ((show Xi U12 890 2 = Xi U11 890 2 from by rw [eU12]; exact Xi_ne (by omega)))))
                      have w187 : 0 ≤ Xi U11 890 2 ∧ Xi U11 890 2 ≤ 20 := hHU11.c _ _
                      exact ⟨hHT16, hFT16, _, rfl, ⟨by omega, by omega⟩, (by first | assumption | omega)⟩
                    · refine l_iconst rfl ?_
                      refine l_goto rfl rfl ?_
                      refine l_ireturn rfl rfl ?_
                      have w188 : Xi T16 890 2 = Xi U11 890 2 := (show Xi T16 890 2 = Xi T15 890 2 from w183.x _ _ rfl).trans ( (show Xi T15 890 2 = Xi T13 890 2 from w170.x _ _ rfl).trans ( (show Xi T13 890 2 = Xi U12 890 2 from w137.x _ _ rfl).trans ((show Xi U12 890 2 = Xi U11 890 2 from by rw [eU12]; exact Xi_ne (by omega)))))
                      have w189 : 0 ≤ Xi U11 890 2 ∧ Xi U11 890 2 ≤ 20 := hHU11.c _ _
                      exact ⟨hHT16, hFT16, _, rfl, ⟨by omega, by omega⟩, (by first | assumption | omega)⟩
          · refine l_iload_n rfl rfl ?_
            refine l_bipush rfl rfl ?_
            refine l_icmp_ne rfl rfl (by unfold rg; omega) (by unfold rg; omega) (fun w190 => ?_) (fun w191 => ?_)
            · refine l_iload_n rfl rfl ?_
              refine l_callS rfl rfl (by decide) rfl (t_rs_isArt hHT2 z30 ⟨by omega, by omega⟩ _) ?_
              rintro _ _ ⟨rfl, z193, rfl, w193, w192⟩
              show Rl _ _ _ _ _ [iv z193] _ _
              refine l_if_eq rfl rfl (by unfold rg; omega) (fun w194 => ?_) (fun w195 => ?_)
              · refine l_aload_n rfl rfl ?_
                have w196 : Xi T2 876 7 = Xi S 876 7 := (show Xi T2 876 7 = Xi T1 876 7 from w23.x _ _ rfl).trans ((show Xi T1 876 7 = Xi S 876 7 from w12.x _ _ rfl))
                have w197 : 0 ≤ Xi S 876 7 ∧ Xi S 876 7 ≤ 5125 := hH.c _ _
                have w198 : 0 ≤ Xi T2 890 1 ∧ Xi T2 890 1 ≤ 5126 := hHT2.c _ _
                refine l_callV rfl rfl rfl (t_gr_atPlace hHT2 _) ?_
                rintro _ _ ⟨rfl, z200, rfl, w200, w199⟩
                show Rl _ _ _ _ _ [iv z200] _ _
                refine l_if_eq rfl rfl (by unfold rg; omega) (fun w201 => ?_) (fun w202 => ?_)
                · refine l_aload_n rfl rfl ?_
                  refine l_aload_n rfl rfl ?_
                  refine l_bipush rfl rfl ?_
                  have w203 : Xi T2 876 7 = Xi S 876 7 := (show Xi T2 876 7 = Xi T1 876 7 from w23.x _ _ rfl).trans ((show Xi T1 876 7 = Xi S 876 7 from w12.x _ _ rfl))
                  have w204 : 0 ≤ Xi S 876 7 ∧ Xi S 876 7 ≤ 5125 := hH.c _ _
                  have w205 : 0 ≤ Xi T2 890 1 ∧ Xi T2 890 1 ≤ 5126 := hHT2.c _ _
                  refine l_callV rfl rfl rfl (t_gr_take hHT2 6 ⟨by omega, by omega⟩ (by first | assumption | omega) (by first | assumption | omega) (by first | assumption | omega) _) ?_
                  rintro _ T17 ⟨hHT17, w211, z210, rfl, w210, w206, w207, w208, w209⟩
                  have hFT17 : FR md_gr_checkBe S T17 := FR.tr hFT2 w211 rfl
                  show Rl _ _ _ _ _ [iv z210, .ref 890] _ _
                  refine l_if_ne rfl rfl (by unfold rg; omega) (fun w212 => ?_) (fun w213 => ?_)
                  · refine l_iconst rfl ?_
                    refine l_goto rfl rfl ?_
                    have w214 : Xi T17 876 7 = Xi S 876 7 := (show Xi T17 876 7 = Xi T2 876 7 from w211.x _ _ rfl).trans ( (show Xi T2 876 7 = Xi T1 876 7 from w23.x _ _ rfl).trans ((show Xi T1 876 7 = Xi S 876 7 from w12.x _ _ rfl)))
                    have w215 : 0 ≤ Xi S 876 7 ∧ Xi S 876 7 ≤ 5125 := hH.c _ _
                    have w216 : 0 ≤ Xi T17 890 1 ∧ Xi T17 890 1 ≤ 5126 := hHT17.c _ _
                    refine l_callV rfl rfl rfl (t_gr_checkRuns hHT17 1 ⟨by omega, by omega⟩ (by first | assumption | omega) (by first | assumption | omega) _) ?_
                    rintro _ T18 ⟨hHT18, w221, z220, rfl, w220, w217, w218, w219⟩
                    have hFT18 : FR md_gr_checkBe S T18 := FR.tr hFT17 w221 rfl
                    show Rl _ _ _ _ _ [iv z220] _ _
                    refine l_ireturn rfl (retI_z (by omega)) ?_
                    have w222 : 0 ≤ Xi T18 890 2 ∧ Xi T18 890 2 ≤ 20 := hHT18.c _ _
                    exact ⟨hHT18, hFT18, _, rfl, ⟨by omega, by omega⟩, (by first | assumption | omega)⟩
                  · refine l_aload_n rfl rfl ?_
                    refine l_bipush rfl rfl ?_
                    have w223 : Xi T17 876 7 = Xi S 876 7 := (show Xi T17 876 7 = Xi T2 876 7 from w211.x _ _ rfl).trans ( (show Xi T2 876 7 = Xi T1 876 7 from w23.x _ _ rfl).trans ((show Xi T1 876 7 = Xi S 876 7 from w12.x _ _ rfl)))
                    have w224 : 0 ≤ Xi S 876 7 ∧ Xi S 876 7 ≤ 5125 := hH.c _ _
                    have w225 : 0 ≤ Xi T17 890 1 ∧ Xi T17 890 1 ≤ 5126 := hHT17.c _ _
                    refine l_callV rfl rfl rfl (t_gr_take hHT17 32 ⟨by omega, by omega⟩ (by first | assumption | omega) (by first | assumption | omega) (by first | assumption | omega) _) ?_
                    rintro _ T19 ⟨hHT19, w231, z230, rfl, w230, w226, w227, w228, w229⟩
                    have hFT19 : FR md_gr_checkBe S T19 := FR.tr hFT17 w231 rfl
                    show Rl _ _ _ _ _ [iv z230, .ref 890] _ _
                    refine l_if_eq rfl rfl (by unfold rg; omega) (fun w232 => ?_) (fun w233 => ?_)
                    · refine l_iconst rfl ?_
                      have w234 : Xi T19 876 7 = Xi S 876 7 := (show Xi T19 876 7 = Xi T17 876 7 from w231.x _ _ rfl).trans ( (show Xi T17 876 7 = Xi T2 876 7 from w211.x _ _ rfl).trans ( (show Xi T2 876 7 = Xi T1 876 7 from w23.x _ _ rfl).trans ((show Xi T1 876 7 = Xi S 876 7 from w12.x _ _ rfl))))
                      have w235 : 0 ≤ Xi S 876 7 ∧ Xi S 876 7 ≤ 5125 := hH.c _ _
                      have w236 : 0 ≤ Xi T19 890 1 ∧ Xi T19 890 1 ≤ 5126 := hHT19.c _ _
                      refine l_callV rfl rfl rfl (t_gr_checkRuns hHT19 0 ⟨by omega, by omega⟩ (by first | assumption | omega) (by first | assumption | omega) _) ?_
                      rintro _ T20 ⟨hHT20, w241, z240, rfl, w240, w237, w238, w239⟩
                      have hFT20 : FR md_gr_checkBe S T20 := FR.tr hFT19 w241 rfl
                      show Rl _ _ _ _ _ [iv z240] _ _
                      refine l_ireturn rfl (retI_z (by omega)) ?_
                      have w242 : 0 ≤ Xi T20 890 2 ∧ Xi T20 890 2 ≤ 20 := hHT20.c _ _
                      exact ⟨hHT20, hFT20, _, rfl, ⟨by omega, by omega⟩, (by first | assumption | omega)⟩
                    · refine l_iconst rfl ?_
                      refine l_goto rfl rfl ?_
                      have w243 : Xi T19 876 7 = Xi S 876 7 := (show Xi T19 876 7 = Xi T17 876 7 from w231.x _ _ rfl).trans ( (show Xi T17 876 7 = Xi T2 876 7 from w211.x _ _ rfl).trans ( (show Xi T2 876 7 = Xi T1 876 7 from w23.x _ _ rfl).trans ((show Xi T1 876 7 = Xi S 876 7 from w12.x _ _ rfl))))
                      have w244 : 0 ≤ Xi S 876 7 ∧ Xi S 876 7 ≤ 5125 := hH.c _ _
                      have w245 : 0 ≤ Xi T19 890 1 ∧ Xi T19 890 1 ≤ 5126 := hHT19.c _ _
                      refine l_callV rfl rfl rfl (t_gr_checkRuns hHT19 1 ⟨by omega, by omega⟩ (by first | assumption | omega) (by first | assumption | omega) _) ?_
                      rintro _ T21 ⟨hHT21, w250, z249, rfl, w249, w246, w247, w248⟩
                      have hFT21 : FR md_gr_checkBe S T21 := FR.tr hFT19 w250 rfl
                      show Rl _ _ _ _ _ [iv z249] _ _
                      refine l_ireturn rfl (retI_z (by omega)) ?_
                      have w251 : 0 ≤ Xi T21 890 2 ∧ Xi T21 890 2 ≤ 20 := hHT21.c _ _
                      exact ⟨hHT21, hFT21, _, rfl, ⟨by omega, by omega⟩, (by first | assumption | omega)⟩
                · refine l_aload_n rfl rfl ?_
                  refine l_bipush rfl rfl ?_
                  refine l_pfi rfl rfl rfl rfl ?_
                  obtain ⟨U22, eU22⟩ : ∃ T : sS, T = uI T2 890 2 (Int32.ofInt 13) := ⟨_, rfl⟩
                  rw [← eU22]
                  have hHU22 : HI U22 := by rw [eU22]; exact HI_w hHT2 (show 0 ≤ 13 by omega) (show 13 ≤ 20 by omega)
                  have hFU22 : FR md_gr_checkBe S U22 := by rw [eU22]; exact FR.wI hFT2 (mdf_i (r := (890, 891, 2, 3)) (List.mem_of_getElem? (i := 1) rfl) (inR_i (by omega) (by omega) (by omega) (by omega)))
                  have w252 : Xi U22 890 2 = 13 := by rw [eU22]; exact Xi_same (by unfold rg; omega)
                  have hso321 : SAY U22 (Xi U22 890 1) := SAY_sort eU22 (by assumption) (by decide)
                  refine l_aload_n rfl rfl ?_
                  refine l_iconst rfl ?_
                  have w253 : Xi U22 876 7 = Xi S 876 7 := (show Xi U22 876 7 = Xi T2 876 7 from by rw [eU22]; exact Xi_ne (by omega)).trans ( (show Xi T2 876 7 = Xi T1 876 7 from w23.x _ _ rfl).trans ((show Xi T1 876 7 = Xi S 876 7 from w12.x _ _ rfl)))
                  have w254 : 0 ≤ Xi S 876 7 ∧ Xi S 876 7 ≤ 5125 := hH.c _ _
                  have w255 : Xi U22 890 1 = Xi T2 890 1 := (show Xi U22 890 1 = Xi T2 890 1 from by rw [eU22]; exact Xi_ne (by omega))
                  have w256 : 0 ≤ Xi T2 890 1 ∧ Xi T2 890 1 ≤ 5126 := hHT2.c _ _
                  refine l_callV rfl rfl rfl (t_gr_takePlace hHU22 0 ⟨by omega, by omega⟩ (by first | assumption | omega) (by first | assumption | omega) (by first | omega | exact ⟨by omega, by rw [x877 eU22, show (Xi U22 890 1).toNat = (Xi T2 890 1).toNat by omega]; omega⟩) _) ?_
                  rintro _ T23 ⟨hHT23, w260, z259, rfl, w259, w257, w258⟩
                  have hFT23 : FR md_gr_checkBe S T23 := FR.tr hFU22 w260 rfl
                  show Rl _ _ _ _ _ [iv z259] _ _
                  refine l_if_eq rfl rfl (by unfold rg; omega) (fun w261 => ?_) (fun w262 => ?_)
                  · refine l_iconst rfl ?_
                    refine l_ireturn rfl rfl ?_
                    have w263 : Xi T23 890 2 = Xi U22 890 2 := (show Xi T23 890 2 = Xi U22 890 2 from w260.x _ _ rfl)
                    have w264 : 0 ≤ Xi U22 890 2 ∧ Xi U22 890 2 ≤ 20 := hHU22.c _ _
                    exact ⟨hHT23, hFT23, _, rfl, ⟨by omega, by omega⟩, (by first | assumption | omega)⟩
                  · refine l_aload_n rfl rfl ?_
                    refine l_bipush rfl rfl ?_
                    have w265 : Xi T23 876 7 = Xi S 876 7 := (show Xi T23 876 7 = Xi U22 876 7 from w260.x _ _ rfl).trans ( (show Xi U22 876 7 = Xi T2 876 7 from by rw [eU22]; exact Xi_ne (by omega)).trans ( (show Xi T2 876 7 = Xi T1 876 7 from w23.x _ _ rfl).trans ((show Xi T1 876 7 = Xi S 876 7 from w12.x _ _ rfl))))
                    have w266 : 0 ≤ Xi S 876 7 ∧ Xi S 876 7 ≤ 5125 := hH.c _ _
                    have w267 : 0 ≤ Xi T23 890 1 ∧ Xi T23 890 1 ≤ 5126 := hHT23.c _ _
                    refine l_callV rfl rfl rfl (t_gr_take hHT23 103 ⟨by omega, by omega⟩ (by first | assumption | omega) (by first | assumption | omega) (by first | assumption | omega) _) ?_
                    rintro _ T24 ⟨hHT24, w273, z272, rfl, w272, w268, w269, w270, w271⟩
                    have hFT24 : FR md_gr_checkBe S T24 := FR.tr hFT23 w273 rfl
                    show Rl _ _ _ _ _ [iv z272] _ _
                    refine l_if_eq rfl rfl (by unfold rg; omega) (fun w274 => ?_) (fun w275 => ?_)
                    · refine l_iconst rfl ?_
                      refine l_ireturn rfl rfl ?_
                      have w276 : Xi T24 890 2 = Xi U22 890 2 := (show Xi T24 890 2 = Xi T23 890 2 from w273.x _ _ rfl).trans ((show Xi T23 890 2 = Xi U22 890 2 from w260.x _ _ rfl))
                      have w277 : 0 ≤ Xi U22 890 2 ∧ Xi U22 890 2 ≤ 20 := hHU22.c _ _
                      exact ⟨hHT24, hFT24, _, rfl, ⟨by omega, by omega⟩, (by first | assumption | omega)⟩
                    · refine l_iconst rfl ?_
                      refine l_goto rfl rfl ?_
                      refine l_ireturn rfl rfl ?_
                      have w278 : Xi T24 890 2 = Xi U22 890 2 := (show Xi T24 890 2 = Xi T23 890 2 from w273.x _ _ rfl).trans ((show Xi T23 890 2 = Xi U22 890 2 from w260.x _ _ rfl))
                      have w279 : 0 ≤ Xi U22 890 2 ∧ Xi U22 890 2 ≤ 20 := hHU22.c _ _
                      exact ⟨hHT24, hFT24, _, rfl, ⟨by omega, by omega⟩, (by first | assumption | omega)⟩
              · refine l_aload_n rfl rfl ?_
                refine l_bipush rfl rfl ?_
                refine l_pfi rfl rfl rfl rfl ?_
                obtain ⟨U25, eU25⟩ : ∃ T : sS, T = uI T2 890 2 (Int32.ofInt 12) := ⟨_, rfl⟩
                rw [← eU25]
                have hHU25 : HI U25 := by rw [eU25]; exact HI_w hHT2 (show 0 ≤ 12 by omega) (show 12 ≤ 20 by omega)
                have hFU25 : FR md_gr_checkBe S U25 := by rw [eU25]; exact FR.wI hFT2 (mdf_i (r := (890, 891, 2, 3)) (List.mem_of_getElem? (i := 1) rfl) (inR_i (by omega) (by omega) (by omega) (by omega)))
                have w280 : Xi U25 890 2 = 12 := by rw [eU25]; exact Xi_same (by unfold rg; omega)
                have hso261 : SAY U25 (Xi U25 890 1) := SAY_sort eU25 (by assumption) (by decide)
                refine l_aload_n rfl rfl ?_
                refine l_dup rfl rfl ?_
                refine l_gfi rfl rfl rfl rfl rfl ?_
                have w281 : (Xi U25 890 1) = (Xi T2 890 1) := (show Xi U25 890 1 = Xi T2 890 1 from by rw [eU25]; exact Xi_ne (by omega))
                rw [w281]
                refine l_iconst rfl ?_
                refine l_iadd rfl ?_
                refine l_pfi rfl rfl rfl rfl ?_
                obtain ⟨U26, eU26⟩ : ∃ T : sS, T = uI U25 890 1 (Int32.ofInt ((Xi T2 890 1) + 1)) := ⟨_, rfl⟩
                rw [← eU26]
                have hHU26 : HI U26 := by rw [eU26]; exact HI_w hHU25 (show 0 ≤ ((Xi T2 890 1) + 1) by omega) (show ((Xi T2 890 1) + 1) ≤ 5126 by omega)
                have hFU26 : FR md_gr_checkBe S U26 := by rw [eU26]; exact FR.wI hFU25 (mdf_i (r := (890, 891, 1, 2)) (List.mem_of_getElem? (i := 0) rfl) (inR_i (by omega) (by omega) (by omega) (by omega)))
                have w282 : Xi U26 890 1 = ((Xi T2 890 1) + 1) := by rw [eU26]; exact Xi_same (by unfold rg; omega)
                have hs271 : SAY U26 (Xi U26 890 1) := SAY_1x eU25 eU26 (by omega) (by assumption) (by omega) (by omega) (by omega)
                refine l_aload_n rfl rfl ?_
                have w283 : Xi U26 876 7 = Xi S 876 7 := (show Xi U26 876 7 = Xi U25 876 7 from by rw [eU26]; exact Xi_ne (by omega)).trans ( (show Xi U25 876 7 = Xi T2 876 7 from by rw [eU25]; exact Xi_ne (by omega)).trans ( (show Xi T2 876 7 = Xi T1 876 7 from w23.x _ _ rfl).trans ((show Xi T1 876 7 = Xi S 876 7 from w12.x _ _ rfl))))
                have w284 : 0 ≤ Xi S 876 7 ∧ Xi S 876 7 ≤ 5125 := hH.c _ _
                have w285 : 0 ≤ Xi U26 890 1 ∧ Xi U26 890 1 ≤ 5126 := hHU26.c _ _
                refine l_callV rfl rfl rfl (t_gr_takeRun hHU26 (by first | assumption | omega) (by first | assumption | omega) _) ?_
                rintro _ T27 ⟨hHT27, w290, z289, rfl, w289, w286, w287, w288⟩
                have hFT27 : FR md_gr_checkBe S T27 := FR.tr hFU26 w290 rfl
                show Rl _ _ _ _ _ [iv z289] _ _
                refine l_if_eq rfl rfl (by unfold rg; omega) (fun w291 => ?_) (fun w292 => ?_)
                · refine l_iconst rfl ?_
                  refine l_ireturn rfl rfl ?_
                  have w293 : Xi T27 890 2 = Xi U25 890 2 := (show Xi T27 890 2 = Xi U26 890 2 from w290.x _ _ rfl).trans ((show Xi U26 890 2 = Xi U25 890 2 from by rw [eU26]; exact Xi_ne (by omega)))
                  have w294 : 0 ≤ Xi U25 890 2 ∧ Xi U25 890 2 ≤ 20 := hHU25.c _ _
                  exact ⟨hHT27, hFT27, _, rfl, ⟨by omega, by omega⟩, (by first | assumption | omega)⟩
                · refine l_aload_n rfl rfl ?_
                  have w295 : Xi T27 876 7 = Xi S 876 7 := (show Xi T27 876 7 = Xi U26 876 7 from w290.x _ _ rfl).trans ( (show Xi U26 876 7 = Xi U25 876 7 from by rw [eU26]; exact Xi_ne (by omega)).trans ( (show Xi U25 876 7 = Xi T2 876 7 from by rw [eU25]; exact Xi_ne (by omega)).trans ( (show Xi T2 876 7 = Xi T1 876 7 from w23.x _ _ rfl).trans ((show Xi T1 876 7 = Xi S 876 7 from w12.x _ _ rfl)))))
                  have w296 : 0 ≤ Xi S 876 7 ∧ Xi S 876 7 ≤ 5125 := hH.c _ _
                  have w297 : 0 ≤ Xi T27 890 1 ∧ Xi T27 890 1 ≤ 5126 := hHT27.c _ _
                  refine l_callV rfl rfl rfl (t_gr_atPlace hHT27 _) ?_
                  rintro _ _ ⟨rfl, z299, rfl, w299, w298⟩
                  show Rl _ _ _ _ _ [iv z299] _ _
                  refine l_if_eq rfl rfl (by unfold rg; omega) (fun w300 => ?_) (fun w301 => ?_)
                  · refine l_aload_n rfl rfl ?_
                    refine l_bipush rfl rfl ?_
                    have w302 : Xi T27 876 7 = Xi S 876 7 := (show Xi T27 876 7 = Xi U26 876 7 from w290.x _ _ rfl).trans ( (show Xi U26 876 7 = Xi U25 876 7 from by rw [eU26]; exact Xi_ne (by omega)).trans ( (show Xi U25 876 7 = Xi T2 876 7 from by rw [eU25]; exact Xi_ne (by omega)).trans ( (show Xi T2 876 7 = Xi T1 876 7 from w23.x _ _ rfl).trans ((show Xi T1 876 7 = Xi S 876 7 from w12.x _ _ rfl)))))
                    have w303 : 0 ≤ Xi S 876 7 ∧ Xi S 876 7 ≤ 5125 := hH.c _ _
                    have w304 : 0 ≤ Xi T27 890 1 ∧ Xi T27 890 1 ≤ 5126 := hHT27.c _ _
                    refine l_callV rfl rfl rfl (t_gr_take hHT27 103 ⟨by omega, by omega⟩ (by first | assumption | omega) (by first | assumption | omega) (by first | assumption | omega) _) ?_
                    rintro _ T28 ⟨hHT28, w310, z309, rfl, w309, w305, w306, w307, w308⟩
                    have hFT28 : FR md_gr_checkBe S T28 := FR.tr hFT27 w310 rfl
                    show Rl _ _ _ _ _ [iv z309] _ _
                    refine l_if_eq rfl rfl (by unfold rg; omega) (fun w311 => ?_) (fun w312 => ?_)
                    · refine l_iconst rfl ?_
                      refine l_ireturn rfl rfl ?_
                      have w313 : Xi T28 890 2 = Xi U25 890 2 := (show Xi T28 890 2 = Xi T27 890 2 from w310.x _ _ rfl).trans ( (show Xi T27 890 2 = Xi U26 890 2 from w290.x _ _ rfl).trans ((show Xi U26 890 2 = Xi U25 890 2 from by rw [eU26]; exact Xi_ne (by omega))))
                      have w314 : 0 ≤ Xi U25 890 2 ∧ Xi U25 890 2 ≤ 20 := hHU25.c _ _
                      exact ⟨hHT28, hFT28, _, rfl, ⟨by omega, by omega⟩, (by first | assumption | omega)⟩
                    · refine l_iconst rfl ?_
                      refine l_goto rfl rfl ?_
                      refine l_ireturn rfl rfl ?_
                      have w315 : Xi T28 890 2 = Xi U25 890 2 := (show Xi T28 890 2 = Xi T27 890 2 from w310.x _ _ rfl).trans ( (show Xi T27 890 2 = Xi U26 890 2 from w290.x _ _ rfl).trans ((show Xi U26 890 2 = Xi U25 890 2 from by rw [eU26]; exact Xi_ne (by omega))))
                      have w316 : 0 ≤ Xi U25 890 2 ∧ Xi U25 890 2 ≤ 20 := hHU25.c _ _
                      exact ⟨hHT28, hFT28, _, rfl, ⟨by omega, by omega⟩, (by first | assumption | omega)⟩
                  · refine l_aload_n rfl rfl ?_
                    refine l_iconst rfl ?_
                    have w317 : Xi T27 876 7 = Xi S 876 7 := (show Xi T27 876 7 = Xi U26 876 7 from w290.x _ _ rfl).trans ( (show Xi U26 876 7 = Xi U25 876 7 from by rw [eU26]; exact Xi_ne (by omega)).trans ( (show Xi U25 876 7 = Xi T2 876 7 from by rw [eU25]; exact Xi_ne (by omega)).trans ( (show Xi T2 876 7 = Xi T1 876 7 from w23.x _ _ rfl).trans ((show Xi T1 876 7 = Xi S 876 7 from w12.x _ _ rfl)))))
                    have w318 : 0 ≤ Xi S 876 7 ∧ Xi S 876 7 ≤ 5125 := hH.c _ _
                    have w319 : 0 ≤ Xi T27 890 1 ∧ Xi T27 890 1 ≤ 5126 := hHT27.c _ _
                    refine l_callV rfl rfl rfl (t_gr_takePlace hHT27 0 ⟨by omega, by omega⟩ (by first | assumption | omega) (by first | assumption | omega) (by first | omega | exact ⟨by omega, by rw [x877 , show (Xi T27 890 1).toNat = (Xi U26 890 1).toNat by omega]; omega⟩) _) ?_
                    rintro _ T29 ⟨hHT29, w323, z322, rfl, w322, w320, w321⟩
                    have hFT29 : FR md_gr_checkBe S T29 := FR.tr hFT27 w323 rfl
                    show Rl _ _ _ _ _ [iv z322] _ _
                    refine l_if_eq rfl rfl (by unfold rg; omega) (fun w324 => ?_) (fun w325 => ?_)
                    · refine l_iconst rfl ?_
                      refine l_ireturn rfl rfl ?_
                      have w326 : Xi T29 890 2 = Xi U25 890 2 := (show Xi T29 890 2 = Xi T27 890 2 from w323.x _ _ rfl).trans ( (show Xi T27 890 2 = Xi U26 890 2 from w290.x _ _ rfl).trans ((show Xi U26 890 2 = Xi U25 890 2 from by rw [eU26]; exact Xi_ne (by omega))))
                      have w327 : 0 ≤ Xi U25 890 2 ∧ Xi U25 890 2 ≤ 20 := hHU25.c _ _
                      exact ⟨hHT29, hFT29, _, rfl, ⟨by omega, by omega⟩, (by first | assumption | omega)⟩
                    · refine l_aload_n rfl rfl ?_
                      refine l_bipush rfl rfl ?_
                      have w328 : Xi T29 876 7 = Xi S 876 7 := (show Xi T29 876 7 = Xi T27 876 7 from w323.x _ _ rfl).trans ( (show Xi T27 876 7 = Xi U26 876 7 from w290.x _ _ rfl).trans ( (show Xi U26 876 7 = Xi U25 876 7 from by rw [eU26]; exact Xi_ne (by omega)).trans ( (show Xi U25 876 7 = Xi T2 876 7 from by rw [eU25]; exact Xi_ne (by omega)).trans ( (show Xi T2 876 7 = Xi T1 876 7 from w23.x _ _ rfl).trans ((show Xi T1 876 7 = Xi S 876 7 from w12.x _ _ rfl))))))
                      have w329 : 0 ≤ Xi S 876 7 ∧ Xi S 876 7 ≤ 5125 := hH.c _ _
                      have w330 : 0 ≤ Xi T29 890 1 ∧ Xi T29 890 1 ≤ 5126 := hHT29.c _ _
                      refine l_callV rfl rfl rfl (t_gr_take hHT29 103 ⟨by omega, by omega⟩ (by first | assumption | omega) (by first | assumption | omega) (by first | assumption | omega) _) ?_
                      rintro _ T30 ⟨hHT30, w336, z335, rfl, w335, w331, w332, w333, w334⟩
                      have hFT30 : FR md_gr_checkBe S T30 := FR.tr hFT29 w336 rfl
                      show Rl _ _ _ _ _ [iv z335] _ _
                      refine l_if_eq rfl rfl (by unfold rg; omega) (fun w337 => ?_) (fun w338 => ?_)
                      · refine l_iconst rfl ?_
                        refine l_ireturn rfl rfl ?_
                        have w339 : Xi T30 890 2 = Xi U25 890 2 := (show Xi T30 890 2 = Xi T29 890 2 from w336.x _ _ rfl).trans ( (show Xi T29 890 2 = Xi T27 890 2 from w323.x _ _ rfl).trans ( (show Xi T27 890 2 = Xi U26 890 2 from w290.x _ _ rfl).trans ((show Xi U26 890 2 = Xi U25 890 2 from by rw [eU26]; exact Xi_ne (by omega)))))
                        have w340 : 0 ≤ Xi U25 890 2 ∧ Xi U25 890 2 ≤ 20 := hHU25.c _ _
                        exact ⟨hHT30, hFT30, _, rfl, ⟨by omega, by omega⟩, (by first | assumption | omega)⟩
                      · refine l_iconst rfl ?_
                        refine l_goto rfl rfl ?_
                        refine l_ireturn rfl rfl ?_
                        have w341 : Xi T30 890 2 = Xi U25 890 2 := (show Xi T30 890 2 = Xi T29 890 2 from w336.x _ _ rfl).trans ( (show Xi T29 890 2 = Xi T27 890 2 from w323.x _ _ rfl).trans ( (show Xi T27 890 2 = Xi U26 890 2 from w290.x _ _ rfl).trans ((show Xi U26 890 2 = Xi U25 890 2 from by rw [eU26]; exact Xi_ne (by omega)))))
                        have w342 : 0 ≤ Xi U25 890 2 ∧ Xi U25 890 2 ≤ 20 := hHU25.c _ _
                        exact ⟨hHT30, hFT30, _, rfl, ⟨by omega, by omega⟩, (by first | assumption | omega)⟩
            · refine l_aload_n rfl rfl ?_
              refine l_bipush rfl rfl ?_
              refine l_pfi rfl rfl rfl rfl ?_
              obtain ⟨U31, eU31⟩ : ∃ T : sS, T = uI T2 890 2 (Int32.ofInt 11) := ⟨_, rfl⟩
              rw [← eU31]
              have hHU31 : HI U31 := by rw [eU31]; exact HI_w hHT2 (show 0 ≤ 11 by omega) (show 11 ≤ 20 by omega)
              have hFU31 : FR md_gr_checkBe S U31 := by rw [eU31]; exact FR.wI hFT2 (mdf_i (r := (890, 891, 2, 3)) (List.mem_of_getElem? (i := 1) rfl) (inR_i (by omega) (by omega) (by omega) (by omega)))
              have w343 : Xi U31 890 2 = 11 := by rw [eU31]; exact Xi_same (by unfold rg; omega)
              have hso189 : SAY U31 (Xi U31 890 1) := SAY_sort eU31 (by assumption) (by decide)
              refine l_aload_n rfl rfl ?_
              refine l_dup rfl rfl ?_
              refine l_gfi rfl rfl rfl rfl rfl ?_
              have w344 : (Xi U31 890 1) = (Xi T2 890 1) := (show Xi U31 890 1 = Xi T2 890 1 from by rw [eU31]; exact Xi_ne (by omega))
              rw [w344]
              refine l_iconst rfl ?_
              refine l_iadd rfl ?_
              refine l_pfi rfl rfl rfl rfl ?_
              obtain ⟨U32, eU32⟩ : ∃ T : sS, T = uI U31 890 1 (Int32.ofInt ((Xi T2 890 1) + 2)) := ⟨_, rfl⟩
              rw [← eU32]
              have hHU32 : HI U32 := by rw [eU32]; exact HI_w hHU31 (show 0 ≤ ((Xi T2 890 1) + 2) by omega) (show ((Xi T2 890 1) + 2) ≤ 5126 by omega)
              have hFU32 : FR md_gr_checkBe S U32 := by rw [eU32]; exact FR.wI hFU31 (mdf_i (r := (890, 891, 1, 2)) (List.mem_of_getElem? (i := 0) rfl) (inR_i (by omega) (by omega) (by omega) (by omega)))
              have w345 : Xi U32 890 1 = ((Xi T2 890 1) + 2) := by rw [eU32]; exact Xi_same (by unfold rg; omega)
              have hs199 : SAY U32 (Xi U32 890 1) := SAY_2x eU31 eU32 (by omega) (by assumption) (by omega) (by omega) (by omega) (by omega)
              refine l_aload_n rfl rfl ?_
              refine l_bipush rfl rfl ?_
              have w346 : Xi U32 876 7 = Xi S 876 7 := (show Xi U32 876 7 = Xi U31 876 7 from by rw [eU32]; exact Xi_ne (by omega)).trans ( (show Xi U31 876 7 = Xi T2 876 7 from by rw [eU31]; exact Xi_ne (by omega)).trans ( (show Xi T2 876 7 = Xi T1 876 7 from w23.x _ _ rfl).trans ((show Xi T1 876 7 = Xi S 876 7 from w12.x _ _ rfl))))
              have w347 : 0 ≤ Xi S 876 7 ∧ Xi S 876 7 ≤ 5125 := hH.c _ _
              have w348 : 0 ≤ Xi U32 890 1 ∧ Xi U32 890 1 ≤ 5126 := hHU32.c _ _
              refine l_callV rfl rfl rfl (t_gr_take hHU32 28 ⟨by omega, by omega⟩ (by first | assumption | omega) (by first | assumption | omega) (by first | assumption | omega) _) ?_
              rintro _ T33 ⟨hHT33, w354, z353, rfl, w353, w349, w350, w351, w352⟩
              have hFT33 : FR md_gr_checkBe S T33 := FR.tr hFU32 w354 rfl
              show Rl _ _ _ _ _ [iv z353] _ _
              refine l_if_eq rfl rfl (by unfold rg; omega) (fun w355 => ?_) (fun w356 => ?_)
              · refine l_aload_n rfl rfl ?_
                refine l_bipush rfl rfl ?_
                have w357 : Xi T33 876 7 = Xi S 876 7 := (show Xi T33 876 7 = Xi U32 876 7 from w354.x _ _ rfl).trans ( (show Xi U32 876 7 = Xi U31 876 7 from by rw [eU32]; exact Xi_ne (by omega)).trans ( (show Xi U31 876 7 = Xi T2 876 7 from by rw [eU31]; exact Xi_ne (by omega)).trans ( (show Xi T2 876 7 = Xi T1 876 7 from w23.x _ _ rfl).trans ((show Xi T1 876 7 = Xi S 876 7 from w12.x _ _ rfl)))))
                have w358 : 0 ≤ Xi S 876 7 ∧ Xi S 876 7 ≤ 5125 := hH.c _ _
                have w359 : 0 ≤ Xi T33 890 1 ∧ Xi T33 890 1 ≤ 5126 := hHT33.c _ _
                refine l_callV rfl rfl rfl (t_gr_take hHT33 103 ⟨by omega, by omega⟩ (by first | assumption | omega) (by first | assumption | omega) (by first | assumption | omega) _) ?_
                rintro _ T34 ⟨hHT34, w365, z364, rfl, w364, w360, w361, w362, w363⟩
                have hFT34 : FR md_gr_checkBe S T34 := FR.tr hFT33 w365 rfl
                show Rl _ _ _ _ _ [iv z364] _ _
                refine l_if_eq rfl rfl (by unfold rg; omega) (fun w366 => ?_) (fun w367 => ?_)
                · refine l_iconst rfl ?_
                  refine l_ireturn rfl rfl ?_
                  have w368 : Xi T34 890 2 = Xi U31 890 2 := (show Xi T34 890 2 = Xi T33 890 2 from w365.x _ _ rfl).trans ( (show Xi T33 890 2 = Xi U32 890 2 from w354.x _ _ rfl).trans ((show Xi U32 890 2 = Xi U31 890 2 from by rw [eU32]; exact Xi_ne (by omega))))
                  have w369 : 0 ≤ Xi U31 890 2 ∧ Xi U31 890 2 ≤ 20 := hHU31.c _ _
                  exact ⟨hHT34, hFT34, _, rfl, ⟨by omega, by omega⟩, (by first | assumption | omega)⟩
                · refine l_iconst rfl ?_
                  refine l_goto rfl rfl ?_
                  refine l_ireturn rfl rfl ?_
                  have w370 : Xi T34 890 2 = Xi U31 890 2 := (show Xi T34 890 2 = Xi T33 890 2 from w365.x _ _ rfl).trans ( (show Xi T33 890 2 = Xi U32 890 2 from w354.x _ _ rfl).trans ((show Xi U32 890 2 = Xi U31 890 2 from by rw [eU32]; exact Xi_ne (by omega))))
                  have w371 : 0 ≤ Xi U31 890 2 ∧ Xi U31 890 2 ≤ 20 := hHU31.c _ _
                  exact ⟨hHT34, hFT34, _, rfl, ⟨by omega, by omega⟩, (by first | assumption | omega)⟩
              · refine l_aload_n rfl rfl ?_
                refine l_bipush rfl rfl ?_
                have w372 : Xi T33 876 7 = Xi S 876 7 := (show Xi T33 876 7 = Xi U32 876 7 from w354.x _ _ rfl).trans ( (show Xi U32 876 7 = Xi U31 876 7 from by rw [eU32]; exact Xi_ne (by omega)).trans ( (show Xi U31 876 7 = Xi T2 876 7 from by rw [eU31]; exact Xi_ne (by omega)).trans ( (show Xi T2 876 7 = Xi T1 876 7 from w23.x _ _ rfl).trans ((show Xi T1 876 7 = Xi S 876 7 from w12.x _ _ rfl)))))
                have w373 : 0 ≤ Xi S 876 7 ∧ Xi S 876 7 ≤ 5125 := hH.c _ _
                have w374 : 0 ≤ Xi T33 890 1 ∧ Xi T33 890 1 ≤ 5126 := hHT33.c _ _
                refine l_callV rfl rfl rfl (t_gr_take hHT33 11 ⟨by omega, by omega⟩ (by first | assumption | omega) (by first | assumption | omega) (by first | assumption | omega) _) ?_
                rintro _ T35 ⟨hHT35, w380, z379, rfl, w379, w375, w376, w377, w378⟩
                have hFT35 : FR md_gr_checkBe S T35 := FR.tr hFT33 w380 rfl
                show Rl _ _ _ _ _ [iv z379] _ _
                refine l_if_eq rfl rfl (by unfold rg; omega) (fun w381 => ?_) (fun w382 => ?_)
                · refine l_iconst rfl ?_
                  refine l_ireturn rfl rfl ?_
                  have w383 : Xi T35 890 2 = Xi U31 890 2 := (show Xi T35 890 2 = Xi T33 890 2 from w380.x _ _ rfl).trans ( (show Xi T33 890 2 = Xi U32 890 2 from w354.x _ _ rfl).trans ((show Xi U32 890 2 = Xi U31 890 2 from by rw [eU32]; exact Xi_ne (by omega))))
                  have w384 : 0 ≤ Xi U31 890 2 ∧ Xi U31 890 2 ≤ 20 := hHU31.c _ _
                  exact ⟨hHT35, hFT35, _, rfl, ⟨by omega, by omega⟩, (by first | assumption | omega)⟩
                · refine l_aload_n rfl rfl ?_
                  refine l_bipush rfl rfl ?_
                  have w385 : Xi T35 876 7 = Xi S 876 7 := (show Xi T35 876 7 = Xi T33 876 7 from w380.x _ _ rfl).trans ( (show Xi T33 876 7 = Xi U32 876 7 from w354.x _ _ rfl).trans ( (show Xi U32 876 7 = Xi U31 876 7 from by rw [eU32]; exact Xi_ne (by omega)).trans ( (show Xi U31 876 7 = Xi T2 876 7 from by rw [eU31]; exact Xi_ne (by omega)).trans ( (show Xi T2 876 7 = Xi T1 876 7 from w23.x _ _ rfl).trans ((show Xi T1 876 7 = Xi S 876 7 from w12.x _ _ rfl))))))
                  have w386 : 0 ≤ Xi S 876 7 ∧ Xi S 876 7 ≤ 5125 := hH.c _ _
                  have w387 : 0 ≤ Xi T35 890 1 ∧ Xi T35 890 1 ≤ 5126 := hHT35.c _ _
                  refine l_callV rfl rfl rfl (t_gr_take hHT35 22 ⟨by omega, by omega⟩ (by first | assumption | omega) (by first | assumption | omega) (by first | assumption | omega) _) ?_
                  rintro _ T36 ⟨hHT36, w393, z392, rfl, w392, w388, w389, w390, w391⟩
                  have hFT36 : FR md_gr_checkBe S T36 := FR.tr hFT35 w393 rfl
                  show Rl _ _ _ _ _ [iv z392] _ _
                  refine l_if_eq rfl rfl (by unfold rg; omega) (fun w394 => ?_) (fun w395 => ?_)
                  · refine l_iconst rfl ?_
                    refine l_ireturn rfl rfl ?_
                    have w396 : Xi T36 890 2 = Xi U31 890 2 := (show Xi T36 890 2 = Xi T35 890 2 from w393.x _ _ rfl).trans ( (show Xi T35 890 2 = Xi T33 890 2 from w380.x _ _ rfl).trans ( (show Xi T33 890 2 = Xi U32 890 2 from w354.x _ _ rfl).trans ((show Xi U32 890 2 = Xi U31 890 2 from by rw [eU32]; exact Xi_ne (by omega)))))
                    have w397 : 0 ≤ Xi U31 890 2 ∧ Xi U31 890 2 ≤ 20 := hHU31.c _ _
                    exact ⟨hHT36, hFT36, _, rfl, ⟨by omega, by omega⟩, (by first | assumption | omega)⟩
                  · refine l_aload_n rfl rfl ?_
                    have w398 : Xi T36 876 7 = Xi S 876 7 := (show Xi T36 876 7 = Xi T35 876 7 from w393.x _ _ rfl).trans ( (show Xi T35 876 7 = Xi T33 876 7 from w380.x _ _ rfl).trans ( (show Xi T33 876 7 = Xi U32 876 7 from w354.x _ _ rfl).trans ( (show Xi U32 876 7 = Xi U31 876 7 from by rw [eU32]; exact Xi_ne (by omega)).trans ( (show Xi U31 876 7 = Xi T2 876 7 from by rw [eU31]; exact Xi_ne (by omega)).trans ( (show Xi T2 876 7 = Xi T1 876 7 from w23.x _ _ rfl).trans ((show Xi T1 876 7 = Xi S 876 7 from w12.x _ _ rfl)))))))
                    have w399 : 0 ≤ Xi S 876 7 ∧ Xi S 876 7 ≤ 5125 := hH.c _ _
                    have w400 : 0 ≤ Xi T36 890 1 ∧ Xi T36 890 1 ≤ 5126 := hHT36.c _ _
                    refine l_callV rfl rfl rfl (t_gr_takeRun hHT36 (by first | assumption | omega) (by first | assumption | omega) _) ?_
                    rintro _ T37 ⟨hHT37, w405, z404, rfl, w404, w401, w402, w403⟩
                    have hFT37 : FR md_gr_checkBe S T37 := FR.tr hFT36 w405 rfl
                    show Rl _ _ _ _ _ [iv z404] _ _
                    refine l_if_eq rfl rfl (by unfold rg; omega) (fun w406 => ?_) (fun w407 => ?_)
                    · refine l_iconst rfl ?_
                      refine l_ireturn rfl rfl ?_
                      have w408 : Xi T37 890 2 = Xi U31 890 2 := (show Xi T37 890 2 = Xi T36 890 2 from w405.x _ _ rfl).trans ( (show Xi T36 890 2 = Xi T35 890 2 from w393.x _ _ rfl).trans ( (show Xi T35 890 2 = Xi T33 890 2 from w380.x _ _ rfl).trans ( (show Xi T33 890 2 = Xi U32 890 2 from w354.x _ _ rfl).trans ((show Xi U32 890 2 = Xi U31 890 2 from by rw [eU32]; exact Xi_ne (by omega))))))
                      have w409 : 0 ≤ Xi U31 890 2 ∧ Xi U31 890 2 ≤ 20 := hHU31.c _ _
                      exact ⟨hHT37, hFT37, _, rfl, ⟨by omega, by omega⟩, (by first | assumption | omega)⟩
                    · refine l_aload_n rfl rfl ?_
                      refine l_bipush rfl rfl ?_
                      have w410 : Xi T37 876 7 = Xi S 876 7 := (show Xi T37 876 7 = Xi T36 876 7 from w405.x _ _ rfl).trans ( (show Xi T36 876 7 = Xi T35 876 7 from w393.x _ _ rfl).trans ( (show Xi T35 876 7 = Xi T33 876 7 from w380.x _ _ rfl).trans ( (show Xi T33 876 7 = Xi U32 876 7 from w354.x _ _ rfl).trans ( (show Xi U32 876 7 = Xi U31 876 7 from by rw [eU32]; exact Xi_ne (by omega)).trans ( (show Xi U31 876 7 = Xi T2 876 7 from by rw [eU31]; exact Xi_ne (by omega)).trans ( (show Xi T2 876 7 = Xi T1 876 7 from w23.x _ _ rfl).trans ((show Xi T1 876 7 = Xi S 876 7 from w12.x _ _ rfl))))))))
                      have w411 : 0 ≤ Xi S 876 7 ∧ Xi S 876 7 ≤ 5125 := hH.c _ _
                      have w412 : 0 ≤ Xi T37 890 1 ∧ Xi T37 890 1 ≤ 5126 := hHT37.c _ _
                      refine l_callV rfl rfl rfl (t_gr_take hHT37 103 ⟨by omega, by omega⟩ (by first | assumption | omega) (by first | assumption | omega) (by first | assumption | omega) _) ?_
                      rintro _ T38 ⟨hHT38, w418, z417, rfl, w417, w413, w414, w415, w416⟩
                      have hFT38 : FR md_gr_checkBe S T38 := FR.tr hFT37 w418 rfl
                      show Rl _ _ _ _ _ [iv z417] _ _
                      refine l_if_eq rfl rfl (by unfold rg; omega) (fun w419 => ?_) (fun w420 => ?_)
                      · refine l_iconst rfl ?_
                        refine l_ireturn rfl rfl ?_
                        have w421 : Xi T38 890 2 = Xi U31 890 2 := (show Xi T38 890 2 = Xi T37 890 2 from w418.x _ _ rfl).trans ( (show Xi T37 890 2 = Xi T36 890 2 from w405.x _ _ rfl).trans ( (show Xi T36 890 2 = Xi T35 890 2 from w393.x _ _ rfl).trans ( (show Xi T35 890 2 = Xi T33 890 2 from w380.x _ _ rfl).trans ( (show Xi T33 890 2 = Xi U32 890 2 from w354.x _ _ rfl).trans ((show Xi U32 890 2 = Xi U31 890 2 from by rw [eU32]; exact Xi_ne (by omega)))))))
                        have w422 : 0 ≤ Xi U31 890 2 ∧ Xi U31 890 2 ≤ 20 := hHU31.c _ _
                        exact ⟨hHT38, hFT38, _, rfl, ⟨by omega, by omega⟩, (by first | assumption | omega)⟩
                      · refine l_iconst rfl ?_
                        refine l_goto rfl rfl ?_
                        refine l_ireturn rfl rfl ?_
                        have w423 : Xi T38 890 2 = Xi U31 890 2 := (show Xi T38 890 2 = Xi T37 890 2 from w418.x _ _ rfl).trans ( (show Xi T37 890 2 = Xi T36 890 2 from w405.x _ _ rfl).trans ( (show Xi T36 890 2 = Xi T35 890 2 from w393.x _ _ rfl).trans ( (show Xi T35 890 2 = Xi T33 890 2 from w380.x _ _ rfl).trans ( (show Xi T33 890 2 = Xi U32 890 2 from w354.x _ _ rfl).trans ((show Xi U32 890 2 = Xi U31 890 2 from by rw [eU32]; exact Xi_ne (by omega)))))))
                        have w424 : 0 ≤ Xi U31 890 2 ∧ Xi U31 890 2 ≤ 20 := hHU31.c _ _
                        exact ⟨hHT38, hFT38, _, rfl, ⟨by omega, by omega⟩, (by first | assumption | omega)⟩
        · refine l_iload_n rfl rfl ?_
          refine l_bipush rfl rfl ?_
          refine l_icmp_ne rfl rfl (by unfold rg; omega) (by unfold rg; omega) (fun w425 => ?_) (fun w426 => ?_)
          · refine l_iload_n rfl rfl ?_
            refine l_iconst rfl ?_
            refine l_icmp_ne rfl rfl (by unfold rg; omega) (by unfold rg; omega) (fun w427 => ?_) (fun w428 => ?_)
            · refine l_iload_n rfl rfl ?_
              refine l_callS rfl rfl (by decide) rfl (t_rs_isArt hHT2 z30 ⟨by omega, by omega⟩ _) ?_
              rintro _ _ ⟨rfl, z430, rfl, w430, w429⟩
              show Rl _ _ _ _ _ [iv z430] _ _
              refine l_if_eq rfl rfl (by unfold rg; omega) (fun w431 => ?_) (fun w432 => ?_)
              · refine l_aload_n rfl rfl ?_
                have w433 : Xi T2 876 7 = Xi S 876 7 := (show Xi T2 876 7 = Xi T1 876 7 from w23.x _ _ rfl).trans ((show Xi T1 876 7 = Xi S 876 7 from w12.x _ _ rfl))
                have w434 : 0 ≤ Xi S 876 7 ∧ Xi S 876 7 ≤ 5125 := hH.c _ _
                have w435 : 0 ≤ Xi T2 890 1 ∧ Xi T2 890 1 ≤ 5126 := hHT2.c _ _
                refine l_callV rfl rfl rfl (t_gr_atPlace hHT2 _) ?_
                rintro _ _ ⟨rfl, z437, rfl, w437, w436⟩
                show Rl _ _ _ _ _ [iv z437] _ _
                refine l_if_eq rfl rfl (by unfold rg; omega) (fun w438 => ?_) (fun w439 => ?_)
                · refine l_aload_n rfl rfl ?_
                  refine l_aload_n rfl rfl ?_
                  refine l_bipush rfl rfl ?_
                  have w440 : Xi T2 876 7 = Xi S 876 7 := (show Xi T2 876 7 = Xi T1 876 7 from w23.x _ _ rfl).trans ((show Xi T1 876 7 = Xi S 876 7 from w12.x _ _ rfl))
                  have w441 : 0 ≤ Xi S 876 7 ∧ Xi S 876 7 ≤ 5125 := hH.c _ _
                  have w442 : 0 ≤ Xi T2 890 1 ∧ Xi T2 890 1 ≤ 5126 := hHT2.c _ _
                  refine l_callV rfl rfl rfl (t_gr_take hHT2 6 ⟨by omega, by omega⟩ (by first | assumption | omega) (by first | assumption | omega) (by first | assumption | omega) _) ?_
                  rintro _ T39 ⟨hHT39, w448, z447, rfl, w447, w443, w444, w445, w446⟩
                  have hFT39 : FR md_gr_checkBe S T39 := FR.tr hFT2 w448 rfl
                  show Rl _ _ _ _ _ [iv z447, .ref 890] _ _
                  refine l_if_ne rfl rfl (by unfold rg; omega) (fun w449 => ?_) (fun w450 => ?_)
                  · refine l_iconst rfl ?_
                    refine l_goto rfl rfl ?_
                    have w451 : Xi T39 876 7 = Xi S 876 7 := (show Xi T39 876 7 = Xi T2 876 7 from w448.x _ _ rfl).trans ( (show Xi T2 876 7 = Xi T1 876 7 from w23.x _ _ rfl).trans ((show Xi T1 876 7 = Xi S 876 7 from w12.x _ _ rfl)))
                    have w452 : 0 ≤ Xi S 876 7 ∧ Xi S 876 7 ≤ 5125 := hH.c _ _
                    have w453 : 0 ≤ Xi T39 890 1 ∧ Xi T39 890 1 ≤ 5126 := hHT39.c _ _
                    refine l_callV rfl rfl rfl (t_gr_checkRuns hHT39 1 ⟨by omega, by omega⟩ (by first | assumption | omega) (by first | assumption | omega) _) ?_
                    rintro _ T40 ⟨hHT40, w458, z457, rfl, w457, w454, w455, w456⟩
                    have hFT40 : FR md_gr_checkBe S T40 := FR.tr hFT39 w458 rfl
                    show Rl _ _ _ _ _ [iv z457] _ _
                    refine l_ireturn rfl (retI_z (by omega)) ?_
                    have w459 : 0 ≤ Xi T40 890 2 ∧ Xi T40 890 2 ≤ 20 := hHT40.c _ _
                    exact ⟨hHT40, hFT40, _, rfl, ⟨by omega, by omega⟩, (by first | assumption | omega)⟩
                  · refine l_aload_n rfl rfl ?_
                    refine l_bipush rfl rfl ?_
                    have w460 : Xi T39 876 7 = Xi S 876 7 := (show Xi T39 876 7 = Xi T2 876 7 from w448.x _ _ rfl).trans ( (show Xi T2 876 7 = Xi T1 876 7 from w23.x _ _ rfl).trans ((show Xi T1 876 7 = Xi S 876 7 from w12.x _ _ rfl)))
                    have w461 : 0 ≤ Xi S 876 7 ∧ Xi S 876 7 ≤ 5125 := hH.c _ _
                    have w462 : 0 ≤ Xi T39 890 1 ∧ Xi T39 890 1 ≤ 5126 := hHT39.c _ _
                    refine l_callV rfl rfl rfl (t_gr_take hHT39 32 ⟨by omega, by omega⟩ (by first | assumption | omega) (by first | assumption | omega) (by first | assumption | omega) _) ?_
                    rintro _ T41 ⟨hHT41, w468, z467, rfl, w467, w463, w464, w465, w466⟩
                    have hFT41 : FR md_gr_checkBe S T41 := FR.tr hFT39 w468 rfl
                    show Rl _ _ _ _ _ [iv z467, .ref 890] _ _
                    refine l_if_eq rfl rfl (by unfold rg; omega) (fun w469 => ?_) (fun w470 => ?_)
                    · refine l_iconst rfl ?_
                      have w471 : Xi T41 876 7 = Xi S 876 7 := (show Xi T41 876 7 = Xi T39 876 7 from w468.x _ _ rfl).trans ( (show Xi T39 876 7 = Xi T2 876 7 from w448.x _ _ rfl).trans ( (show Xi T2 876 7 = Xi T1 876 7 from w23.x _ _ rfl).trans ((show Xi T1 876 7 = Xi S 876 7 from w12.x _ _ rfl))))
                      have w472 : 0 ≤ Xi S 876 7 ∧ Xi S 876 7 ≤ 5125 := hH.c _ _
                      have w473 : 0 ≤ Xi T41 890 1 ∧ Xi T41 890 1 ≤ 5126 := hHT41.c _ _
                      refine l_callV rfl rfl rfl (t_gr_checkRuns hHT41 0 ⟨by omega, by omega⟩ (by first | assumption | omega) (by first | assumption | omega) _) ?_
                      rintro _ T42 ⟨hHT42, w478, z477, rfl, w477, w474, w475, w476⟩
                      have hFT42 : FR md_gr_checkBe S T42 := FR.tr hFT41 w478 rfl
                      show Rl _ _ _ _ _ [iv z477] _ _
                      refine l_ireturn rfl (retI_z (by omega)) ?_
                      have w479 : 0 ≤ Xi T42 890 2 ∧ Xi T42 890 2 ≤ 20 := hHT42.c _ _
                      exact ⟨hHT42, hFT42, _, rfl, ⟨by omega, by omega⟩, (by first | assumption | omega)⟩
                    · refine l_iconst rfl ?_
                      refine l_goto rfl rfl ?_
                      have w480 : Xi T41 876 7 = Xi S 876 7 := (show Xi T41 876 7 = Xi T39 876 7 from w468.x _ _ rfl).trans ( (show Xi T39 876 7 = Xi T2 876 7 from w448.x _ _ rfl).trans ( (show Xi T2 876 7 = Xi T1 876 7 from w23.x _ _ rfl).trans ((show Xi T1 876 7 = Xi S 876 7 from w12.x _ _ rfl))))
                      have w481 : 0 ≤ Xi S 876 7 ∧ Xi S 876 7 ≤ 5125 := hH.c _ _
                      have w482 : 0 ≤ Xi T41 890 1 ∧ Xi T41 890 1 ≤ 5126 := hHT41.c _ _
                      refine l_callV rfl rfl rfl (t_gr_checkRuns hHT41 1 ⟨by omega, by omega⟩ (by first | assumption | omega) (by first | assumption | omega) _) ?_
                      rintro _ T43 ⟨hHT43, w487, z486, rfl, w486, w483, w484, w485⟩
                      have hFT43 : FR md_gr_checkBe S T43 := FR.tr hFT41 w487 rfl
                      show Rl _ _ _ _ _ [iv z486] _ _
                      refine l_ireturn rfl (retI_z (by omega)) ?_
                      have w488 : 0 ≤ Xi T43 890 2 ∧ Xi T43 890 2 ≤ 20 := hHT43.c _ _
                      exact ⟨hHT43, hFT43, _, rfl, ⟨by omega, by omega⟩, (by first | assumption | omega)⟩
                · refine l_aload_n rfl rfl ?_
                  refine l_bipush rfl rfl ?_
                  refine l_pfi rfl rfl rfl rfl ?_
                  obtain ⟨U44, eU44⟩ : ∃ T : sS, T = uI T2 890 2 (Int32.ofInt 13) := ⟨_, rfl⟩
                  rw [← eU44]
                  have hHU44 : HI U44 := by rw [eU44]; exact HI_w hHT2 (show 0 ≤ 13 by omega) (show 13 ≤ 20 by omega)
                  have hFU44 : FR md_gr_checkBe S U44 := by rw [eU44]; exact FR.wI hFT2 (mdf_i (r := (890, 891, 2, 3)) (List.mem_of_getElem? (i := 1) rfl) (inR_i (by omega) (by omega) (by omega) (by omega)))
                  have w489 : Xi U44 890 2 = 13 := by rw [eU44]; exact Xi_same (by unfold rg; omega)
                  have hso321 : SAY U44 (Xi U44 890 1) := SAY_sort eU44 (by assumption) (by decide)
                  refine l_aload_n rfl rfl ?_
                  refine l_iconst rfl ?_
                  have w490 : Xi U44 876 7 = Xi S 876 7 := (show Xi U44 876 7 = Xi T2 876 7 from by rw [eU44]; exact Xi_ne (by omega)).trans ( (show Xi T2 876 7 = Xi T1 876 7 from w23.x _ _ rfl).trans ((show Xi T1 876 7 = Xi S 876 7 from w12.x _ _ rfl)))
                  have w491 : 0 ≤ Xi S 876 7 ∧ Xi S 876 7 ≤ 5125 := hH.c _ _
                  have w492 : Xi U44 890 1 = Xi T2 890 1 := (show Xi U44 890 1 = Xi T2 890 1 from by rw [eU44]; exact Xi_ne (by omega))
                  have w493 : 0 ≤ Xi T2 890 1 ∧ Xi T2 890 1 ≤ 5126 := hHT2.c _ _
                  refine l_callV rfl rfl rfl (t_gr_takePlace hHU44 0 ⟨by omega, by omega⟩ (by first | assumption | omega) (by first | assumption | omega) (by first | omega | exact ⟨by omega, by rw [x877 eU44, show (Xi U44 890 1).toNat = (Xi T2 890 1).toNat by omega]; omega⟩) _) ?_
                  rintro _ T45 ⟨hHT45, w497, z496, rfl, w496, w494, w495⟩
                  have hFT45 : FR md_gr_checkBe S T45 := FR.tr hFU44 w497 rfl
                  show Rl _ _ _ _ _ [iv z496] _ _
                  refine l_if_eq rfl rfl (by unfold rg; omega) (fun w498 => ?_) (fun w499 => ?_)
                  · refine l_iconst rfl ?_
                    refine l_ireturn rfl rfl ?_
                    have w500 : Xi T45 890 2 = Xi U44 890 2 := (show Xi T45 890 2 = Xi U44 890 2 from w497.x _ _ rfl)
                    have w501 : 0 ≤ Xi U44 890 2 ∧ Xi U44 890 2 ≤ 20 := hHU44.c _ _
                    exact ⟨hHT45, hFT45, _, rfl, ⟨by omega, by omega⟩, (by first | assumption | omega)⟩
                  · refine l_aload_n rfl rfl ?_
                    refine l_bipush rfl rfl ?_
                    have w502 : Xi T45 876 7 = Xi S 876 7 := (show Xi T45 876 7 = Xi U44 876 7 from w497.x _ _ rfl).trans ( (show Xi U44 876 7 = Xi T2 876 7 from by rw [eU44]; exact Xi_ne (by omega)).trans ( (show Xi T2 876 7 = Xi T1 876 7 from w23.x _ _ rfl).trans ((show Xi T1 876 7 = Xi S 876 7 from w12.x _ _ rfl))))
                    have w503 : 0 ≤ Xi S 876 7 ∧ Xi S 876 7 ≤ 5125 := hH.c _ _
                    have w504 : 0 ≤ Xi T45 890 1 ∧ Xi T45 890 1 ≤ 5126 := hHT45.c _ _
                    refine l_callV rfl rfl rfl (t_gr_take hHT45 103 ⟨by omega, by omega⟩ (by first | assumption | omega) (by first | assumption | omega) (by first | assumption | omega) _) ?_
                    rintro _ T46 ⟨hHT46, w510, z509, rfl, w509, w505, w506, w507, w508⟩
                    have hFT46 : FR md_gr_checkBe S T46 := FR.tr hFT45 w510 rfl
                    show Rl _ _ _ _ _ [iv z509] _ _
                    refine l_if_eq rfl rfl (by unfold rg; omega) (fun w511 => ?_) (fun w512 => ?_)
                    · refine l_iconst rfl ?_
                      refine l_ireturn rfl rfl ?_
                      have w513 : Xi T46 890 2 = Xi U44 890 2 := (show Xi T46 890 2 = Xi T45 890 2 from w510.x _ _ rfl).trans ((show Xi T45 890 2 = Xi U44 890 2 from w497.x _ _ rfl))
                      have w514 : 0 ≤ Xi U44 890 2 ∧ Xi U44 890 2 ≤ 20 := hHU44.c _ _
                      exact ⟨hHT46, hFT46, _, rfl, ⟨by omega, by omega⟩, (by first | assumption | omega)⟩
                    · refine l_iconst rfl ?_
                      refine l_goto rfl rfl ?_
                      refine l_ireturn rfl rfl ?_
                      have w515 : Xi T46 890 2 = Xi U44 890 2 := (show Xi T46 890 2 = Xi T45 890 2 from w510.x _ _ rfl).trans ((show Xi T45 890 2 = Xi U44 890 2 from w497.x _ _ rfl))
                      have w516 : 0 ≤ Xi U44 890 2 ∧ Xi U44 890 2 ≤ 20 := hHU44.c _ _
                      exact ⟨hHT46, hFT46, _, rfl, ⟨by omega, by omega⟩, (by first | assumption | omega)⟩
              · refine l_aload_n rfl rfl ?_
                refine l_bipush rfl rfl ?_
                refine l_pfi rfl rfl rfl rfl ?_
                obtain ⟨U47, eU47⟩ : ∃ T : sS, T = uI T2 890 2 (Int32.ofInt 12) := ⟨_, rfl⟩
                rw [← eU47]
                have hHU47 : HI U47 := by rw [eU47]; exact HI_w hHT2 (show 0 ≤ 12 by omega) (show 12 ≤ 20 by omega)
                have hFU47 : FR md_gr_checkBe S U47 := by rw [eU47]; exact FR.wI hFT2 (mdf_i (r := (890, 891, 2, 3)) (List.mem_of_getElem? (i := 1) rfl) (inR_i (by omega) (by omega) (by omega) (by omega)))
                have w517 : Xi U47 890 2 = 12 := by rw [eU47]; exact Xi_same (by unfold rg; omega)
                have hso261 : SAY U47 (Xi U47 890 1) := SAY_sort eU47 (by assumption) (by decide)
                refine l_aload_n rfl rfl ?_
                refine l_dup rfl rfl ?_
                refine l_gfi rfl rfl rfl rfl rfl ?_
                have w518 : (Xi U47 890 1) = (Xi T2 890 1) := (show Xi U47 890 1 = Xi T2 890 1 from by rw [eU47]; exact Xi_ne (by omega))
                rw [w518]
                refine l_iconst rfl ?_
                refine l_iadd rfl ?_
                refine l_pfi rfl rfl rfl rfl ?_
                obtain ⟨U48, eU48⟩ : ∃ T : sS, T = uI U47 890 1 (Int32.ofInt ((Xi T2 890 1) + 1)) := ⟨_, rfl⟩
                rw [← eU48]
                have hHU48 : HI U48 := by rw [eU48]; exact HI_w hHU47 (show 0 ≤ ((Xi T2 890 1) + 1) by omega) (show ((Xi T2 890 1) + 1) ≤ 5126 by omega)
                have hFU48 : FR md_gr_checkBe S U48 := by rw [eU48]; exact FR.wI hFU47 (mdf_i (r := (890, 891, 1, 2)) (List.mem_of_getElem? (i := 0) rfl) (inR_i (by omega) (by omega) (by omega) (by omega)))
                have w519 : Xi U48 890 1 = ((Xi T2 890 1) + 1) := by rw [eU48]; exact Xi_same (by unfold rg; omega)
                have hs271 : SAY U48 (Xi U48 890 1) := SAY_1x eU47 eU48 (by omega) (by assumption) (by omega) (by omega) (by omega)
                refine l_aload_n rfl rfl ?_
                have w520 : Xi U48 876 7 = Xi S 876 7 := (show Xi U48 876 7 = Xi U47 876 7 from by rw [eU48]; exact Xi_ne (by omega)).trans ( (show Xi U47 876 7 = Xi T2 876 7 from by rw [eU47]; exact Xi_ne (by omega)).trans ( (show Xi T2 876 7 = Xi T1 876 7 from w23.x _ _ rfl).trans ((show Xi T1 876 7 = Xi S 876 7 from w12.x _ _ rfl))))
                have w521 : 0 ≤ Xi S 876 7 ∧ Xi S 876 7 ≤ 5125 := hH.c _ _
                have w522 : 0 ≤ Xi U48 890 1 ∧ Xi U48 890 1 ≤ 5126 := hHU48.c _ _
                refine l_callV rfl rfl rfl (t_gr_takeRun hHU48 (by first | assumption | omega) (by first | assumption | omega) _) ?_
                rintro _ T49 ⟨hHT49, w527, z526, rfl, w526, w523, w524, w525⟩
                have hFT49 : FR md_gr_checkBe S T49 := FR.tr hFU48 w527 rfl
                show Rl _ _ _ _ _ [iv z526] _ _
                refine l_if_eq rfl rfl (by unfold rg; omega) (fun w528 => ?_) (fun w529 => ?_)
                · refine l_iconst rfl ?_
                  refine l_ireturn rfl rfl ?_
                  have w530 : Xi T49 890 2 = Xi U47 890 2 := (show Xi T49 890 2 = Xi U48 890 2 from w527.x _ _ rfl).trans ((show Xi U48 890 2 = Xi U47 890 2 from by rw [eU48]; exact Xi_ne (by omega)))
                  have w531 : 0 ≤ Xi U47 890 2 ∧ Xi U47 890 2 ≤ 20 := hHU47.c _ _
                  exact ⟨hHT49, hFT49, _, rfl, ⟨by omega, by omega⟩, (by first | assumption | omega)⟩
                · refine l_aload_n rfl rfl ?_
                  have w532 : Xi T49 876 7 = Xi S 876 7 := (show Xi T49 876 7 = Xi U48 876 7 from w527.x _ _ rfl).trans ( (show Xi U48 876 7 = Xi U47 876 7 from by rw [eU48]; exact Xi_ne (by omega)).trans ( (show Xi U47 876 7 = Xi T2 876 7 from by rw [eU47]; exact Xi_ne (by omega)).trans ( (show Xi T2 876 7 = Xi T1 876 7 from w23.x _ _ rfl).trans ((show Xi T1 876 7 = Xi S 876 7 from w12.x _ _ rfl)))))
                  have w533 : 0 ≤ Xi S 876 7 ∧ Xi S 876 7 ≤ 5125 := hH.c _ _
                  have w534 : 0 ≤ Xi T49 890 1 ∧ Xi T49 890 1 ≤ 5126 := hHT49.c _ _
                  refine l_callV rfl rfl rfl (t_gr_atPlace hHT49 _) ?_
                  rintro _ _ ⟨rfl, z536, rfl, w536, w535⟩
                  show Rl _ _ _ _ _ [iv z536] _ _
                  refine l_if_eq rfl rfl (by unfold rg; omega) (fun w537 => ?_) (fun w538 => ?_)
                  · refine l_aload_n rfl rfl ?_
                    refine l_bipush rfl rfl ?_
                    have w539 : Xi T49 876 7 = Xi S 876 7 := (show Xi T49 876 7 = Xi U48 876 7 from w527.x _ _ rfl).trans ( (show Xi U48 876 7 = Xi U47 876 7 from by rw [eU48]; exact Xi_ne (by omega)).trans ( (show Xi U47 876 7 = Xi T2 876 7 from by rw [eU47]; exact Xi_ne (by omega)).trans ( (show Xi T2 876 7 = Xi T1 876 7 from w23.x _ _ rfl).trans ((show Xi T1 876 7 = Xi S 876 7 from w12.x _ _ rfl)))))
                    have w540 : 0 ≤ Xi S 876 7 ∧ Xi S 876 7 ≤ 5125 := hH.c _ _
                    have w541 : 0 ≤ Xi T49 890 1 ∧ Xi T49 890 1 ≤ 5126 := hHT49.c _ _
                    refine l_callV rfl rfl rfl (t_gr_take hHT49 103 ⟨by omega, by omega⟩ (by first | assumption | omega) (by first | assumption | omega) (by first | assumption | omega) _) ?_
                    rintro _ T50 ⟨hHT50, w547, z546, rfl, w546, w542, w543, w544, w545⟩
                    have hFT50 : FR md_gr_checkBe S T50 := FR.tr hFT49 w547 rfl
                    show Rl _ _ _ _ _ [iv z546] _ _
                    refine l_if_eq rfl rfl (by unfold rg; omega) (fun w548 => ?_) (fun w549 => ?_)
                    · refine l_iconst rfl ?_
                      refine l_ireturn rfl rfl ?_
                      have w550 : Xi T50 890 2 = Xi U47 890 2 := (show Xi T50 890 2 = Xi T49 890 2 from w547.x _ _ rfl).trans ( (show Xi T49 890 2 = Xi U48 890 2 from w527.x _ _ rfl).trans ((show Xi U48 890 2 = Xi U47 890 2 from by rw [eU48]; exact Xi_ne (by omega))))
                      have w551 : 0 ≤ Xi U47 890 2 ∧ Xi U47 890 2 ≤ 20 := hHU47.c _ _
                      exact ⟨hHT50, hFT50, _, rfl, ⟨by omega, by omega⟩, (by first | assumption | omega)⟩
                    · refine l_iconst rfl ?_
                      refine l_goto rfl rfl ?_
                      refine l_ireturn rfl rfl ?_
                      have w552 : Xi T50 890 2 = Xi U47 890 2 := (show Xi T50 890 2 = Xi T49 890 2 from w547.x _ _ rfl).trans ( (show Xi T49 890 2 = Xi U48 890 2 from w527.x _ _ rfl).trans ((show Xi U48 890 2 = Xi U47 890 2 from by rw [eU48]; exact Xi_ne (by omega))))
                      have w553 : 0 ≤ Xi U47 890 2 ∧ Xi U47 890 2 ≤ 20 := hHU47.c _ _
                      exact ⟨hHT50, hFT50, _, rfl, ⟨by omega, by omega⟩, (by first | assumption | omega)⟩
                  · refine l_aload_n rfl rfl ?_
                    refine l_iconst rfl ?_
                    have w554 : Xi T49 876 7 = Xi S 876 7 := (show Xi T49 876 7 = Xi U48 876 7 from w527.x _ _ rfl).trans ( (show Xi U48 876 7 = Xi U47 876 7 from by rw [eU48]; exact Xi_ne (by omega)).trans ( (show Xi U47 876 7 = Xi T2 876 7 from by rw [eU47]; exact Xi_ne (by omega)).trans ( (show Xi T2 876 7 = Xi T1 876 7 from w23.x _ _ rfl).trans ((show Xi T1 876 7 = Xi S 876 7 from w12.x _ _ rfl)))))
                    have w555 : 0 ≤ Xi S 876 7 ∧ Xi S 876 7 ≤ 5125 := hH.c _ _
                    have w556 : 0 ≤ Xi T49 890 1 ∧ Xi T49 890 1 ≤ 5126 := hHT49.c _ _
                    refine l_callV rfl rfl rfl (t_gr_takePlace hHT49 0 ⟨by omega, by omega⟩ (by first | assumption | omega) (by first | assumption | omega) (by first | omega | exact ⟨by omega, by rw [x877 , show (Xi T49 890 1).toNat = (Xi U48 890 1).toNat by omega]; omega⟩) _) ?_
                    rintro _ T51 ⟨hHT51, w560, z559, rfl, w559, w557, w558⟩
                    have hFT51 : FR md_gr_checkBe S T51 := FR.tr hFT49 w560 rfl
                    show Rl _ _ _ _ _ [iv z559] _ _
                    refine l_if_eq rfl rfl (by unfold rg; omega) (fun w561 => ?_) (fun w562 => ?_)
                    · refine l_iconst rfl ?_
                      refine l_ireturn rfl rfl ?_
                      have w563 : Xi T51 890 2 = Xi U47 890 2 := (show Xi T51 890 2 = Xi T49 890 2 from w560.x _ _ rfl).trans ( (show Xi T49 890 2 = Xi U48 890 2 from w527.x _ _ rfl).trans ((show Xi U48 890 2 = Xi U47 890 2 from by rw [eU48]; exact Xi_ne (by omega))))
                      have w564 : 0 ≤ Xi U47 890 2 ∧ Xi U47 890 2 ≤ 20 := hHU47.c _ _
                      exact ⟨hHT51, hFT51, _, rfl, ⟨by omega, by omega⟩, (by first | assumption | omega)⟩
                    · refine l_aload_n rfl rfl ?_
                      refine l_bipush rfl rfl ?_
                      have w565 : Xi T51 876 7 = Xi S 876 7 := (show Xi T51 876 7 = Xi T49 876 7 from w560.x _ _ rfl).trans ( (show Xi T49 876 7 = Xi U48 876 7 from w527.x _ _ rfl).trans ( (show Xi U48 876 7 = Xi U47 876 7 from by rw [eU48]; exact Xi_ne (by omega)).trans ( (show Xi U47 876 7 = Xi T2 876 7 from by rw [eU47]; exact Xi_ne (by omega)).trans ( (show Xi T2 876 7 = Xi T1 876 7 from w23.x _ _ rfl).trans ((show Xi T1 876 7 = Xi S 876 7 from w12.x _ _ rfl))))))
                      have w566 : 0 ≤ Xi S 876 7 ∧ Xi S 876 7 ≤ 5125 := hH.c _ _
                      have w567 : 0 ≤ Xi T51 890 1 ∧ Xi T51 890 1 ≤ 5126 := hHT51.c _ _
                      refine l_callV rfl rfl rfl (t_gr_take hHT51 103 ⟨by omega, by omega⟩ (by first | assumption | omega) (by first | assumption | omega) (by first | assumption | omega) _) ?_
                      rintro _ T52 ⟨hHT52, w573, z572, rfl, w572, w568, w569, w570, w571⟩
                      have hFT52 : FR md_gr_checkBe S T52 := FR.tr hFT51 w573 rfl
                      show Rl _ _ _ _ _ [iv z572] _ _
                      refine l_if_eq rfl rfl (by unfold rg; omega) (fun w574 => ?_) (fun w575 => ?_)
                      · refine l_iconst rfl ?_
                        refine l_ireturn rfl rfl ?_
                        have w576 : Xi T52 890 2 = Xi U47 890 2 := (show Xi T52 890 2 = Xi T51 890 2 from w573.x _ _ rfl).trans ( (show Xi T51 890 2 = Xi T49 890 2 from w560.x _ _ rfl).trans ( (show Xi T49 890 2 = Xi U48 890 2 from w527.x _ _ rfl).trans ((show Xi U48 890 2 = Xi U47 890 2 from by rw [eU48]; exact Xi_ne (by omega)))))
                        have w577 : 0 ≤ Xi U47 890 2 ∧ Xi U47 890 2 ≤ 20 := hHU47.c _ _
                        exact ⟨hHT52, hFT52, _, rfl, ⟨by omega, by omega⟩, (by first | assumption | omega)⟩
                      · refine l_iconst rfl ?_
                        refine l_goto rfl rfl ?_
                        refine l_ireturn rfl rfl ?_
                        have w578 : Xi T52 890 2 = Xi U47 890 2 := (show Xi T52 890 2 = Xi T51 890 2 from w573.x _ _ rfl).trans ( (show Xi T51 890 2 = Xi T49 890 2 from w560.x _ _ rfl).trans ( (show Xi T49 890 2 = Xi U48 890 2 from w527.x _ _ rfl).trans ((show Xi U48 890 2 = Xi U47 890 2 from by rw [eU48]; exact Xi_ne (by omega)))))
                        have w579 : 0 ≤ Xi U47 890 2 ∧ Xi U47 890 2 ≤ 20 := hHU47.c _ _
                        exact ⟨hHT52, hFT52, _, rfl, ⟨by omega, by omega⟩, (by first | assumption | omega)⟩
            · refine l_iload_n rfl rfl ?_
              refine l_bipush rfl rfl ?_
              refine l_icmp_ne rfl rfl (by unfold rg; omega) (by unfold rg; omega) (fun w580 => ?_) (fun w581 => ?_)
              · refine l_iload_n rfl rfl ?_
                refine l_callS rfl rfl (by decide) rfl (t_rs_isArt hHT2 z30 ⟨by omega, by omega⟩ _) ?_
                rintro _ _ ⟨rfl, z583, rfl, w583, w582⟩
                show Rl _ _ _ _ _ [iv z583] _ _
                refine l_if_eq rfl rfl (by unfold rg; omega) (fun w584 => ?_) (fun w585 => ?_)
                · refine l_aload_n rfl rfl ?_
                  have w586 : Xi T2 876 7 = Xi S 876 7 := (show Xi T2 876 7 = Xi T1 876 7 from w23.x _ _ rfl).trans ((show Xi T1 876 7 = Xi S 876 7 from w12.x _ _ rfl))
                  have w587 : 0 ≤ Xi S 876 7 ∧ Xi S 876 7 ≤ 5125 := hH.c _ _
                  have w588 : 0 ≤ Xi T2 890 1 ∧ Xi T2 890 1 ≤ 5126 := hHT2.c _ _
                  refine l_callV rfl rfl rfl (t_gr_atPlace hHT2 _) ?_
                  rintro _ _ ⟨rfl, z590, rfl, w590, w589⟩
                  show Rl _ _ _ _ _ [iv z590] _ _
                  refine l_if_eq rfl rfl (by unfold rg; omega) (fun w591 => ?_) (fun w592 => ?_)
                  · refine l_aload_n rfl rfl ?_
                    refine l_aload_n rfl rfl ?_
                    refine l_bipush rfl rfl ?_
                    have w593 : Xi T2 876 7 = Xi S 876 7 := (show Xi T2 876 7 = Xi T1 876 7 from w23.x _ _ rfl).trans ((show Xi T1 876 7 = Xi S 876 7 from w12.x _ _ rfl))
                    have w594 : 0 ≤ Xi S 876 7 ∧ Xi S 876 7 ≤ 5125 := hH.c _ _
                    have w595 : 0 ≤ Xi T2 890 1 ∧ Xi T2 890 1 ≤ 5126 := hHT2.c _ _
                    refine l_callV rfl rfl rfl (t_gr_take hHT2 6 ⟨by omega, by omega⟩ (by first | assumption | omega) (by first | assumption | omega) (by first | assumption | omega) _) ?_
                    rintro _ T53 ⟨hHT53, w601, z600, rfl, w600, w596, w597, w598, w599⟩
                    have hFT53 : FR md_gr_checkBe S T53 := FR.tr hFT2 w601 rfl
                    show Rl _ _ _ _ _ [iv z600, .ref 890] _ _
                    refine l_if_ne rfl rfl (by unfold rg; omega) (fun w602 => ?_) (fun w603 => ?_)
                    · refine l_iconst rfl ?_
                      refine l_goto rfl rfl ?_
                      have w604 : Xi T53 876 7 = Xi S 876 7 := (show Xi T53 876 7 = Xi T2 876 7 from w601.x _ _ rfl).trans ( (show Xi T2 876 7 = Xi T1 876 7 from w23.x _ _ rfl).trans ((show Xi T1 876 7 = Xi S 876 7 from w12.x _ _ rfl)))
                      have w605 : 0 ≤ Xi S 876 7 ∧ Xi S 876 7 ≤ 5125 := hH.c _ _
                      have w606 : 0 ≤ Xi T53 890 1 ∧ Xi T53 890 1 ≤ 5126 := hHT53.c _ _
                      refine l_callV rfl rfl rfl (t_gr_checkRuns hHT53 1 ⟨by omega, by omega⟩ (by first | assumption | omega) (by first | assumption | omega) _) ?_
                      rintro _ T54 ⟨hHT54, w611, z610, rfl, w610, w607, w608, w609⟩
                      have hFT54 : FR md_gr_checkBe S T54 := FR.tr hFT53 w611 rfl
                      show Rl _ _ _ _ _ [iv z610] _ _
                      refine l_ireturn rfl (retI_z (by omega)) ?_
                      have w612 : 0 ≤ Xi T54 890 2 ∧ Xi T54 890 2 ≤ 20 := hHT54.c _ _
                      exact ⟨hHT54, hFT54, _, rfl, ⟨by omega, by omega⟩, (by first | assumption | omega)⟩
                    · refine l_aload_n rfl rfl ?_
                      refine l_bipush rfl rfl ?_
                      have w613 : Xi T53 876 7 = Xi S 876 7 := (show Xi T53 876 7 = Xi T2 876 7 from w601.x _ _ rfl).trans ( (show Xi T2 876 7 = Xi T1 876 7 from w23.x _ _ rfl).trans ((show Xi T1 876 7 = Xi S 876 7 from w12.x _ _ rfl)))
                      have w614 : 0 ≤ Xi S 876 7 ∧ Xi S 876 7 ≤ 5125 := hH.c _ _
                      have w615 : 0 ≤ Xi T53 890 1 ∧ Xi T53 890 1 ≤ 5126 := hHT53.c _ _
                      refine l_callV rfl rfl rfl (t_gr_take hHT53 32 ⟨by omega, by omega⟩ (by first | assumption | omega) (by first | assumption | omega) (by first | assumption | omega) _) ?_
                      rintro _ T55 ⟨hHT55, w621, z620, rfl, w620, w616, w617, w618, w619⟩
                      have hFT55 : FR md_gr_checkBe S T55 := FR.tr hFT53 w621 rfl
                      show Rl _ _ _ _ _ [iv z620, .ref 890] _ _
                      refine l_if_eq rfl rfl (by unfold rg; omega) (fun w622 => ?_) (fun w623 => ?_)
                      · refine l_iconst rfl ?_
                        have w624 : Xi T55 876 7 = Xi S 876 7 := (show Xi T55 876 7 = Xi T53 876 7 from w621.x _ _ rfl).trans ( (show Xi T53 876 7 = Xi T2 876 7 from w601.x _ _ rfl).trans ( (show Xi T2 876 7 = Xi T1 876 7 from w23.x _ _ rfl).trans ((show Xi T1 876 7 = Xi S 876 7 from w12.x _ _ rfl))))
                        have w625 : 0 ≤ Xi S 876 7 ∧ Xi S 876 7 ≤ 5125 := hH.c _ _
                        have w626 : 0 ≤ Xi T55 890 1 ∧ Xi T55 890 1 ≤ 5126 := hHT55.c _ _
                        refine l_callV rfl rfl rfl (t_gr_checkRuns hHT55 0 ⟨by omega, by omega⟩ (by first | assumption | omega) (by first | assumption | omega) _) ?_
                        rintro _ T56 ⟨hHT56, w631, z630, rfl, w630, w627, w628, w629⟩
                        have hFT56 : FR md_gr_checkBe S T56 := FR.tr hFT55 w631 rfl
                        show Rl _ _ _ _ _ [iv z630] _ _
                        refine l_ireturn rfl (retI_z (by omega)) ?_
                        have w632 : 0 ≤ Xi T56 890 2 ∧ Xi T56 890 2 ≤ 20 := hHT56.c _ _
                        exact ⟨hHT56, hFT56, _, rfl, ⟨by omega, by omega⟩, (by first | assumption | omega)⟩
                      · refine l_iconst rfl ?_
                        refine l_goto rfl rfl ?_
                        have w633 : Xi T55 876 7 = Xi S 876 7 := (show Xi T55 876 7 = Xi T53 876 7 from w621.x _ _ rfl).trans ( (show Xi T53 876 7 = Xi T2 876 7 from w601.x _ _ rfl).trans ( (show Xi T2 876 7 = Xi T1 876 7 from w23.x _ _ rfl).trans ((show Xi T1 876 7 = Xi S 876 7 from w12.x _ _ rfl))))
                        have w634 : 0 ≤ Xi S 876 7 ∧ Xi S 876 7 ≤ 5125 := hH.c _ _
                        have w635 : 0 ≤ Xi T55 890 1 ∧ Xi T55 890 1 ≤ 5126 := hHT55.c _ _
                        refine l_callV rfl rfl rfl (t_gr_checkRuns hHT55 1 ⟨by omega, by omega⟩ (by first | assumption | omega) (by first | assumption | omega) _) ?_
                        rintro _ T57 ⟨hHT57, w640, z639, rfl, w639, w636, w637, w638⟩
                        have hFT57 : FR md_gr_checkBe S T57 := FR.tr hFT55 w640 rfl
                        show Rl _ _ _ _ _ [iv z639] _ _
                        refine l_ireturn rfl (retI_z (by omega)) ?_
                        have w641 : 0 ≤ Xi T57 890 2 ∧ Xi T57 890 2 ≤ 20 := hHT57.c _ _
                        exact ⟨hHT57, hFT57, _, rfl, ⟨by omega, by omega⟩, (by first | assumption | omega)⟩
                  · refine l_aload_n rfl rfl ?_
                    refine l_bipush rfl rfl ?_
                    refine l_pfi rfl rfl rfl rfl ?_
                    obtain ⟨U58, eU58⟩ : ∃ T : sS, T = uI T2 890 2 (Int32.ofInt 13) := ⟨_, rfl⟩
                    rw [← eU58]
                    have hHU58 : HI U58 := by rw [eU58]; exact HI_w hHT2 (show 0 ≤ 13 by omega) (show 13 ≤ 20 by omega)
                    have hFU58 : FR md_gr_checkBe S U58 := by rw [eU58]; exact FR.wI hFT2 (mdf_i (r := (890, 891, 2, 3)) (List.mem_of_getElem? (i := 1) rfl) (inR_i (by omega) (by omega) (by omega) (by omega)))
                    have w642 : Xi U58 890 2 = 13 := by rw [eU58]; exact Xi_same (by unfold rg; omega)
                    have hso321 : SAY U58 (Xi U58 890 1) := SAY_sort eU58 (by assumption) (by decide)
                    refine l_aload_n rfl rfl ?_
                    refine l_iconst rfl ?_
                    have w643 : Xi U58 876 7 = Xi S 876 7 := (show Xi U58 876 7 = Xi T2 876 7 from by rw [eU58]; exact Xi_ne (by omega)).trans ( (show Xi T2 876 7 = Xi T1 876 7 from w23.x _ _ rfl).trans ((show Xi T1 876 7 = Xi S 876 7 from w12.x _ _ rfl)))
                    have w644 : 0 ≤ Xi S 876 7 ∧ Xi S 876 7 ≤ 5125 := hH.c _ _
                    have w645 : Xi U58 890 1 = Xi T2 890 1 := (show Xi U58 890 1 = Xi T2 890 1 from by rw [eU58]; exact Xi_ne (by omega))
                    have w646 : 0 ≤ Xi T2 890 1 ∧ Xi T2 890 1 ≤ 5126 := hHT2.c _ _
                    refine l_callV rfl rfl rfl (t_gr_takePlace hHU58 0 ⟨by omega, by omega⟩ (by first | assumption | omega) (by first | assumption | omega) (by first | omega | exact ⟨by omega, by rw [x877 eU58, show (Xi U58 890 1).toNat = (Xi T2 890 1).toNat by omega]; omega⟩) _) ?_
                    rintro _ T59 ⟨hHT59, w650, z649, rfl, w649, w647, w648⟩
                    have hFT59 : FR md_gr_checkBe S T59 := FR.tr hFU58 w650 rfl
                    show Rl _ _ _ _ _ [iv z649] _ _
                    refine l_if_eq rfl rfl (by unfold rg; omega) (fun w651 => ?_) (fun w652 => ?_)
                    · refine l_iconst rfl ?_
                      refine l_ireturn rfl rfl ?_
                      have w653 : Xi T59 890 2 = Xi U58 890 2 := (show Xi T59 890 2 = Xi U58 890 2 from w650.x _ _ rfl)
                      have w654 : 0 ≤ Xi U58 890 2 ∧ Xi U58 890 2 ≤ 20 := hHU58.c _ _
                      exact ⟨hHT59, hFT59, _, rfl, ⟨by omega, by omega⟩, (by first | assumption | omega)⟩
                    · refine l_aload_n rfl rfl ?_
                      refine l_bipush rfl rfl ?_
                      have w655 : Xi T59 876 7 = Xi S 876 7 := (show Xi T59 876 7 = Xi U58 876 7 from w650.x _ _ rfl).trans ( (show Xi U58 876 7 = Xi T2 876 7 from by rw [eU58]; exact Xi_ne (by omega)).trans ( (show Xi T2 876 7 = Xi T1 876 7 from w23.x _ _ rfl).trans ((show Xi T1 876 7 = Xi S 876 7 from w12.x _ _ rfl))))
                      have w656 : 0 ≤ Xi S 876 7 ∧ Xi S 876 7 ≤ 5125 := hH.c _ _
                      have w657 : 0 ≤ Xi T59 890 1 ∧ Xi T59 890 1 ≤ 5126 := hHT59.c _ _
                      refine l_callV rfl rfl rfl (t_gr_take hHT59 103 ⟨by omega, by omega⟩ (by first | assumption | omega) (by first | assumption | omega) (by first | assumption | omega) _) ?_
                      rintro _ T60 ⟨hHT60, w663, z662, rfl, w662, w658, w659, w660, w661⟩
                      have hFT60 : FR md_gr_checkBe S T60 := FR.tr hFT59 w663 rfl
                      show Rl _ _ _ _ _ [iv z662] _ _
                      refine l_if_eq rfl rfl (by unfold rg; omega) (fun w664 => ?_) (fun w665 => ?_)
                      · refine l_iconst rfl ?_
                        refine l_ireturn rfl rfl ?_
                        have w666 : Xi T60 890 2 = Xi U58 890 2 := (show Xi T60 890 2 = Xi T59 890 2 from w663.x _ _ rfl).trans ((show Xi T59 890 2 = Xi U58 890 2 from w650.x _ _ rfl))
                        have w667 : 0 ≤ Xi U58 890 2 ∧ Xi U58 890 2 ≤ 20 := hHU58.c _ _
                        exact ⟨hHT60, hFT60, _, rfl, ⟨by omega, by omega⟩, (by first | assumption | omega)⟩
                      · refine l_iconst rfl ?_
                        refine l_goto rfl rfl ?_
                        refine l_ireturn rfl rfl ?_
                        have w668 : Xi T60 890 2 = Xi U58 890 2 := (show Xi T60 890 2 = Xi T59 890 2 from w663.x _ _ rfl).trans ((show Xi T59 890 2 = Xi U58 890 2 from w650.x _ _ rfl))
                        have w669 : 0 ≤ Xi U58 890 2 ∧ Xi U58 890 2 ≤ 20 := hHU58.c _ _
                        exact ⟨hHT60, hFT60, _, rfl, ⟨by omega, by omega⟩, (by first | assumption | omega)⟩
                · refine l_aload_n rfl rfl ?_
                  refine l_bipush rfl rfl ?_
                  refine l_pfi rfl rfl rfl rfl ?_
                  obtain ⟨U61, eU61⟩ : ∃ T : sS, T = uI T2 890 2 (Int32.ofInt 12) := ⟨_, rfl⟩
                  rw [← eU61]
                  have hHU61 : HI U61 := by rw [eU61]; exact HI_w hHT2 (show 0 ≤ 12 by omega) (show 12 ≤ 20 by omega)
                  have hFU61 : FR md_gr_checkBe S U61 := by rw [eU61]; exact FR.wI hFT2 (mdf_i (r := (890, 891, 2, 3)) (List.mem_of_getElem? (i := 1) rfl) (inR_i (by omega) (by omega) (by omega) (by omega)))
                  have w670 : Xi U61 890 2 = 12 := by rw [eU61]; exact Xi_same (by unfold rg; omega)
                  have hso261 : SAY U61 (Xi U61 890 1) := SAY_sort eU61 (by assumption) (by decide)
                  refine l_aload_n rfl rfl ?_
                  refine l_dup rfl rfl ?_
                  refine l_gfi rfl rfl rfl rfl rfl ?_
                  have w671 : (Xi U61 890 1) = (Xi T2 890 1) := (show Xi U61 890 1 = Xi T2 890 1 from by rw [eU61]; exact Xi_ne (by omega))
                  rw [w671]
                  refine l_iconst rfl ?_
                  refine l_iadd rfl ?_
                  refine l_pfi rfl rfl rfl rfl ?_
                  obtain ⟨U62, eU62⟩ : ∃ T : sS, T = uI U61 890 1 (Int32.ofInt ((Xi T2 890 1) + 1)) := ⟨_, rfl⟩
                  rw [← eU62]
                  have hHU62 : HI U62 := by rw [eU62]; exact HI_w hHU61 (show 0 ≤ ((Xi T2 890 1) + 1) by omega) (show ((Xi T2 890 1) + 1) ≤ 5126 by omega)
                  have hFU62 : FR md_gr_checkBe S U62 := by rw [eU62]; exact FR.wI hFU61 (mdf_i (r := (890, 891, 1, 2)) (List.mem_of_getElem? (i := 0) rfl) (inR_i (by omega) (by omega) (by omega) (by omega)))
                  have w672 : Xi U62 890 1 = ((Xi T2 890 1) + 1) := by rw [eU62]; exact Xi_same (by unfold rg; omega)
                  have hs271 : SAY U62 (Xi U62 890 1) := SAY_1x eU61 eU62 (by omega) (by assumption) (by omega) (by omega) (by omega)
                  refine l_aload_n rfl rfl ?_
                  have w673 : Xi U62 876 7 = Xi S 876 7 := (show Xi U62 876 7 = Xi U61 876 7 from by rw [eU62]; exact Xi_ne (by omega)).trans ( (show Xi U61 876 7 = Xi T2 876 7 from by rw [eU61]; exact Xi_ne (by omega)).trans ( (show Xi T2 876 7 = Xi T1 876 7 from w23.x _ _ rfl).trans ((show Xi T1 876 7 = Xi S 876 7 from w12.x _ _ rfl))))
                  have w674 : 0 ≤ Xi S 876 7 ∧ Xi S 876 7 ≤ 5125 := hH.c _ _
                  have w675 : 0 ≤ Xi U62 890 1 ∧ Xi U62 890 1 ≤ 5126 := hHU62.c _ _
                  refine l_callV rfl rfl rfl (t_gr_takeRun hHU62 (by first | assumption | omega) (by first | assumption | omega) _) ?_
                  rintro _ T63 ⟨hHT63, w680, z679, rfl, w679, w676, w677, w678⟩
                  have hFT63 : FR md_gr_checkBe S T63 := FR.tr hFU62 w680 rfl
                  show Rl _ _ _ _ _ [iv z679] _ _
                  refine l_if_eq rfl rfl (by unfold rg; omega) (fun w681 => ?_) (fun w682 => ?_)
                  · refine l_iconst rfl ?_
                    refine l_ireturn rfl rfl ?_
                    have w683 : Xi T63 890 2 = Xi U61 890 2 := (show Xi T63 890 2 = Xi U62 890 2 from w680.x _ _ rfl).trans ((show Xi U62 890 2 = Xi U61 890 2 from by rw [eU62]; exact Xi_ne (by omega)))
                    have w684 : 0 ≤ Xi U61 890 2 ∧ Xi U61 890 2 ≤ 20 := hHU61.c _ _
                    exact ⟨hHT63, hFT63, _, rfl, ⟨by omega, by omega⟩, (by first | assumption | omega)⟩
                  · refine l_aload_n rfl rfl ?_
                    have w685 : Xi T63 876 7 = Xi S 876 7 := (show Xi T63 876 7 = Xi U62 876 7 from w680.x _ _ rfl).trans ( (show Xi U62 876 7 = Xi U61 876 7 from by rw [eU62]; exact Xi_ne (by omega)).trans ( (show Xi U61 876 7 = Xi T2 876 7 from by rw [eU61]; exact Xi_ne (by omega)).trans ( (show Xi T2 876 7 = Xi T1 876 7 from w23.x _ _ rfl).trans ((show Xi T1 876 7 = Xi S 876 7 from w12.x _ _ rfl)))))
                    have w686 : 0 ≤ Xi S 876 7 ∧ Xi S 876 7 ≤ 5125 := hH.c _ _
                    have w687 : 0 ≤ Xi T63 890 1 ∧ Xi T63 890 1 ≤ 5126 := hHT63.c _ _
                    refine l_callV rfl rfl rfl (t_gr_atPlace hHT63 _) ?_
                    rintro _ _ ⟨rfl, z689, rfl, w689, w688⟩
                    show Rl _ _ _ _ _ [iv z689] _ _
                    refine l_if_eq rfl rfl (by unfold rg; omega) (fun w690 => ?_) (fun w691 => ?_)
                    · refine l_aload_n rfl rfl ?_
                      refine l_bipush rfl rfl ?_
                      have w692 : Xi T63 876 7 = Xi S 876 7 := (show Xi T63 876 7 = Xi U62 876 7 from w680.x _ _ rfl).trans ( (show Xi U62 876 7 = Xi U61 876 7 from by rw [eU62]; exact Xi_ne (by omega)).trans ( (show Xi U61 876 7 = Xi T2 876 7 from by rw [eU61]; exact Xi_ne (by omega)).trans ( (show Xi T2 876 7 = Xi T1 876 7 from w23.x _ _ rfl).trans ((show Xi T1 876 7 = Xi S 876 7 from w12.x _ _ rfl)))))
                      have w693 : 0 ≤ Xi S 876 7 ∧ Xi S 876 7 ≤ 5125 := hH.c _ _
                      have w694 : 0 ≤ Xi T63 890 1 ∧ Xi T63 890 1 ≤ 5126 := hHT63.c _ _
                      refine l_callV rfl rfl rfl (t_gr_take hHT63 103 ⟨by omega, by omega⟩ (by first | assumption | omega) (by first | assumption | omega) (by first | assumption | omega) _) ?_
                      rintro _ T64 ⟨hHT64, w700, z699, rfl, w699, w695, w696, w697, w698⟩
                      have hFT64 : FR md_gr_checkBe S T64 := FR.tr hFT63 w700 rfl
                      show Rl _ _ _ _ _ [iv z699] _ _
                      refine l_if_eq rfl rfl (by unfold rg; omega) (fun w701 => ?_) (fun w702 => ?_)
                      · refine l_iconst rfl ?_
                        refine l_ireturn rfl rfl ?_
                        have w703 : Xi T64 890 2 = Xi U61 890 2 := (show Xi T64 890 2 = Xi T63 890 2 from w700.x _ _ rfl).trans ( (show Xi T63 890 2 = Xi U62 890 2 from w680.x _ _ rfl).trans ((show Xi U62 890 2 = Xi U61 890 2 from by rw [eU62]; exact Xi_ne (by omega))))
                        have w704 : 0 ≤ Xi U61 890 2 ∧ Xi U61 890 2 ≤ 20 := hHU61.c _ _
                        exact ⟨hHT64, hFT64, _, rfl, ⟨by omega, by omega⟩, (by first | assumption | omega)⟩
                      · refine l_iconst rfl ?_
                        refine l_goto rfl rfl ?_
                        refine l_ireturn rfl rfl ?_
                        have w705 : Xi T64 890 2 = Xi U61 890 2 := (show Xi T64 890 2 = Xi T63 890 2 from w700.x _ _ rfl).trans ( (show Xi T63 890 2 = Xi U62 890 2 from w680.x _ _ rfl).trans ((show Xi U62 890 2 = Xi U61 890 2 from by rw [eU62]; exact Xi_ne (by omega))))
                        have w706 : 0 ≤ Xi U61 890 2 ∧ Xi U61 890 2 ≤ 20 := hHU61.c _ _
                        exact ⟨hHT64, hFT64, _, rfl, ⟨by omega, by omega⟩, (by first | assumption | omega)⟩
                    · refine l_aload_n rfl rfl ?_
                      refine l_iconst rfl ?_
                      have w707 : Xi T63 876 7 = Xi S 876 7 := (show Xi T63 876 7 = Xi U62 876 7 from w680.x _ _ rfl).trans ( (show Xi U62 876 7 = Xi U61 876 7 from by rw [eU62]; exact Xi_ne (by omega)).trans ( (show Xi U61 876 7 = Xi T2 876 7 from by rw [eU61]; exact Xi_ne (by omega)).trans ( (show Xi T2 876 7 = Xi T1 876 7 from w23.x _ _ rfl).trans ((show Xi T1 876 7 = Xi S 876 7 from w12.x _ _ rfl)))))
                      have w708 : 0 ≤ Xi S 876 7 ∧ Xi S 876 7 ≤ 5125 := hH.c _ _
                      have w709 : 0 ≤ Xi T63 890 1 ∧ Xi T63 890 1 ≤ 5126 := hHT63.c _ _
                      refine l_callV rfl rfl rfl (t_gr_takePlace hHT63 0 ⟨by omega, by omega⟩ (by first | assumption | omega) (by first | assumption | omega) (by first | omega | exact ⟨by omega, by rw [x877 , show (Xi T63 890 1).toNat = (Xi U62 890 1).toNat by omega]; omega⟩) _) ?_
                      rintro _ T65 ⟨hHT65, w713, z712, rfl, w712, w710, w711⟩
                      have hFT65 : FR md_gr_checkBe S T65 := FR.tr hFT63 w713 rfl
                      show Rl _ _ _ _ _ [iv z712] _ _
                      refine l_if_eq rfl rfl (by unfold rg; omega) (fun w714 => ?_) (fun w715 => ?_)
                      · refine l_iconst rfl ?_
                        refine l_ireturn rfl rfl ?_
                        have w716 : Xi T65 890 2 = Xi U61 890 2 := (show Xi T65 890 2 = Xi T63 890 2 from w713.x _ _ rfl).trans ( (show Xi T63 890 2 = Xi U62 890 2 from w680.x _ _ rfl).trans ((show Xi U62 890 2 = Xi U61 890 2 from by rw [eU62]; exact Xi_ne (by omega))))
                        have w717 : 0 ≤ Xi U61 890 2 ∧ Xi U61 890 2 ≤ 20 := hHU61.c _ _
                        exact ⟨hHT65, hFT65, _, rfl, ⟨by omega, by omega⟩, (by first | assumption | omega)⟩
                      · refine l_aload_n rfl rfl ?_
                        refine l_bipush rfl rfl ?_
                        have w718 : Xi T65 876 7 = Xi S 876 7 := (show Xi T65 876 7 = Xi T63 876 7 from w713.x _ _ rfl).trans ( (show Xi T63 876 7 = Xi U62 876 7 from w680.x _ _ rfl).trans ( (show Xi U62 876 7 = Xi U61 876 7 from by rw [eU62]; exact Xi_ne (by omega)).trans ( (show Xi U61 876 7 = Xi T2 876 7 from by rw [eU61]; exact Xi_ne (by omega)).trans ( (show Xi T2 876 7 = Xi T1 876 7 from w23.x _ _ rfl).trans ((show Xi T1 876 7 = Xi S 876 7 from w12.x _ _ rfl))))))
                        have w719 : 0 ≤ Xi S 876 7 ∧ Xi S 876 7 ≤ 5125 := hH.c _ _
                        have w720 : 0 ≤ Xi T65 890 1 ∧ Xi T65 890 1 ≤ 5126 := hHT65.c _ _
                        refine l_callV rfl rfl rfl (t_gr_take hHT65 103 ⟨by omega, by omega⟩ (by first | assumption | omega) (by first | assumption | omega) (by first | assumption | omega) _) ?_
                        rintro _ T66 ⟨hHT66, w726, z725, rfl, w725, w721, w722, w723, w724⟩
                        have hFT66 : FR md_gr_checkBe S T66 := FR.tr hFT65 w726 rfl
                        show Rl _ _ _ _ _ [iv z725] _ _
                        refine l_if_eq rfl rfl (by unfold rg; omega) (fun w727 => ?_) (fun w728 => ?_)
                        · refine l_iconst rfl ?_
                          refine l_ireturn rfl rfl ?_
                          have w729 : Xi T66 890 2 = Xi U61 890 2 := (show Xi T66 890 2 = Xi T65 890 2 from w726.x _ _ rfl).trans ( (show Xi T65 890 2 = Xi T63 890 2 from w713.x _ _ rfl).trans ( (show Xi T63 890 2 = Xi U62 890 2 from w680.x _ _ rfl).trans ((show Xi U62 890 2 = Xi U61 890 2 from by rw [eU62]; exact Xi_ne (by omega)))))
                          have w730 : 0 ≤ Xi U61 890 2 ∧ Xi U61 890 2 ≤ 20 := hHU61.c _ _
                          exact ⟨hHT66, hFT66, _, rfl, ⟨by omega, by omega⟩, (by first | assumption | omega)⟩
                        · refine l_iconst rfl ?_
                          refine l_goto rfl rfl ?_
                          refine l_ireturn rfl rfl ?_
                          have w731 : Xi T66 890 2 = Xi U61 890 2 := (show Xi T66 890 2 = Xi T65 890 2 from w726.x _ _ rfl).trans ( (show Xi T65 890 2 = Xi T63 890 2 from w713.x _ _ rfl).trans ( (show Xi T63 890 2 = Xi U62 890 2 from w680.x _ _ rfl).trans ((show Xi U62 890 2 = Xi U61 890 2 from by rw [eU62]; exact Xi_ne (by omega)))))
                          have w732 : 0 ≤ Xi U61 890 2 ∧ Xi U61 890 2 ≤ 20 := hHU61.c _ _
                          exact ⟨hHT66, hFT66, _, rfl, ⟨by omega, by omega⟩, (by first | assumption | omega)⟩
              · refine l_aload_n rfl rfl ?_
                refine l_bipush rfl rfl ?_
                refine l_pfi rfl rfl rfl rfl ?_
                obtain ⟨U67, eU67⟩ : ∃ T : sS, T = uI T2 890 2 (Int32.ofInt 11) := ⟨_, rfl⟩
                rw [← eU67]
                have hHU67 : HI U67 := by rw [eU67]; exact HI_w hHT2 (show 0 ≤ 11 by omega) (show 11 ≤ 20 by omega)
                have hFU67 : FR md_gr_checkBe S U67 := by rw [eU67]; exact FR.wI hFT2 (mdf_i (r := (890, 891, 2, 3)) (List.mem_of_getElem? (i := 1) rfl) (inR_i (by omega) (by omega) (by omega) (by omega)))
                have w733 : Xi U67 890 2 = 11 := by rw [eU67]; exact Xi_same (by unfold rg; omega)
                have hso189 : SAY U67 (Xi U67 890 1) := SAY_sort eU67 (by assumption) (by decide)
                refine l_aload_n rfl rfl ?_
                refine l_dup rfl rfl ?_
                refine l_gfi rfl rfl rfl rfl rfl ?_
                have w734 : (Xi U67 890 1) = (Xi T2 890 1) := (show Xi U67 890 1 = Xi T2 890 1 from by rw [eU67]; exact Xi_ne (by omega))
                rw [w734]
                refine l_iconst rfl ?_
                refine l_iadd rfl ?_
                refine l_pfi rfl rfl rfl rfl ?_
                obtain ⟨U68, eU68⟩ : ∃ T : sS, T = uI U67 890 1 (Int32.ofInt ((Xi T2 890 1) + 2)) := ⟨_, rfl⟩
                rw [← eU68]
                have hHU68 : HI U68 := by rw [eU68]; exact HI_w hHU67 (show 0 ≤ ((Xi T2 890 1) + 2) by omega) (show ((Xi T2 890 1) + 2) ≤ 5126 by omega)
                have hFU68 : FR md_gr_checkBe S U68 := by rw [eU68]; exact FR.wI hFU67 (mdf_i (r := (890, 891, 1, 2)) (List.mem_of_getElem? (i := 0) rfl) (inR_i (by omega) (by omega) (by omega) (by omega)))
                have w735 : Xi U68 890 1 = ((Xi T2 890 1) + 2) := by rw [eU68]; exact Xi_same (by unfold rg; omega)
                have hs199 : SAY U68 (Xi U68 890 1) := SAY_2x eU67 eU68 (by omega) (by assumption) (by omega) (by omega) (by omega) (by omega)
                refine l_aload_n rfl rfl ?_
                refine l_bipush rfl rfl ?_
                have w736 : Xi U68 876 7 = Xi S 876 7 := (show Xi U68 876 7 = Xi U67 876 7 from by rw [eU68]; exact Xi_ne (by omega)).trans ( (show Xi U67 876 7 = Xi T2 876 7 from by rw [eU67]; exact Xi_ne (by omega)).trans ( (show Xi T2 876 7 = Xi T1 876 7 from w23.x _ _ rfl).trans ((show Xi T1 876 7 = Xi S 876 7 from w12.x _ _ rfl))))
                have w737 : 0 ≤ Xi S 876 7 ∧ Xi S 876 7 ≤ 5125 := hH.c _ _
                have w738 : 0 ≤ Xi U68 890 1 ∧ Xi U68 890 1 ≤ 5126 := hHU68.c _ _
                refine l_callV rfl rfl rfl (t_gr_take hHU68 28 ⟨by omega, by omega⟩ (by first | assumption | omega) (by first | assumption | omega) (by first | assumption | omega) _) ?_
                rintro _ T69 ⟨hHT69, w744, z743, rfl, w743, w739, w740, w741, w742⟩
                have hFT69 : FR md_gr_checkBe S T69 := FR.tr hFU68 w744 rfl
                show Rl _ _ _ _ _ [iv z743] _ _
                refine l_if_eq rfl rfl (by unfold rg; omega) (fun w745 => ?_) (fun w746 => ?_)
                · refine l_aload_n rfl rfl ?_
                  refine l_bipush rfl rfl ?_
                  have w747 : Xi T69 876 7 = Xi S 876 7 := (show Xi T69 876 7 = Xi U68 876 7 from w744.x _ _ rfl).trans ( (show Xi U68 876 7 = Xi U67 876 7 from by rw [eU68]; exact Xi_ne (by omega)).trans ( (show Xi U67 876 7 = Xi T2 876 7 from by rw [eU67]; exact Xi_ne (by omega)).trans ( (show Xi T2 876 7 = Xi T1 876 7 from w23.x _ _ rfl).trans ((show Xi T1 876 7 = Xi S 876 7 from w12.x _ _ rfl)))))
                  have w748 : 0 ≤ Xi S 876 7 ∧ Xi S 876 7 ≤ 5125 := hH.c _ _
                  have w749 : 0 ≤ Xi T69 890 1 ∧ Xi T69 890 1 ≤ 5126 := hHT69.c _ _
                  refine l_callV rfl rfl rfl (t_gr_take hHT69 103 ⟨by omega, by omega⟩ (by first | assumption | omega) (by first | assumption | omega) (by first | assumption | omega) _) ?_
                  rintro _ T70 ⟨hHT70, w755, z754, rfl, w754, w750, w751, w752, w753⟩
                  have hFT70 : FR md_gr_checkBe S T70 := FR.tr hFT69 w755 rfl
                  show Rl _ _ _ _ _ [iv z754] _ _
                  refine l_if_eq rfl rfl (by unfold rg; omega) (fun w756 => ?_) (fun w757 => ?_)
                  · refine l_iconst rfl ?_
                    refine l_ireturn rfl rfl ?_
                    have w758 : Xi T70 890 2 = Xi U67 890 2 := (show Xi T70 890 2 = Xi T69 890 2 from w755.x _ _ rfl).trans ( (show Xi T69 890 2 = Xi U68 890 2 from w744.x _ _ rfl).trans ((show Xi U68 890 2 = Xi U67 890 2 from by rw [eU68]; exact Xi_ne (by omega))))
                    have w759 : 0 ≤ Xi U67 890 2 ∧ Xi U67 890 2 ≤ 20 := hHU67.c _ _
                    exact ⟨hHT70, hFT70, _, rfl, ⟨by omega, by omega⟩, (by first | assumption | omega)⟩
                  · refine l_iconst rfl ?_
                    refine l_goto rfl rfl ?_
                    refine l_ireturn rfl rfl ?_
                    have w760 : Xi T70 890 2 = Xi U67 890 2 := (show Xi T70 890 2 = Xi T69 890 2 from w755.x _ _ rfl).trans ( (show Xi T69 890 2 = Xi U68 890 2 from w744.x _ _ rfl).trans ((show Xi U68 890 2 = Xi U67 890 2 from by rw [eU68]; exact Xi_ne (by omega))))
                    have w761 : 0 ≤ Xi U67 890 2 ∧ Xi U67 890 2 ≤ 20 := hHU67.c _ _
                    exact ⟨hHT70, hFT70, _, rfl, ⟨by omega, by omega⟩, (by first | assumption | omega)⟩
                · refine l_aload_n rfl rfl ?_
                  refine l_bipush rfl rfl ?_
                  have w762 : Xi T69 876 7 = Xi S 876 7 := (show Xi T69 876 7 = Xi U68 876 7 from w744.x _ _ rfl).trans ( (show Xi U68 876 7 = Xi U67 876 7 from by rw [eU68]; exact Xi_ne (by omega)).trans ( (show Xi U67 876 7 = Xi T2 876 7 from by rw [eU67]; exact Xi_ne (by omega)).trans ( (show Xi T2 876 7 = Xi T1 876 7 from w23.x _ _ rfl).trans ((show Xi T1 876 7 = Xi S 876 7 from w12.x _ _ rfl)))))
                  have w763 : 0 ≤ Xi S 876 7 ∧ Xi S 876 7 ≤ 5125 := hH.c _ _
                  have w764 : 0 ≤ Xi T69 890 1 ∧ Xi T69 890 1 ≤ 5126 := hHT69.c _ _
                  refine l_callV rfl rfl rfl (t_gr_take hHT69 11 ⟨by omega, by omega⟩ (by first | assumption | omega) (by first | assumption | omega) (by first | assumption | omega) _) ?_
                  rintro _ T71 ⟨hHT71, w770, z769, rfl, w769, w765, w766, w767, w768⟩
                  have hFT71 : FR md_gr_checkBe S T71 := FR.tr hFT69 w770 rfl
                  show Rl _ _ _ _ _ [iv z769] _ _
                  refine l_if_eq rfl rfl (by unfold rg; omega) (fun w771 => ?_) (fun w772 => ?_)
                  · refine l_iconst rfl ?_
                    refine l_ireturn rfl rfl ?_
                    have w773 : Xi T71 890 2 = Xi U67 890 2 := (show Xi T71 890 2 = Xi T69 890 2 from w770.x _ _ rfl).trans ( (show Xi T69 890 2 = Xi U68 890 2 from w744.x _ _ rfl).trans ((show Xi U68 890 2 = Xi U67 890 2 from by rw [eU68]; exact Xi_ne (by omega))))
                    have w774 : 0 ≤ Xi U67 890 2 ∧ Xi U67 890 2 ≤ 20 := hHU67.c _ _
                    exact ⟨hHT71, hFT71, _, rfl, ⟨by omega, by omega⟩, (by first | assumption | omega)⟩
                  · refine l_aload_n rfl rfl ?_
                    refine l_bipush rfl rfl ?_
                    have w775 : Xi T71 876 7 = Xi S 876 7 := (show Xi T71 876 7 = Xi T69 876 7 from w770.x _ _ rfl).trans ( (show Xi T69 876 7 = Xi U68 876 7 from w744.x _ _ rfl).trans ( (show Xi U68 876 7 = Xi U67 876 7 from by rw [eU68]; exact Xi_ne (by omega)).trans ( (show Xi U67 876 7 = Xi T2 876 7 from by rw [eU67]; exact Xi_ne (by omega)).trans ( (show Xi T2 876 7 = Xi T1 876 7 from w23.x _ _ rfl).trans ((show Xi T1 876 7 = Xi S 876 7 from w12.x _ _ rfl))))))
                    have w776 : 0 ≤ Xi S 876 7 ∧ Xi S 876 7 ≤ 5125 := hH.c _ _
                    have w777 : 0 ≤ Xi T71 890 1 ∧ Xi T71 890 1 ≤ 5126 := hHT71.c _ _
                    refine l_callV rfl rfl rfl (t_gr_take hHT71 22 ⟨by omega, by omega⟩ (by first | assumption | omega) (by first | assumption | omega) (by first | assumption | omega) _) ?_
                    rintro _ T72 ⟨hHT72, w783, z782, rfl, w782, w778, w779, w780, w781⟩
                    have hFT72 : FR md_gr_checkBe S T72 := FR.tr hFT71 w783 rfl
                    show Rl _ _ _ _ _ [iv z782] _ _
                    refine l_if_eq rfl rfl (by unfold rg; omega) (fun w784 => ?_) (fun w785 => ?_)
                    · refine l_iconst rfl ?_
                      refine l_ireturn rfl rfl ?_
                      have w786 : Xi T72 890 2 = Xi U67 890 2 := (show Xi T72 890 2 = Xi T71 890 2 from w783.x _ _ rfl).trans ( (show Xi T71 890 2 = Xi T69 890 2 from w770.x _ _ rfl).trans ( (show Xi T69 890 2 = Xi U68 890 2 from w744.x _ _ rfl).trans ((show Xi U68 890 2 = Xi U67 890 2 from by rw [eU68]; exact Xi_ne (by omega)))))
                      have w787 : 0 ≤ Xi U67 890 2 ∧ Xi U67 890 2 ≤ 20 := hHU67.c _ _
                      exact ⟨hHT72, hFT72, _, rfl, ⟨by omega, by omega⟩, (by first | assumption | omega)⟩
                    · refine l_aload_n rfl rfl ?_
                      have w788 : Xi T72 876 7 = Xi S 876 7 := (show Xi T72 876 7 = Xi T71 876 7 from w783.x _ _ rfl).trans ( (show Xi T71 876 7 = Xi T69 876 7 from w770.x _ _ rfl).trans ( (show Xi T69 876 7 = Xi U68 876 7 from w744.x _ _ rfl).trans ( (show Xi U68 876 7 = Xi U67 876 7 from by rw [eU68]; exact Xi_ne (by omega)).trans ( (show Xi U67 876 7 = Xi T2 876 7 from by rw [eU67]; exact Xi_ne (by omega)).trans ( (show Xi T2 876 7 = Xi T1 876 7 from w23.x _ _ rfl).trans ((show Xi T1 876 7 = Xi S 876 7 from w12.x _ _ rfl)))))))
                      have w789 : 0 ≤ Xi S 876 7 ∧ Xi S 876 7 ≤ 5125 := hH.c _ _
                      have w790 : 0 ≤ Xi T72 890 1 ∧ Xi T72 890 1 ≤ 5126 := hHT72.c _ _
                      refine l_callV rfl rfl rfl (t_gr_takeRun hHT72 (by first | assumption | omega) (by first | assumption | omega) _) ?_
                      rintro _ T73 ⟨hHT73, w795, z794, rfl, w794, w791, w792, w793⟩
                      have hFT73 : FR md_gr_checkBe S T73 := FR.tr hFT72 w795 rfl
                      show Rl _ _ _ _ _ [iv z794] _ _
                      refine l_if_eq rfl rfl (by unfold rg; omega) (fun w796 => ?_) (fun w797 => ?_)
                      · refine l_iconst rfl ?_
                        refine l_ireturn rfl rfl ?_
                        have w798 : Xi T73 890 2 = Xi U67 890 2 := (show Xi T73 890 2 = Xi T72 890 2 from w795.x _ _ rfl).trans ( (show Xi T72 890 2 = Xi T71 890 2 from w783.x _ _ rfl).trans ( (show Xi T71 890 2 = Xi T69 890 2 from w770.x _ _ rfl).trans ( (show Xi T69 890 2 = Xi U68 890 2 from w744.x _ _ rfl).trans ((show Xi U68 890 2 = Xi U67 890 2 from by rw [eU68]; exact Xi_ne (by omega))))))
                        have w799 : 0 ≤ Xi U67 890 2 ∧ Xi U67 890 2 ≤ 20 := hHU67.c _ _
                        exact ⟨hHT73, hFT73, _, rfl, ⟨by omega, by omega⟩, (by first | assumption | omega)⟩
                      · refine l_aload_n rfl rfl ?_
                        refine l_bipush rfl rfl ?_
                        have w800 : Xi T73 876 7 = Xi S 876 7 := (show Xi T73 876 7 = Xi T72 876 7 from w795.x _ _ rfl).trans ( (show Xi T72 876 7 = Xi T71 876 7 from w783.x _ _ rfl).trans ( (show Xi T71 876 7 = Xi T69 876 7 from w770.x _ _ rfl).trans ( (show Xi T69 876 7 = Xi U68 876 7 from w744.x _ _ rfl).trans ( (show Xi U68 876 7 = Xi U67 876 7 from by rw [eU68]; exact Xi_ne (by omega)).trans ( (show Xi U67 876 7 = Xi T2 876 7 from by rw [eU67]; exact Xi_ne (by omega)).trans ( (show Xi T2 876 7 = Xi T1 876 7 from w23.x _ _ rfl).trans ((show Xi T1 876 7 = Xi S 876 7 from w12.x _ _ rfl))))))))
                        have w801 : 0 ≤ Xi S 876 7 ∧ Xi S 876 7 ≤ 5125 := hH.c _ _
                        have w802 : 0 ≤ Xi T73 890 1 ∧ Xi T73 890 1 ≤ 5126 := hHT73.c _ _
                        refine l_callV rfl rfl rfl (t_gr_take hHT73 103 ⟨by omega, by omega⟩ (by first | assumption | omega) (by first | assumption | omega) (by first | assumption | omega) _) ?_
                        rintro _ T74 ⟨hHT74, w808, z807, rfl, w807, w803, w804, w805, w806⟩
                        have hFT74 : FR md_gr_checkBe S T74 := FR.tr hFT73 w808 rfl
                        show Rl _ _ _ _ _ [iv z807] _ _
                        refine l_if_eq rfl rfl (by unfold rg; omega) (fun w809 => ?_) (fun w810 => ?_)
                        · refine l_iconst rfl ?_
                          refine l_ireturn rfl rfl ?_
                          have w811 : Xi T74 890 2 = Xi U67 890 2 := (show Xi T74 890 2 = Xi T73 890 2 from w808.x _ _ rfl).trans ( (show Xi T73 890 2 = Xi T72 890 2 from w795.x _ _ rfl).trans ( (show Xi T72 890 2 = Xi T71 890 2 from w783.x _ _ rfl).trans ( (show Xi T71 890 2 = Xi T69 890 2 from w770.x _ _ rfl).trans ( (show Xi T69 890 2 = Xi U68 890 2 from w744.x _ _ rfl).trans ((show Xi U68 890 2 = Xi U67 890 2 from by rw [eU68]; exact Xi_ne (by omega)))))))
                          have w812 : 0 ≤ Xi U67 890 2 ∧ Xi U67 890 2 ≤ 20 := hHU67.c _ _
                          exact ⟨hHT74, hFT74, _, rfl, ⟨by omega, by omega⟩, (by first | assumption | omega)⟩
                        · refine l_iconst rfl ?_
                          refine l_goto rfl rfl ?_
                          refine l_ireturn rfl rfl ?_
                          have w813 : Xi T74 890 2 = Xi U67 890 2 := (show Xi T74 890 2 = Xi T73 890 2 from w808.x _ _ rfl).trans ( (show Xi T73 890 2 = Xi T72 890 2 from w795.x _ _ rfl).trans ( (show Xi T72 890 2 = Xi T71 890 2 from w783.x _ _ rfl).trans ( (show Xi T71 890 2 = Xi T69 890 2 from w770.x _ _ rfl).trans ( (show Xi T69 890 2 = Xi U68 890 2 from w744.x _ _ rfl).trans ((show Xi U68 890 2 = Xi U67 890 2 from by rw [eU68]; exact Xi_ne (by omega)))))))
                          have w814 : 0 ≤ Xi U67 890 2 ∧ Xi U67 890 2 ≤ 20 := hHU67.c _ _
                          exact ⟨hHT74, hFT74, _, rfl, ⟨by omega, by omega⟩, (by first | assumption | omega)⟩
          · refine l_aload_n rfl rfl ?_
            refine l_bipush rfl rfl ?_
            refine l_pfi rfl rfl rfl rfl ?_
            obtain ⟨U75, eU75⟩ : ∃ T : sS, T = uI T2 890 2 (Int32.ofInt 10) := ⟨_, rfl⟩
            rw [← eU75]
            have hHU75 : HI U75 := by rw [eU75]; exact HI_w hHT2 (show 0 ≤ 10 by omega) (show 10 ≤ 20 by omega)
            have hFU75 : FR md_gr_checkBe S U75 := by rw [eU75]; exact FR.wI hFT2 (mdf_i (r := (890, 891, 2, 3)) (List.mem_of_getElem? (i := 1) rfl) (inR_i (by omega) (by omega) (by omega) (by omega)))
            have w815 : Xi U75 890 2 = 10 := by rw [eU75]; exact Xi_same (by unfold rg; omega)
            have hso122 : SAY U75 (Xi U75 890 1) := SAY_sort eU75 (by assumption) (by decide)
            refine l_aload_n rfl rfl ?_
            refine l_dup rfl rfl ?_
            refine l_gfi rfl rfl rfl rfl rfl ?_
            have w816 : (Xi U75 890 1) = (Xi T2 890 1) := (show Xi U75 890 1 = Xi T2 890 1 from by rw [eU75]; exact Xi_ne (by omega))
            rw [w816]
            refine l_iconst rfl ?_
            refine l_iadd rfl ?_
            refine l_pfi rfl rfl rfl rfl ?_
            obtain ⟨U76, eU76⟩ : ∃ T : sS, T = uI U75 890 1 (Int32.ofInt ((Xi T2 890 1) + 2)) := ⟨_, rfl⟩
            rw [← eU76]
            have hHU76 : HI U76 := by rw [eU76]; exact HI_w hHU75 (show 0 ≤ ((Xi T2 890 1) + 2) by omega) (show ((Xi T2 890 1) + 2) ≤ 5126 by omega)
            have hFU76 : FR md_gr_checkBe S U76 := by rw [eU76]; exact FR.wI hFU75 (mdf_i (r := (890, 891, 1, 2)) (List.mem_of_getElem? (i := 0) rfl) (inR_i (by omega) (by omega) (by omega) (by omega)))
            have w817 : Xi U76 890 1 = ((Xi T2 890 1) + 2) := by rw [eU76]; exact Xi_same (by unfold rg; omega)
            have hs132 : SAY U76 (Xi U76 890 1) := SAY_2x eU75 eU76 (by omega) (by assumption) (by omega) (by omega) (by omega) (by omega)
            refine l_aload_n rfl rfl ?_
            refine l_bipush rfl rfl ?_
            have w818 : Xi U76 876 7 = Xi S 876 7 := (show Xi U76 876 7 = Xi U75 876 7 from by rw [eU76]; exact Xi_ne (by omega)).trans ( (show Xi U75 876 7 = Xi T2 876 7 from by rw [eU75]; exact Xi_ne (by omega)).trans ( (show Xi T2 876 7 = Xi T1 876 7 from w23.x _ _ rfl).trans ((show Xi T1 876 7 = Xi S 876 7 from w12.x _ _ rfl))))
            have w819 : 0 ≤ Xi S 876 7 ∧ Xi S 876 7 ≤ 5125 := hH.c _ _
            have w820 : 0 ≤ Xi U76 890 1 ∧ Xi U76 890 1 ≤ 5126 := hHU76.c _ _
            refine l_callV rfl rfl rfl (t_gr_take hHU76 7 ⟨by omega, by omega⟩ (by first | assumption | omega) (by first | assumption | omega) (by first | assumption | omega) _) ?_
            rintro _ T77 ⟨hHT77, w826, z825, rfl, w825, w821, w822, w823, w824⟩
            have hFT77 : FR md_gr_checkBe S T77 := FR.tr hFU76 w826 rfl
            show Rl _ _ _ _ _ [iv z825] _ _
            refine l_if_eq rfl rfl (by unfold rg; omega) (fun w827 => ?_) (fun w828 => ?_)
            · refine l_aload_n rfl rfl ?_
              refine l_bipush rfl rfl ?_
              have w829 : Xi T77 876 7 = Xi S 876 7 := (show Xi T77 876 7 = Xi U76 876 7 from w826.x _ _ rfl).trans ( (show Xi U76 876 7 = Xi U75 876 7 from by rw [eU76]; exact Xi_ne (by omega)).trans ( (show Xi U75 876 7 = Xi T2 876 7 from by rw [eU75]; exact Xi_ne (by omega)).trans ( (show Xi T2 876 7 = Xi T1 876 7 from w23.x _ _ rfl).trans ((show Xi T1 876 7 = Xi S 876 7 from w12.x _ _ rfl)))))
              have w830 : 0 ≤ Xi S 876 7 ∧ Xi S 876 7 ≤ 5125 := hH.c _ _
              have w831 : 0 ≤ Xi T77 890 1 ∧ Xi T77 890 1 ≤ 5126 := hHT77.c _ _
              refine l_callV rfl rfl rfl (t_gr_take hHT77 103 ⟨by omega, by omega⟩ (by first | assumption | omega) (by first | assumption | omega) (by first | assumption | omega) _) ?_
              rintro _ T78 ⟨hHT78, w837, z836, rfl, w836, w832, w833, w834, w835⟩
              have hFT78 : FR md_gr_checkBe S T78 := FR.tr hFT77 w837 rfl
              show Rl _ _ _ _ _ [iv z836] _ _
              refine l_if_eq rfl rfl (by unfold rg; omega) (fun w838 => ?_) (fun w839 => ?_)
              · refine l_iconst rfl ?_
                refine l_ireturn rfl rfl ?_
                have w840 : Xi T78 890 2 = Xi U75 890 2 := (show Xi T78 890 2 = Xi T77 890 2 from w837.x _ _ rfl).trans ( (show Xi T77 890 2 = Xi U76 890 2 from w826.x _ _ rfl).trans ((show Xi U76 890 2 = Xi U75 890 2 from by rw [eU76]; exact Xi_ne (by omega))))
                have w841 : 0 ≤ Xi U75 890 2 ∧ Xi U75 890 2 ≤ 20 := hHU75.c _ _
                exact ⟨hHT78, hFT78, _, rfl, ⟨by omega, by omega⟩, (by first | assumption | omega)⟩
              · refine l_iconst rfl ?_
                refine l_goto rfl rfl ?_
                refine l_ireturn rfl rfl ?_
                have w842 : Xi T78 890 2 = Xi U75 890 2 := (show Xi T78 890 2 = Xi T77 890 2 from w837.x _ _ rfl).trans ( (show Xi T77 890 2 = Xi U76 890 2 from w826.x _ _ rfl).trans ((show Xi U76 890 2 = Xi U75 890 2 from by rw [eU76]; exact Xi_ne (by omega))))
                have w843 : 0 ≤ Xi U75 890 2 ∧ Xi U75 890 2 ≤ 20 := hHU75.c _ _
                exact ⟨hHT78, hFT78, _, rfl, ⟨by omega, by omega⟩, (by first | assumption | omega)⟩
            · refine l_aload_n rfl rfl ?_
              refine l_bipush rfl rfl ?_
              have w844 : Xi T77 876 7 = Xi S 876 7 := (show Xi T77 876 7 = Xi U76 876 7 from w826.x _ _ rfl).trans ( (show Xi U76 876 7 = Xi U75 876 7 from by rw [eU76]; exact Xi_ne (by omega)).trans ( (show Xi U75 876 7 = Xi T2 876 7 from by rw [eU75]; exact Xi_ne (by omega)).trans ( (show Xi T2 876 7 = Xi T1 876 7 from w23.x _ _ rfl).trans ((show Xi T1 876 7 = Xi S 876 7 from w12.x _ _ rfl)))))
              have w845 : 0 ≤ Xi S 876 7 ∧ Xi S 876 7 ≤ 5125 := hH.c _ _
              have w846 : 0 ≤ Xi T77 890 1 ∧ Xi T77 890 1 ≤ 5126 := hHT77.c _ _
              refine l_callV rfl rfl rfl (t_gr_take hHT77 20 ⟨by omega, by omega⟩ (by first | assumption | omega) (by first | assumption | omega) (by first | assumption | omega) _) ?_
              rintro _ T79 ⟨hHT79, w852, z851, rfl, w851, w847, w848, w849, w850⟩
              have hFT79 : FR md_gr_checkBe S T79 := FR.tr hFT77 w852 rfl
              show Rl _ _ _ _ _ [iv z851] _ _
              refine l_if_ne rfl rfl (by unfold rg; omega) (fun w853 => ?_) (fun w854 => ?_)
              · refine l_aload_n rfl rfl ?_
                refine l_bipush rfl rfl ?_
                have w855 : Xi T79 876 7 = Xi S 876 7 := (show Xi T79 876 7 = Xi T77 876 7 from w852.x _ _ rfl).trans ( (show Xi T77 876 7 = Xi U76 876 7 from w826.x _ _ rfl).trans ( (show Xi U76 876 7 = Xi U75 876 7 from by rw [eU76]; exact Xi_ne (by omega)).trans ( (show Xi U75 876 7 = Xi T2 876 7 from by rw [eU75]; exact Xi_ne (by omega)).trans ( (show Xi T2 876 7 = Xi T1 876 7 from w23.x _ _ rfl).trans ((show Xi T1 876 7 = Xi S 876 7 from w12.x _ _ rfl))))))
                have w856 : 0 ≤ Xi S 876 7 ∧ Xi S 876 7 ≤ 5125 := hH.c _ _
                have w857 : 0 ≤ Xi T79 890 1 ∧ Xi T79 890 1 ≤ 5126 := hHT79.c _ _
                refine l_callV rfl rfl rfl (t_gr_take hHT79 103 ⟨by omega, by omega⟩ (by first | assumption | omega) (by first | assumption | omega) (by first | assumption | omega) _) ?_
                rintro _ T80 ⟨hHT80, w863, z862, rfl, w862, w858, w859, w860, w861⟩
                have hFT80 : FR md_gr_checkBe S T80 := FR.tr hFT79 w863 rfl
                show Rl _ _ _ _ _ [iv z862] _ _
                refine l_if_eq rfl rfl (by unfold rg; omega) (fun w864 => ?_) (fun w865 => ?_)
                · refine l_iconst rfl ?_
                  refine l_ireturn rfl rfl ?_
                  have w866 : Xi T80 890 2 = Xi U75 890 2 := (show Xi T80 890 2 = Xi T79 890 2 from w863.x _ _ rfl).trans ( (show Xi T79 890 2 = Xi T77 890 2 from w852.x _ _ rfl).trans ( (show Xi T77 890 2 = Xi U76 890 2 from w826.x _ _ rfl).trans ((show Xi U76 890 2 = Xi U75 890 2 from by rw [eU76]; exact Xi_ne (by omega)))))
                  have w867 : 0 ≤ Xi U75 890 2 ∧ Xi U75 890 2 ≤ 20 := hHU75.c _ _
                  exact ⟨hHT80, hFT80, _, rfl, ⟨by omega, by omega⟩, (by first | assumption | omega)⟩
                · refine l_iconst rfl ?_
                  refine l_goto rfl rfl ?_
                  refine l_ireturn rfl rfl ?_
                  have w868 : Xi T80 890 2 = Xi U75 890 2 := (show Xi T80 890 2 = Xi T79 890 2 from w863.x _ _ rfl).trans ( (show Xi T79 890 2 = Xi T77 890 2 from w852.x _ _ rfl).trans ( (show Xi T77 890 2 = Xi U76 890 2 from w826.x _ _ rfl).trans ((show Xi U76 890 2 = Xi U75 890 2 from by rw [eU76]; exact Xi_ne (by omega)))))
                  have w869 : 0 ≤ Xi U75 890 2 ∧ Xi U75 890 2 ≤ 20 := hHU75.c _ _
                  exact ⟨hHT80, hFT80, _, rfl, ⟨by omega, by omega⟩, (by first | assumption | omega)⟩
              · refine l_aload_n rfl rfl ?_
                have w870 : Xi T79 876 7 = Xi S 876 7 := (show Xi T79 876 7 = Xi T77 876 7 from w852.x _ _ rfl).trans ( (show Xi T77 876 7 = Xi U76 876 7 from w826.x _ _ rfl).trans ( (show Xi U76 876 7 = Xi U75 876 7 from by rw [eU76]; exact Xi_ne (by omega)).trans ( (show Xi U75 876 7 = Xi T2 876 7 from by rw [eU75]; exact Xi_ne (by omega)).trans ( (show Xi T2 876 7 = Xi T1 876 7 from w23.x _ _ rfl).trans ((show Xi T1 876 7 = Xi S 876 7 from w12.x _ _ rfl))))))
                have w871 : 0 ≤ Xi S 876 7 ∧ Xi S 876 7 ≤ 5125 := hH.c _ _
                have w872 : 0 ≤ Xi T79 890 1 ∧ Xi T79 890 1 ≤ 5126 := hHT79.c _ _
                refine l_callV rfl rfl rfl (t_gr_takeName hHT79 (by first | assumption | omega) (by first | assumption | omega) _) ?_
                rintro _ T81 ⟨hHT81, w876, z875, rfl, w875, w873, w874⟩
                have hFT81 : FR md_gr_checkBe S T81 := FR.tr hFT79 w876 rfl
                show Rl _ _ _ _ _ [iv z875] _ _
                refine l_if_eq rfl rfl (by unfold rg; omega) (fun w877 => ?_) (fun w878 => ?_)
                · refine l_iconst rfl ?_
                  refine l_ireturn rfl rfl ?_
                  have w879 : Xi T81 890 2 = Xi U75 890 2 := (show Xi T81 890 2 = Xi T79 890 2 from w876.x _ _ rfl).trans ( (show Xi T79 890 2 = Xi T77 890 2 from w852.x _ _ rfl).trans ( (show Xi T77 890 2 = Xi U76 890 2 from w826.x _ _ rfl).trans ((show Xi U76 890 2 = Xi U75 890 2 from by rw [eU76]; exact Xi_ne (by omega)))))
                  have w880 : 0 ≤ Xi U75 890 2 ∧ Xi U75 890 2 ≤ 20 := hHU75.c _ _
                  exact ⟨hHT81, hFT81, _, rfl, ⟨by omega, by omega⟩, (by first | assumption | omega)⟩
                · refine l_aload_n rfl rfl ?_
                  refine l_bipush rfl rfl ?_
                  have w881 : Xi T81 876 7 = Xi S 876 7 := (show Xi T81 876 7 = Xi T79 876 7 from w876.x _ _ rfl).trans ( (show Xi T79 876 7 = Xi T77 876 7 from w852.x _ _ rfl).trans ( (show Xi T77 876 7 = Xi U76 876 7 from w826.x _ _ rfl).trans ( (show Xi U76 876 7 = Xi U75 876 7 from by rw [eU76]; exact Xi_ne (by omega)).trans ( (show Xi U75 876 7 = Xi T2 876 7 from by rw [eU75]; exact Xi_ne (by omega)).trans ( (show Xi T2 876 7 = Xi T1 876 7 from w23.x _ _ rfl).trans ((show Xi T1 876 7 = Xi S 876 7 from w12.x _ _ rfl)))))))
                  have w882 : 0 ≤ Xi S 876 7 ∧ Xi S 876 7 ≤ 5125 := hH.c _ _
                  have w883 : 0 ≤ Xi T81 890 1 ∧ Xi T81 890 1 ≤ 5126 := hHT81.c _ _
                  refine l_callV rfl rfl rfl (t_gr_take hHT81 103 ⟨by omega, by omega⟩ (by first | assumption | omega) (by first | assumption | omega) (by first | assumption | omega) _) ?_
                  rintro _ T82 ⟨hHT82, w889, z888, rfl, w888, w884, w885, w886, w887⟩
                  have hFT82 : FR md_gr_checkBe S T82 := FR.tr hFT81 w889 rfl
                  show Rl _ _ _ _ _ [iv z888] _ _
                  refine l_if_eq rfl rfl (by unfold rg; omega) (fun w890 => ?_) (fun w891 => ?_)
                  · refine l_iconst rfl ?_
                    refine l_ireturn rfl rfl ?_
                    have w892 : Xi T82 890 2 = Xi U75 890 2 := (show Xi T82 890 2 = Xi T81 890 2 from w889.x _ _ rfl).trans ( (show Xi T81 890 2 = Xi T79 890 2 from w876.x _ _ rfl).trans ( (show Xi T79 890 2 = Xi T77 890 2 from w852.x _ _ rfl).trans ( (show Xi T77 890 2 = Xi U76 890 2 from w826.x _ _ rfl).trans ((show Xi U76 890 2 = Xi U75 890 2 from by rw [eU76]; exact Xi_ne (by omega))))))
                    have w893 : 0 ≤ Xi U75 890 2 ∧ Xi U75 890 2 ≤ 20 := hHU75.c _ _
                    exact ⟨hHT82, hFT82, _, rfl, ⟨by omega, by omega⟩, (by first | assumption | omega)⟩
                  · refine l_iconst rfl ?_
                    refine l_goto rfl rfl ?_
                    refine l_ireturn rfl rfl ?_
                    have w894 : Xi T82 890 2 = Xi U75 890 2 := (show Xi T82 890 2 = Xi T81 890 2 from w889.x _ _ rfl).trans ( (show Xi T81 890 2 = Xi T79 890 2 from w876.x _ _ rfl).trans ( (show Xi T79 890 2 = Xi T77 890 2 from w852.x _ _ rfl).trans ( (show Xi T77 890 2 = Xi U76 890 2 from w826.x _ _ rfl).trans ((show Xi U76 890 2 = Xi U75 890 2 from by rw [eU76]; exact Xi_ne (by omega))))))
                    have w895 : 0 ≤ Xi U75 890 2 ∧ Xi U75 890 2 ≤ 20 := hHU75.c _ _
                    exact ⟨hHT82, hFT82, _, rfl, ⟨by omega, by omega⟩, (by first | assumption | omega)⟩
      · refine l_iconst rfl ?_
        refine l_ireturn rfl rfl ?_
        have w896 : Xi T2 890 2 = Xi S 890 2 := (show Xi T2 890 2 = Xi T1 890 2 from w23.x _ _ rfl).trans ((show Xi T1 890 2 = Xi S 890 2 from w12.x _ _ rfl))
        have w897 : 0 ≤ Xi S 890 2 ∧ Xi S 890 2 ≤ 20 := hH.c _ _
        exact ⟨hHT2, hFT2, _, rfl, ⟨by omega, by omega⟩, (by first | assumption | omega)⟩
  · refine l_aload_n rfl rfl ?_
    have hp0 : PROP S 0 := by apply_assumption; omega
    refine l_bipush rfl rfl ?_
    refine l_pfi rfl rfl rfl rfl ?_
    obtain ⟨U83, eU83⟩ : ∃ T : sS, T = uI S 890 2 (Int32.ofInt 9) := ⟨_, rfl⟩
    rw [← eU83]
    have hHU83 : HI U83 := by rw [eU83]; exact HI_w hH (show 0 ≤ 9 by omega) (show 9 ≤ 20 by omega)
    have hFU83 : FR md_gr_checkBe S U83 := by rw [eU83]; exact FR.wI hF (mdf_i (r := (890, 891, 2, 3)) (List.mem_of_getElem? (i := 1) rfl) (inR_i (by omega) (by omega) (by omega) (by omega)))
    have w898 : Xi U83 890 2 = 9 := by rw [eU83]; exact Xi_same (by unfold rg; omega)
    have hso14 : SAY U83 (Xi U83 890 1) := SAY_sort eU83 (by assumption) (by decide)
    refine l_aload_n rfl rfl ?_
    refine l_aload_n rfl rfl ?_
    refine l_gfr rfl rfl rfl rfl rfl (hHU83.r 890 0 876 rfl) ?_
    refine l_iconst rfl ?_
    have w899 : Xi U83 876 7 = Xi S 876 7 := (show Xi U83 876 7 = Xi S 876 7 from by rw [eU83]; exact Xi_ne (by omega))
    have w900 : 0 ≤ Xi S 876 7 ∧ Xi S 876 7 ≤ 5125 := hH.c _ _
    refine l_callV rfl rfl rfl (t_to_runEnd hHU83 1 ⟨by omega, by omega⟩ _) ?_
    rintro _ _ ⟨rfl, z907, rfl, w907, w901, w902, w903, w904, w905, w906⟩
    show Rl _ _ _ _ _ [iv z907, .ref 890] _ _
    have hfe : ∀ r : Nat, (0 : Int) + 1 ≤ r → (r : Int) < z907 → Xi U83 877 r = 100 := by intro r h1 h2; apply_assumption <;> omega
    have hpe := prop_end (z := z907) (PROP_fr (m877 hFU83 rfl) (by omega) hp0) (by omega) hfe (by assumption)
    refine l_iconst rfl ?_
    refine l_iadd rfl ?_
    refine l_pfi rfl rfl rfl rfl ?_
    obtain ⟨U84, eU84⟩ : ∃ T : sS, T = uI U83 890 1 (Int32.ofInt (z907 + 1)) := ⟨_, rfl⟩
    rw [← eU84]
    have hHU84 : HI U84 := by rw [eU84]; exact HI_w hHU83 (show 0 ≤ (z907 + 1) by omega) (show (z907 + 1) ≤ 5126 by omega)
    have hFU84 : FR md_gr_checkBe S U84 := by rw [eU84]; exact FR.wI hFU83 (mdf_i (r := (890, 891, 1, 2)) (List.mem_of_getElem? (i := 0) rfl) (inR_i (by omega) (by omega) (by omega) (by omega)))
    have w908 : Xi U84 890 1 = (z907 + 1) := by rw [eU84]; exact Xi_same (by unfold rg; omega)
    have hs28 : SAY U84 (Xi U84 890 1) := SAY_prop eU84 (by assumption) SAY_0 hpe hfe (by omega)
    refine l_aload_n rfl rfl ?_
    have w909 : Xi U84 876 7 = Xi S 876 7 := (show Xi U84 876 7 = Xi U83 876 7 from by rw [eU84]; exact Xi_ne (by omega)).trans ((show Xi U83 876 7 = Xi S 876 7 from by rw [eU83]; exact Xi_ne (by omega)))
    have w910 : 0 ≤ Xi S 876 7 ∧ Xi S 876 7 ≤ 5125 := hH.c _ _
    have w911 : 0 ≤ Xi U84 890 1 ∧ Xi U84 890 1 ≤ 5126 := hHU84.c _ _
    refine l_callV rfl rfl rfl (t_gr_takeName hHU84 (by first | assumption | omega) (by first | assumption | omega) _) ?_
    rintro _ T85 ⟨hHT85, w915, z914, rfl, w914, w912, w913⟩
    have hFT85 : FR md_gr_checkBe S T85 := FR.tr hFU84 w915 rfl
    show Rl _ _ _ _ _ [iv z914] _ _
    refine l_if_eq rfl rfl (by unfold rg; omega) (fun w916 => ?_) (fun w917 => ?_)
    · refine l_iconst rfl ?_
      refine l_ireturn rfl rfl ?_
      have w918 : Xi T85 890 2 = Xi U83 890 2 := (show Xi T85 890 2 = Xi U84 890 2 from w915.x _ _ rfl).trans ((show Xi U84 890 2 = Xi U83 890 2 from by rw [eU84]; exact Xi_ne (by omega)))
      have w919 : 0 ≤ Xi U83 890 2 ∧ Xi U83 890 2 ≤ 20 := hHU83.c _ _
      exact ⟨hHT85, hFT85, _, rfl, ⟨by omega, by omega⟩, (by first | assumption | omega)⟩
    · refine l_aload_n rfl rfl ?_
      have w920 : Xi T85 876 7 = Xi S 876 7 := (show Xi T85 876 7 = Xi U84 876 7 from w915.x _ _ rfl).trans ( (show Xi U84 876 7 = Xi U83 876 7 from by rw [eU84]; exact Xi_ne (by omega)).trans ((show Xi U83 876 7 = Xi S 876 7 from by rw [eU83]; exact Xi_ne (by omega))))
      have w921 : 0 ≤ Xi S 876 7 ∧ Xi S 876 7 ≤ 5125 := hH.c _ _
      have w922 : 0 ≤ Xi T85 890 1 ∧ Xi T85 890 1 ≤ 5126 := hHT85.c _ _
      refine l_callV rfl rfl rfl (t_gr_takeBe hHT85 (by first | assumption | omega) (by first | assumption | omega) _) ?_
      rintro _ T86 ⟨hHT86, w926, z925, rfl, w925, w923, w924⟩
      have hFT86 : FR md_gr_checkBe S T86 := FR.tr hFT85 w926 rfl
      show Rl _ _ _ _ _ [iv z925] _ _
      refine l_if_eq rfl rfl (by unfold rg; omega) (fun w927 => ?_) (fun w928 => ?_)
      · refine l_iconst rfl ?_
        refine l_ireturn rfl rfl ?_
        have w929 : Xi T86 890 2 = Xi U83 890 2 := (show Xi T86 890 2 = Xi T85 890 2 from w926.x _ _ rfl).trans ( (show Xi T85 890 2 = Xi U84 890 2 from w915.x _ _ rfl).trans ((show Xi U84 890 2 = Xi U83 890 2 from by rw [eU84]; exact Xi_ne (by omega))))
        have w930 : 0 ≤ Xi U83 890 2 ∧ Xi U83 890 2 ≤ 20 := hHU83.c _ _
        exact ⟨hHT86, hFT86, _, rfl, ⟨by omega, by omega⟩, (by first | assumption | omega)⟩
      · refine l_aload_n rfl rfl ?_
        have w931 : Xi T86 876 7 = Xi S 876 7 := (show Xi T86 876 7 = Xi T85 876 7 from w926.x _ _ rfl).trans ( (show Xi T85 876 7 = Xi U84 876 7 from w915.x _ _ rfl).trans ( (show Xi U84 876 7 = Xi U83 876 7 from by rw [eU84]; exact Xi_ne (by omega)).trans ((show Xi U83 876 7 = Xi S 876 7 from by rw [eU83]; exact Xi_ne (by omega)))))
        have w932 : 0 ≤ Xi S 876 7 ∧ Xi S 876 7 ≤ 5125 := hH.c _ _
        have w933 : 0 ≤ Xi T86 890 1 ∧ Xi T86 890 1 ≤ 5126 := hHT86.c _ _
        refine l_callV rfl rfl rfl (t_gr_takeWhat hHT86 (by first | assumption | omega) (by first | assumption | omega) _) ?_
        rintro _ T87 ⟨hHT87, w937, z936, rfl, w936, w934, w935⟩
        have hFT87 : FR md_gr_checkBe S T87 := FR.tr hFT86 w937 rfl
        show Rl _ _ _ _ _ [iv z936] _ _
        refine l_if_eq rfl rfl (by unfold rg; omega) (fun w938 => ?_) (fun w939 => ?_)
        · refine l_iconst rfl ?_
          refine l_ireturn rfl rfl ?_
          have w940 : Xi T87 890 2 = Xi U83 890 2 := (show Xi T87 890 2 = Xi T86 890 2 from w937.x _ _ rfl).trans ( (show Xi T86 890 2 = Xi T85 890 2 from w926.x _ _ rfl).trans ( (show Xi T85 890 2 = Xi U84 890 2 from w915.x _ _ rfl).trans ((show Xi U84 890 2 = Xi U83 890 2 from by rw [eU84]; exact Xi_ne (by omega)))))
          have w941 : 0 ≤ Xi U83 890 2 ∧ Xi U83 890 2 ≤ 20 := hHU83.c _ _
          exact ⟨hHT87, hFT87, _, rfl, ⟨by omega, by omega⟩, (by first | assumption | omega)⟩
        · refine l_aload_n rfl rfl ?_
          refine l_bipush rfl rfl ?_
          have w942 : Xi T87 876 7 = Xi S 876 7 := (show Xi T87 876 7 = Xi T86 876 7 from w937.x _ _ rfl).trans ( (show Xi T86 876 7 = Xi T85 876 7 from w926.x _ _ rfl).trans ( (show Xi T85 876 7 = Xi U84 876 7 from w915.x _ _ rfl).trans ( (show Xi U84 876 7 = Xi U83 876 7 from by rw [eU84]; exact Xi_ne (by omega)).trans ((show Xi U83 876 7 = Xi S 876 7 from by rw [eU83]; exact Xi_ne (by omega))))))
          have w943 : 0 ≤ Xi S 876 7 ∧ Xi S 876 7 ≤ 5125 := hH.c _ _
          have w944 : 0 ≤ Xi T87 890 1 ∧ Xi T87 890 1 ≤ 5126 := hHT87.c _ _
          refine l_callV rfl rfl rfl (t_gr_take hHT87 103 ⟨by omega, by omega⟩ (by first | assumption | omega) (by first | assumption | omega) (by first | assumption | omega) _) ?_
          rintro _ T88 ⟨hHT88, w950, z949, rfl, w949, w945, w946, w947, w948⟩
          have hFT88 : FR md_gr_checkBe S T88 := FR.tr hFT87 w950 rfl
          show Rl _ _ _ _ _ [iv z949] _ _
          refine l_if_eq rfl rfl (by unfold rg; omega) (fun w951 => ?_) (fun w952 => ?_)
          · refine l_iconst rfl ?_
            refine l_ireturn rfl rfl ?_
            have w953 : Xi T88 890 2 = Xi U83 890 2 := (show Xi T88 890 2 = Xi T87 890 2 from w950.x _ _ rfl).trans ( (show Xi T87 890 2 = Xi T86 890 2 from w937.x _ _ rfl).trans ( (show Xi T86 890 2 = Xi T85 890 2 from w926.x _ _ rfl).trans ( (show Xi T85 890 2 = Xi U84 890 2 from w915.x _ _ rfl).trans ((show Xi U84 890 2 = Xi U83 890 2 from by rw [eU84]; exact Xi_ne (by omega))))))
            have w954 : 0 ≤ Xi U83 890 2 ∧ Xi U83 890 2 ≤ 20 := hHU83.c _ _
            exact ⟨hHT88, hFT88, _, rfl, ⟨by omega, by omega⟩, (by first | assumption | omega)⟩
          · refine l_iconst rfl ?_
            refine l_goto rfl rfl ?_
            refine l_ireturn rfl rfl ?_
            have w955 : Xi T88 890 2 = Xi U83 890 2 := (show Xi T88 890 2 = Xi T87 890 2 from w950.x _ _ rfl).trans ( (show Xi T87 890 2 = Xi T86 890 2 from w937.x _ _ rfl).trans ( (show Xi T86 890 2 = Xi T85 890 2 from w926.x _ _ rfl).trans ( (show Xi T85 890 2 = Xi U84 890 2 from w915.x _ _ rfl).trans ((show Xi U84 890 2 = Xi U83 890 2 from by rw [eU84]; exact Xi_ne (by omega))))))
            have w956 : 0 ≤ Xi U83 890 2 ∧ Xi U83 890 2 ≤ 20 := hHU83.c _ _
            exact ⟨hHT88, hFT88, _, rfl, ⟨by omega, by omega⟩, (by first | assumption | omega)⟩
