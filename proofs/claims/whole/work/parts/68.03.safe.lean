/-! SAFETY of methods: printed by wip/safe (vc.py, decl.py) -/
def md_gr_takePhrases : List rec := [(890, 891, 1, 2)]
abbrev Q_gr_takePhrases (S : sS) : pst := fun r S1 => HI S1 ∧ FR md_gr_takePhrases S S1 ∧ (∃ z : Int, r = some (iv z) ∧ (0 ≤ z ∧ z ≤ 1) ∧ (Xi S 890 1 ≤ Xi S1 890 1 ∧ Xi S1 890 1 ≤ Xi S 876 7) ∧ (z = 1 → SAY S1 (Xi S1 890 1)))
set_option maxRecDepth 100000 in
theorem t_gr_takePhrases {S : sS} (hH : HI S) (ha : Xi S 890 1 ≤ Xi S 876 7) (hs : SAY S (Xi S 890 1)) (d : Nat) : Mt lay0 (d + 6) m_gr_takePhrases [.ref 890] S (Q_gr_takePhrases S) := by
  refine Mt_R rfl rfl ?_
  have hF : FR md_gr_takePhrases S S := FR.rf
  have w1 : 0 ≤ Xi S 876 7 ∧ Xi S 876 7 ≤ 5125 := hH.c _ _
  have w2 : 0 ≤ Xi S 890 1 ∧ Xi S 890 1 ≤ 5126 := hH.c _ _
  have C4 : ∀ (n4 : Nat) (T1 : sS) (_ : HI T1) (_ : FR md_gr_takePhrases S T1) (v1 : Int) (v2 : Int), (0 ≤ v1 ∧ v1 ≤ 1) → (0 ≤ v2 ∧ v2 ≤ 5000) → (v1 = 1 → SAY T1 (Xi T1 890 1)) → (Xi S 890 1 ≤ Xi T1 890 1 ∧ Xi T1 890 1 ≤ Xi S 876 7) → n4 = (5001 - v2).toNat → Rl lay0 (d + 5) m_gr_takePhrases 4 [(0, .ref 890), (1, iv v1), (2, iv v2)] [] T1 (Q_gr_takePhrases S) := by
    intro n4
    induction n4 using Nat.strongRecOn with
    | ind n4 ih4 =>
      intro T1 hHT1 hFT1 v1 v2 w3 w4 hs4 w5 hm4
      have w6 : Xi T1 876 7 = Xi S 876 7 := hFT1.x _ _ rfl
      have w7 : 0 ≤ Xi T1 890 1 ∧ Xi T1 890 1 ≤ 5126 := hHT1.c _ _
      have C56 : ∀  (T2 : sS) (_ : HI T2) (_ : FR md_gr_takePhrases S T2) (v1 : Int), (0 ≤ v1 ∧ v1 ≤ 1) → (v1 = 1 → SAY T2 (Xi T2 890 1)) → (Xi S 890 1 ≤ Xi T2 890 1 ∧ Xi T2 890 1 ≤ Xi S 876 7) → Rl lay0 (d + 5) m_gr_takePhrases 56 [(1, iv v1)] [] T2 (Q_gr_takePhrases S) := by
        intro T2 hHT2 hFT2 v1 w8 hs56 w9
        have w10 : Xi T2 876 7 = Xi S 876 7 := hFT2.x _ _ rfl
        have w11 : 0 ≤ Xi T2 890 1 ∧ Xi T2 890 1 ≤ 5126 := hHT2.c _ _
        refine l_iload_n rfl rfl ?_
        refine l_ireturn rfl (retI_z (by omega)) ?_
        exact ⟨hHT2, hFT2, _, rfl, ⟨by omega, by omega⟩, (by first | assumption | omega), (by first | assumption | omega)⟩
      refine l_iload_n rfl rfl ?_
      refine l_sipush rfl rfl ?_
      refine l_icmp_ge rfl rfl (by unfold rg; omega) (by unfold rg; omega) (fun w13 => ?_) (fun w14 => ?_)
      · have w15 : 0 ≤ Xi T1 890 1 ∧ Xi T1 890 1 ≤ 5126 := hHT1.c _ _
        exact Rl_weak (C56 T1 hHT1 hFT1 (v1) (by omega) (by first | assumption | (intro _; assumption) | (intro hz; omega)) (by omega)) (And.intro rfl (True.intro))
      · refine l_iload_n rfl rfl ?_
        refine l_if_eq rfl rfl (by unfold rg; omega) (fun w16 => ?_) (fun w17 => ?_)
        · have w18 : 0 ≤ Xi T1 890 1 ∧ Xi T1 890 1 ≤ 5126 := hHT1.c _ _
          exact Rl_weak (C56 T1 hHT1 hFT1 (v1) (by omega) (by first | assumption | (intro _; assumption) | (intro hz; omega)) (by omega)) (And.intro rfl (True.intro))
        · refine l_iload_n rfl rfl ?_
          refine l_if_eq rfl rfl (by unfold rg; omega) (fun w19 => ?_) (fun w20 => ?_)
          · refine l_aload_n rfl rfl ?_
            refine l_bipush rfl rfl ?_
            have w21 : 0 ≤ Xi T1 876 7 ∧ Xi T1 876 7 ≤ 5125 := hHT1.c _ _
            refine l_callV rfl rfl rfl (t_gr_take hHT1 44 ⟨by omega, by omega⟩ (by first | assumption | omega) (by first | assumption | exact hs4 (by omega)) (by first | assumption | omega) _) ?_
            rintro _ T3 ⟨hHT3, w28, z27, rfl, w27, w23, w24, w25, w26⟩
            have hFT3 : FR md_gr_takePhrases S T3 := FR.tr hFT1 w28 rfl
            show Rl _ _ _ _ _ [iv z27] _ _
            refine l_if_eq rfl rfl (by unfold rg; omega) (fun w29 => ?_) (fun w30 => ?_)
            · refine l_aload_n rfl rfl ?_
              have w31 : Xi T3 876 7 = Xi T1 876 7 := (show Xi T3 876 7 = Xi T1 876 7 from w28.x _ _ rfl)
              have w33 : 0 ≤ Xi T3 890 1 ∧ Xi T3 890 1 ≤ 5126 := hHT3.c _ _
              refine l_callV rfl rfl rfl (t_gr_takePhrase hHT3 (by first | assumption | omega) (by first | assumption | exact hs4 (by omega)) _) ?_
              rintro _ T4 ⟨hHT4, w37, z36, rfl, w36, w34, w35⟩
              have hFT4 : FR md_gr_takePhrases S T4 := FR.tr hFT3 w37 rfl
              show Rl _ _ _ _ _ [iv z36] _ _
              refine l_istore_n rfl rfl rfl ?_
              refine l_iinc rfl rfl rfl rfl ?_
              refine l_goto rfl rfl ?_
              have w38 : 0 ≤ Xi T4 890 1 ∧ Xi T4 890 1 ≤ 5126 := hHT4.c _ _
              exact Rl_weak (ih4 _ (by omega) T4 hHT4 hFT4 (z36) ((v2 + 1)) (by omega) (by omega) (by first | assumption | (intro _; assumption)) (by omega) rfl) (And.intro rfl (And.intro rfl (And.intro rfl (True.intro))))
            · refine l_aload_n rfl rfl ?_
              refine l_iconst rfl ?_
              have w39 : Xi T3 876 7 = Xi T1 876 7 := (show Xi T3 876 7 = Xi T1 876 7 from w28.x _ _ rfl)
              have w41 : 0 ≤ Xi T3 890 1 ∧ Xi T3 890 1 ≤ 5126 := hHT3.c _ _
              refine l_callV rfl rfl rfl (t_gr_takeTest hHT3 1 ⟨by omega, by omega⟩ (by first | assumption | omega) (by first | assumption | exact hs4 (by omega)) _) ?_
              rintro _ T5 ⟨hHT5, w45, z44, rfl, w44, w42, w43⟩
              have hFT5 : FR md_gr_takePhrases S T5 := FR.tr hFT3 w45 rfl
              show Rl _ _ _ _ _ [iv z44] _ _
              refine l_goto rfl rfl ?_
              refine l_istore_n rfl rfl rfl ?_
              refine l_iinc rfl rfl rfl rfl ?_
              refine l_goto rfl rfl ?_
              have w46 : 0 ≤ Xi T5 890 1 ∧ Xi T5 890 1 ≤ 5126 := hHT5.c _ _
              exact Rl_weak (ih4 _ (by omega) T5 hHT5 hFT5 (z44) ((v2 + 1)) (by omega) (by omega) (by first | assumption | (intro _; assumption)) (by omega) rfl) (And.intro rfl (And.intro rfl (And.intro rfl (True.intro))))
          · refine l_aload_n rfl rfl ?_
            refine l_bipush rfl rfl ?_
            have w47 : 0 ≤ Xi T1 876 7 ∧ Xi T1 876 7 ≤ 5125 := hHT1.c _ _
            refine l_callV rfl rfl rfl (t_gr_take hHT1 105 ⟨by omega, by omega⟩ (by first | assumption | omega) (by first | assumption | exact hs4 (by omega)) (by first | assumption | omega) _) ?_
            rintro _ T6 ⟨hHT6, w54, z53, rfl, w53, w49, w50, w51, w52⟩
            have hFT6 : FR md_gr_takePhrases S T6 := FR.tr hFT1 w54 rfl
            show Rl _ _ _ _ _ [iv z53] _ _
            refine l_if_eq rfl rfl (by unfold rg; omega) (fun w55 => ?_) (fun w56 => ?_)
            · have w57 : 0 ≤ Xi T6 890 1 ∧ Xi T6 890 1 ≤ 5126 := hHT6.c _ _
              exact Rl_weak (C56 T6 hHT6 hFT6 (v1) (by omega) (by first | assumption | (intro _; assumption) | (intro hz; omega)) (by omega)) (And.intro rfl (True.intro))
            · refine l_aload_n rfl rfl ?_
              refine l_bipush rfl rfl ?_
              have w58 : Xi T6 876 7 = Xi T1 876 7 := (show Xi T6 876 7 = Xi T1 876 7 from w54.x _ _ rfl)
              have w60 : 0 ≤ Xi T6 890 1 ∧ Xi T6 890 1 ≤ 5126 := hHT6.c _ _
              refine l_callV rfl rfl rfl (t_gr_take hHT6 44 ⟨by omega, by omega⟩ (by first | assumption | omega) (by first | assumption | exact hs4 (by omega)) (by first | assumption | omega) _) ?_
              rintro _ T7 ⟨hHT7, w66, z65, rfl, w65, w61, w62, w63, w64⟩
              have hFT7 : FR md_gr_takePhrases S T7 := FR.tr hFT6 w66 rfl
              show Rl _ _ _ _ _ [iv z65] _ _
              refine l_if_eq rfl rfl (by unfold rg; omega) (fun w67 => ?_) (fun w68 => ?_)
              · refine l_aload_n rfl rfl ?_
                have w69 : Xi T7 876 7 = Xi T1 876 7 := (show Xi T7 876 7 = Xi T6 876 7 from w66.x _ _ rfl).trans ((show Xi T6 876 7 = Xi T1 876 7 from w54.x _ _ rfl))
                have w71 : 0 ≤ Xi T7 890 1 ∧ Xi T7 890 1 ≤ 5126 := hHT7.c _ _
                refine l_callV rfl rfl rfl (t_gr_takePhrase hHT7 (by first | assumption | omega) (by first | assumption | exact hs4 (by omega)) _) ?_
                rintro _ T8 ⟨hHT8, w75, z74, rfl, w74, w72, w73⟩
                have hFT8 : FR md_gr_takePhrases S T8 := FR.tr hFT7 w75 rfl
                show Rl _ _ _ _ _ [iv z74] _ _
                refine l_istore_n rfl rfl rfl ?_
                refine l_iinc rfl rfl rfl rfl ?_
                refine l_goto rfl rfl ?_
                have w76 : 0 ≤ Xi T8 890 1 ∧ Xi T8 890 1 ≤ 5126 := hHT8.c _ _
                exact Rl_weak (ih4 _ (by omega) T8 hHT8 hFT8 (z74) ((v2 + 1)) (by omega) (by omega) (by first | assumption | (intro _; assumption)) (by omega) rfl) (And.intro rfl (And.intro rfl (And.intro rfl (True.intro))))
              · refine l_aload_n rfl rfl ?_
                refine l_iconst rfl ?_
                have w77 : Xi T7 876 7 = Xi T1 876 7 := (show Xi T7 876 7 = Xi T6 876 7 from w66.x _ _ rfl).trans ((show Xi T6 876 7 = Xi T1 876 7 from w54.x _ _ rfl))
                have w79 : 0 ≤ Xi T7 890 1 ∧ Xi T7 890 1 ≤ 5126 := hHT7.c _ _
                refine l_callV rfl rfl rfl (t_gr_takeTest hHT7 1 ⟨by omega, by omega⟩ (by first | assumption | omega) (by first | assumption | exact hs4 (by omega)) _) ?_
                rintro _ T9 ⟨hHT9, w83, z82, rfl, w82, w80, w81⟩
                have hFT9 : FR md_gr_takePhrases S T9 := FR.tr hFT7 w83 rfl
                show Rl _ _ _ _ _ [iv z82] _ _
                refine l_goto rfl rfl ?_
                refine l_istore_n rfl rfl rfl ?_
                refine l_iinc rfl rfl rfl rfl ?_
                refine l_goto rfl rfl ?_
                have w84 : 0 ≤ Xi T9 890 1 ∧ Xi T9 890 1 ≤ 5126 := hHT9.c _ _
                exact Rl_weak (ih4 _ (by omega) T9 hHT9 hFT9 (z82) ((v2 + 1)) (by omega) (by omega) (by first | assumption | (intro _; assumption)) (by omega) rfl) (And.intro rfl (And.intro rfl (And.intro rfl (True.intro))))
  refine l_iconst rfl ?_
  refine l_istore_n rfl rfl rfl ?_
  refine l_iconst rfl ?_
  refine l_istore_n rfl rfl rfl ?_
  exact Rl_weak (C4 _ S hH hF (1) (0) (by omega) (by omega) (by first | assumption | (intro _; assumption)) (by omega) rfl) (And.intro rfl (And.intro rfl (And.intro rfl (True.intro))))
def md_gr_checkBe : List rec := [(890, 891, 1, 2), (890, 891, 2, 3)]
abbrev Q_gr_checkBe (S : sS) : pst := fun r S1 => HI S1 ∧ FR md_gr_checkBe S S1 ∧ (∃ z : Int, r = some (iv z) ∧ (0 ≤ z ∧ z ≤ 1) ∧ (9 ≤ Xi S1 890 2 ∨ z = 0))
set_option maxRecDepth 100000 in
theorem t_gr_checkBe {S : sS} (hH : HI S) (ha : Xi S 890 1 ≤ Xi S 876 7) (hs : SAY S (Xi S 890 1)) (h0 : Xi S 890 1 = 0) (d : Nat) : Mt lay0 (d + 5) m_gr_checkBe [.ref 890] S (Q_gr_checkBe S) := by
  refine Mt_R rfl rfl ?_
  have hF : FR md_gr_checkBe S S := FR.rf
  have w1 : 0 ≤ Xi S 876 7 ∧ Xi S 876 7 ≤ 5125 := hH.c _ _
  have w2 : 0 ≤ Xi S 890 1 ∧ Xi S 890 1 ≤ 5126 := hH.c _ _
  refine l_aload_n rfl rfl ?_
  refine l_gfr rfl rfl rfl rfl rfl (hH.r 890 0 876 rfl) ?_
  refine l_iconst rfl ?_
  refine l_callV rfl rfl rfl (t_to_beginsProperty hH 0 ⟨by omega, by omega⟩ _) ?_
  rintro _ _ ⟨rfl, z4, rfl, w4, w3⟩
  show Rl _ _ _ _ _ [iv z4] _ _
  refine l_if_eq rfl rfl (by unfold rg; omega) (fun w5 => ?_) (fun w6 => ?_)
  · refine l_aload_n rfl rfl ?_
    refine l_callV rfl rfl rfl (t_gr_takeList hH (by first | assumption | omega) (by first | assumption | omega) _) ?_
    rintro _ T1 ⟨hHT1, w12, z11, rfl, w11, w9, w10⟩
    have hFT1 : FR md_gr_checkBe S T1 := FR.tr hF w12 rfl
    show Rl _ _ _ _ _ [iv z11] _ _
    refine l_if_eq rfl rfl (by unfold rg; omega) (fun w13 => ?_) (fun w14 => ?_)
    · refine l_iconst rfl ?_
      refine l_ireturn rfl rfl ?_
      have w15 : Xi T1 890 2 = Xi S 890 2 := (show Xi T1 890 2 = Xi S 890 2 from w12.x _ _ rfl)
      have w16 : 0 ≤ Xi S 890 2 ∧ Xi S 890 2 ≤ 20 := hH.c _ _
      exact ⟨hHT1, hFT1, _, rfl, ⟨by omega, by omega⟩, (by first | assumption | omega)⟩
    · refine l_aload_n rfl rfl ?_
      have w17 : Xi T1 876 7 = Xi S 876 7 := (show Xi T1 876 7 = Xi S 876 7 from w12.x _ _ rfl)
      have w19 : 0 ≤ Xi T1 890 1 ∧ Xi T1 890 1 ≤ 5126 := hHT1.c _ _
      refine l_callV rfl rfl rfl (t_gr_takeBe hHT1 (by first | assumption | omega) (by first | assumption | omega) _) ?_
      rintro _ T2 ⟨hHT2, w23, z22, rfl, w22, w20, w21⟩
      have hFT2 : FR md_gr_checkBe S T2 := FR.tr hFT1 w23 rfl
      show Rl _ _ _ _ _ [iv z22] _ _
      refine l_if_ne rfl rfl (by unfold rg; omega) (fun w24 => ?_) (fun w25 => ?_)
      · refine l_aload_n rfl rfl ?_
        refine l_gfr rfl rfl rfl rfl rfl (hHT2.r 890 0 876 rfl) ?_
        refine l_aload_n rfl rfl ?_
        refine l_gfi rfl rfl rfl rfl rfl ?_
        have w26 : 0 ≤ (Xi T2 890 1) ∧ (Xi T2 890 1) ≤ 5126 := hHT2.c _ _
        have w27 : Xi T2 876 7 = Xi S 876 7 := (show Xi T2 876 7 = Xi T1 876 7 from w23.x _ _ rfl).trans ((show Xi T1 876 7 = Xi S 876 7 from w12.x _ _ rfl))
        refine l_callV rfl rfl rfl (t_to_typeAt hHT2 (Xi T2 890 1) ⟨by omega, by omega⟩ _) ?_
        rintro _ _ ⟨rfl, z32, rfl, w32, w29, w30, w31⟩
        show Rl _ _ _ _ _ [iv z32] _ _
        refine l_istore_n rfl rfl rfl ?_
        refine l_aload_n rfl rfl ?_
        refine l_gfr rfl rfl rfl rfl rfl (hHT2.r 890 0 876 rfl) ?_
        refine l_aload_n rfl rfl ?_
        refine l_gfi rfl rfl rfl rfl rfl ?_
        refine l_iconst rfl ?_
        refine l_iadd rfl ?_
        refine l_callV rfl rfl rfl (t_to_typeAt hHT2 ((Xi T2 890 1) + 1) ⟨by omega, by omega⟩ _) ?_
        rintro _ _ ⟨rfl, z38, rfl, w38, w35, w36, w37⟩
        show Rl _ _ _ _ _ [iv z38] _ _
        refine l_istore_n rfl rfl rfl ?_
        refine l_iload_n rfl rfl ?_
        refine l_if_ne rfl rfl (by unfold rg; omega) (fun w39 => ?_) (fun w40 => ?_)
        · refine l_iload_n rfl rfl ?_
          refine l_iconst rfl ?_
          refine l_icmp_ne rfl rfl (by unfold rg; omega) (by unfold rg; omega) (fun w41 => ?_) (fun w42 => ?_)
          · refine l_iload_n rfl rfl ?_
            refine l_callS rfl rfl (by decide) rfl (t_rs_isArt hHT2 z32 ⟨by omega, by omega⟩ _) ?_
            rintro _ _ ⟨rfl, z44, rfl, w44, w43⟩
            show Rl _ _ _ _ _ [iv z44] _ _
            refine l_if_eq rfl rfl (by unfold rg; omega) (fun w45 => ?_) (fun w46 => ?_)
            · refine l_aload_n rfl rfl ?_
              have w49 : 0 ≤ Xi T2 890 1 ∧ Xi T2 890 1 ≤ 5126 := hHT2.c _ _
              refine l_callV rfl rfl rfl (t_gr_atPlace hHT2 _) ?_
              rintro _ _ ⟨rfl, z51, rfl, w51, w50⟩
              show Rl _ _ _ _ _ [iv z51] _ _
              refine l_if_eq rfl rfl (by unfold rg; omega) (fun w52 => ?_) (fun w53 => ?_)
              · refine l_aload_n rfl rfl ?_
                refine l_aload_n rfl rfl ?_
                refine l_bipush rfl rfl ?_
                refine l_callV rfl rfl rfl (t_gr_take hHT2 6 ⟨by omega, by omega⟩ (by first | assumption | omega) (by first | assumption | omega) (by first | assumption | omega) _) ?_
                rintro _ T3 ⟨hHT3, w62, z61, rfl, w61, w57, w58, w59, w60⟩
                have hFT3 : FR md_gr_checkBe S T3 := FR.tr hFT2 w62 rfl
                show Rl _ _ _ _ _ [iv z61, .ref 890] _ _
                refine l_if_ne rfl rfl (by unfold rg; omega) (fun w63 => ?_) (fun w64 => ?_)
                · refine l_iconst rfl ?_
                  refine l_goto rfl rfl ?_
                  have w65 : Xi T3 876 7 = Xi S 876 7 := (show Xi T3 876 7 = Xi T2 876 7 from w62.x _ _ rfl).trans ( (show Xi T2 876 7 = Xi T1 876 7 from w23.x _ _ rfl).trans ((show Xi T1 876 7 = Xi S 876 7 from w12.x _ _ rfl)))
                  have w67 : 0 ≤ Xi T3 890 1 ∧ Xi T3 890 1 ≤ 5126 := hHT3.c _ _
                  refine l_callV rfl rfl rfl (t_gr_checkRuns hHT3 1 ⟨by omega, by omega⟩ (by first | assumption | omega) (by first | assumption | omega) _) ?_
                  rintro _ T4 ⟨hHT4, w72, z71, rfl, w71, w68, w69, w70⟩
                  have hFT4 : FR md_gr_checkBe S T4 := FR.tr hFT3 w72 rfl
                  show Rl _ _ _ _ _ [iv z71] _ _
                  refine l_ireturn rfl (retI_z (by omega)) ?_
                  have w73 : 0 ≤ Xi T4 890 2 ∧ Xi T4 890 2 ≤ 20 := hHT4.c _ _
                  exact ⟨hHT4, hFT4, _, rfl, ⟨by omega, by omega⟩, (by first | assumption | omega)⟩
                · refine l_aload_n rfl rfl ?_
                  refine l_bipush rfl rfl ?_
                  have w74 : Xi T3 876 7 = Xi S 876 7 := (show Xi T3 876 7 = Xi T2 876 7 from w62.x _ _ rfl).trans ( (show Xi T2 876 7 = Xi T1 876 7 from w23.x _ _ rfl).trans ((show Xi T1 876 7 = Xi S 876 7 from w12.x _ _ rfl)))
                  have w76 : 0 ≤ Xi T3 890 1 ∧ Xi T3 890 1 ≤ 5126 := hHT3.c _ _
                  refine l_callV rfl rfl rfl (t_gr_take hHT3 32 ⟨by omega, by omega⟩ (by first | assumption | omega) (by first | assumption | omega) (by first | assumption | omega) _) ?_
                  rintro _ T5 ⟨hHT5, w82, z81, rfl, w81, w77, w78, w79, w80⟩
                  have hFT5 : FR md_gr_checkBe S T5 := FR.tr hFT3 w82 rfl
                  show Rl _ _ _ _ _ [iv z81, .ref 890] _ _
                  refine l_if_eq rfl rfl (by unfold rg; omega) (fun w83 => ?_) (fun w84 => ?_)
                  · refine l_iconst rfl ?_
                    have w85 : Xi T5 876 7 = Xi S 876 7 := (show Xi T5 876 7 = Xi T3 876 7 from w82.x _ _ rfl).trans ( (show Xi T3 876 7 = Xi T2 876 7 from w62.x _ _ rfl).trans ( (show Xi T2 876 7 = Xi T1 876 7 from w23.x _ _ rfl).trans ((show Xi T1 876 7 = Xi S 876 7 from w12.x _ _ rfl))))
                    have w87 : 0 ≤ Xi T5 890 1 ∧ Xi T5 890 1 ≤ 5126 := hHT5.c _ _
                    refine l_callV rfl rfl rfl (t_gr_checkRuns hHT5 0 ⟨by omega, by omega⟩ (by first | assumption | omega) (by first | assumption | omega) _) ?_
                    rintro _ T6 ⟨hHT6, w92, z91, rfl, w91, w88, w89, w90⟩
                    have hFT6 : FR md_gr_checkBe S T6 := FR.tr hFT5 w92 rfl
                    show Rl _ _ _ _ _ [iv z91] _ _
                    refine l_ireturn rfl (retI_z (by omega)) ?_
                    have w93 : 0 ≤ Xi T6 890 2 ∧ Xi T6 890 2 ≤ 20 := hHT6.c _ _
                    exact ⟨hHT6, hFT6, _, rfl, ⟨by omega, by omega⟩, (by first | assumption | omega)⟩
                  · refine l_iconst rfl ?_
                    refine l_goto rfl rfl ?_
                    have w94 : Xi T5 876 7 = Xi S 876 7 := (show Xi T5 876 7 = Xi T3 876 7 from w82.x _ _ rfl).trans ( (show Xi T3 876 7 = Xi T2 876 7 from w62.x _ _ rfl).trans ( (show Xi T2 876 7 = Xi T1 876 7 from w23.x _ _ rfl).trans ((show Xi T1 876 7 = Xi S 876 7 from w12.x _ _ rfl))))
                    have w96 : 0 ≤ Xi T5 890 1 ∧ Xi T5 890 1 ≤ 5126 := hHT5.c _ _
                    refine l_callV rfl rfl rfl (t_gr_checkRuns hHT5 1 ⟨by omega, by omega⟩ (by first | assumption | omega) (by first | assumption | omega) _) ?_
                    rintro _ T7 ⟨hHT7, w101, z100, rfl, w100, w97, w98, w99⟩
                    have hFT7 : FR md_gr_checkBe S T7 := FR.tr hFT5 w101 rfl
                    show Rl _ _ _ _ _ [iv z100] _ _
                    refine l_ireturn rfl (retI_z (by omega)) ?_
                    have w102 : 0 ≤ Xi T7 890 2 ∧ Xi T7 890 2 ≤ 20 := hHT7.c _ _
                    exact ⟨hHT7, hFT7, _, rfl, ⟨by omega, by omega⟩, (by first | assumption | omega)⟩
              · refine l_aload_n rfl rfl ?_
                refine l_bipush rfl rfl ?_
                refine l_pfi rfl rfl rfl rfl ?_
                obtain ⟨U8, eU8⟩ : ∃ T : sS, T = uI T2 890 2 (Int32.ofInt 13) := ⟨_, rfl⟩
                rw [← eU8]
                have hHU8 : HI U8 := by rw [eU8]; exact HI_w hHT2 (show 0 ≤ 13 by omega) (show 13 ≤ 20 by omega)
                have hFU8 : FR md_gr_checkBe S U8 := by rw [eU8]; exact FR.wI hFT2 (mdf_i (r := (890, 891, 2, 3)) (List.mem_of_getElem? (i := 1) rfl) (inR_i (by omega) (by omega) (by omega) (by omega)))
                have w103 : Xi U8 890 2 = 13 := by rw [eU8]; exact Xi_same (by unfold rg; omega)
                have hso321 : SAY U8 (Xi U8 890 1) := SAY_sort eU8 (by assumption) (by decide)
                refine l_aload_n rfl rfl ?_
                refine l_iconst rfl ?_
                have w104 : Xi U8 876 7 = Xi S 876 7 := (show Xi U8 876 7 = Xi T2 876 7 from by rw [eU8]; exact Xi_ne (by omega)).trans ( (show Xi T2 876 7 = Xi T1 876 7 from w23.x _ _ rfl).trans ((show Xi T1 876 7 = Xi S 876 7 from w12.x _ _ rfl)))
                have w106 : Xi U8 890 1 = Xi T2 890 1 := (show Xi U8 890 1 = Xi T2 890 1 from by rw [eU8]; exact Xi_ne (by omega))
                refine l_callV rfl rfl rfl (t_gr_takePlace hHU8 0 ⟨by omega, by omega⟩ (by first | assumption | omega) (by first | assumption | omega) (by first | omega | exact ⟨by omega, by rw [x877 eU8, show (Xi U8 890 1).toNat = (Xi T2 890 1).toNat by omega]; omega⟩) _) ?_
                rintro _ T9 ⟨hHT9, w111, z110, rfl, w110, w108, w109⟩
                have hFT9 : FR md_gr_checkBe S T9 := FR.tr hFU8 w111 rfl
                show Rl _ _ _ _ _ [iv z110] _ _
                refine l_if_eq rfl rfl (by unfold rg; omega) (fun w112 => ?_) (fun w113 => ?_)
                · refine l_iconst rfl ?_
                  refine l_ireturn rfl rfl ?_
                  have w114 : Xi T9 890 2 = Xi U8 890 2 := (show Xi T9 890 2 = Xi U8 890 2 from w111.x _ _ rfl)
                  have w115 : 0 ≤ Xi U8 890 2 ∧ Xi U8 890 2 ≤ 20 := hHU8.c _ _
                  exact ⟨hHT9, hFT9, _, rfl, ⟨by omega, by omega⟩, (by first | assumption | omega)⟩
                · refine l_aload_n rfl rfl ?_
                  refine l_bipush rfl rfl ?_
                  have w116 : Xi T9 876 7 = Xi S 876 7 := (show Xi T9 876 7 = Xi U8 876 7 from w111.x _ _ rfl).trans ( (show Xi U8 876 7 = Xi T2 876 7 from by rw [eU8]; exact Xi_ne (by omega)).trans ( (show Xi T2 876 7 = Xi T1 876 7 from w23.x _ _ rfl).trans ((show Xi T1 876 7 = Xi S 876 7 from w12.x _ _ rfl))))
                  have w118 : 0 ≤ Xi T9 890 1 ∧ Xi T9 890 1 ≤ 5126 := hHT9.c _ _
                  refine l_callV rfl rfl rfl (t_gr_take hHT9 103 ⟨by omega, by omega⟩ (by first | assumption | omega) (by first | assumption | omega) (by first | assumption | omega) _) ?_
                  rintro _ T10 ⟨hHT10, w124, z123, rfl, w123, w119, w120, w121, w122⟩
                  have hFT10 : FR md_gr_checkBe S T10 := FR.tr hFT9 w124 rfl
                  show Rl _ _ _ _ _ [iv z123] _ _
                  refine l_if_eq rfl rfl (by unfold rg; omega) (fun w125 => ?_) (fun w126 => ?_)
                  · refine l_iconst rfl ?_
                    refine l_ireturn rfl rfl ?_
                    have w127 : Xi T10 890 2 = Xi U8 890 2 := (show Xi T10 890 2 = Xi T9 890 2 from w124.x _ _ rfl).trans ((show Xi T9 890 2 = Xi U8 890 2 from w111.x _ _ rfl))
                    have w128 : 0 ≤ Xi U8 890 2 ∧ Xi U8 890 2 ≤ 20 := hHU8.c _ _
                    exact ⟨hHT10, hFT10, _, rfl, ⟨by omega, by omega⟩, (by first | assumption | omega)⟩
                  · refine l_iconst rfl ?_
                    refine l_goto rfl rfl ?_
                    refine l_ireturn rfl rfl ?_
                    have w129 : Xi T10 890 2 = Xi U8 890 2 := (show Xi T10 890 2 = Xi T9 890 2 from w124.x _ _ rfl).trans ((show Xi T9 890 2 = Xi U8 890 2 from w111.x _ _ rfl))
                    have w130 : 0 ≤ Xi U8 890 2 ∧ Xi U8 890 2 ≤ 20 := hHU8.c _ _
                    exact ⟨hHT10, hFT10, _, rfl, ⟨by omega, by omega⟩, (by first | assumption | omega)⟩
            · refine l_aload_n rfl rfl ?_
              refine l_bipush rfl rfl ?_
              refine l_pfi rfl rfl rfl rfl ?_
              obtain ⟨U11, eU11⟩ : ∃ T : sS, T = uI T2 890 2 (Int32.ofInt 12) := ⟨_, rfl⟩
              rw [← eU11]
              have hHU11 : HI U11 := by rw [eU11]; exact HI_w hHT2 (show 0 ≤ 12 by omega) (show 12 ≤ 20 by omega)
              have hFU11 : FR md_gr_checkBe S U11 := by rw [eU11]; exact FR.wI hFT2 (mdf_i (r := (890, 891, 2, 3)) (List.mem_of_getElem? (i := 1) rfl) (inR_i (by omega) (by omega) (by omega) (by omega)))
              have w131 : Xi U11 890 2 = 12 := by rw [eU11]; exact Xi_same (by unfold rg; omega)
              have hso261 : SAY U11 (Xi U11 890 1) := SAY_sort eU11 (by assumption) (by decide)
              refine l_aload_n rfl rfl ?_
              refine l_dup rfl rfl ?_
              refine l_gfi rfl rfl rfl rfl rfl ?_
              have w132 : (Xi U11 890 1) = (Xi T2 890 1) := (show Xi U11 890 1 = Xi T2 890 1 from by rw [eU11]; exact Xi_ne (by omega))
              rw [w132]
              refine l_iconst rfl ?_
              refine l_iadd rfl ?_
              refine l_pfi rfl rfl rfl rfl ?_
              obtain ⟨U12, eU12⟩ : ∃ T : sS, T = uI U11 890 1 (Int32.ofInt ((Xi T2 890 1) + 1)) := ⟨_, rfl⟩
              rw [← eU12]
              have hHU12 : HI U12 := by rw [eU12]; exact HI_w hHU11 (show 0 ≤ ((Xi T2 890 1) + 1) by omega) (show ((Xi T2 890 1) + 1) ≤ 5126 by omega)
              have hFU12 : FR md_gr_checkBe S U12 := by rw [eU12]; exact FR.wI hFU11 (mdf_i (r := (890, 891, 1, 2)) (List.mem_of_getElem? (i := 0) rfl) (inR_i (by omega) (by omega) (by omega) (by omega)))
              have w133 : Xi U12 890 1 = ((Xi T2 890 1) + 1) := by rw [eU12]; exact Xi_same (by unfold rg; omega)
              have hs271 : SAY U12 (Xi U12 890 1) := SAY_1x eU11 eU12 (by omega) (by assumption) (by omega) (by omega) (by omega)
              refine l_aload_n rfl rfl ?_
              have w134 : Xi U12 876 7 = Xi S 876 7 := (show Xi U12 876 7 = Xi U11 876 7 from by rw [eU12]; exact Xi_ne (by omega)).trans ( (show Xi U11 876 7 = Xi T2 876 7 from by rw [eU11]; exact Xi_ne (by omega)).trans ( (show Xi T2 876 7 = Xi T1 876 7 from w23.x _ _ rfl).trans ((show Xi T1 876 7 = Xi S 876 7 from w12.x _ _ rfl))))
              have w136 : 0 ≤ Xi U12 890 1 ∧ Xi U12 890 1 ≤ 5126 := hHU12.c _ _
              refine l_callV rfl rfl rfl (t_gr_takeRun hHU12 (by first | assumption | omega) (by first | assumption | omega) _) ?_
              rintro _ T13 ⟨hHT13, w141, z140, rfl, w140, w137, w138, w139⟩
              have hFT13 : FR md_gr_checkBe S T13 := FR.tr hFU12 w141 rfl
              show Rl _ _ _ _ _ [iv z140] _ _
              refine l_if_eq rfl rfl (by unfold rg; omega) (fun w142 => ?_) (fun w143 => ?_)
              · refine l_iconst rfl ?_
                refine l_ireturn rfl rfl ?_
                have w144 : Xi T13 890 2 = Xi U11 890 2 := (show Xi T13 890 2 = Xi U12 890 2 from w141.x _ _ rfl).trans ((show Xi U12 890 2 = Xi U11 890 2 from by rw [eU12]; exact Xi_ne (by omega)))
                have w145 : 0 ≤ Xi U11 890 2 ∧ Xi U11 890 2 ≤ 20 := hHU11.c _ _
                exact ⟨hHT13, hFT13, _, rfl, ⟨by omega, by omega⟩, (by first | assumption | omega)⟩
              · refine l_aload_n rfl rfl ?_
                have w146 : Xi T13 876 7 = Xi S 876 7 := (show Xi T13 876 7 = Xi U12 876 7 from w141.x _ _ rfl).trans ( (show Xi U12 876 7 = Xi U11 876 7 from by rw [eU12]; exact Xi_ne (by omega)).trans ( (show Xi U11 876 7 = Xi T2 876 7 from by rw [eU11]; exact Xi_ne (by omega)).trans ( (show Xi T2 876 7 = Xi T1 876 7 from w23.x _ _ rfl).trans ((show Xi T1 876 7 = Xi S 876 7 from w12.x _ _ rfl)))))
                have w148 : 0 ≤ Xi T13 890 1 ∧ Xi T13 890 1 ≤ 5126 := hHT13.c _ _
                refine l_callV rfl rfl rfl (t_gr_atPlace hHT13 _) ?_
                rintro _ _ ⟨rfl, z150, rfl, w150, w149⟩
                show Rl _ _ _ _ _ [iv z150] _ _
                refine l_if_eq rfl rfl (by unfold rg; omega) (fun w151 => ?_) (fun w152 => ?_)
                · refine l_aload_n rfl rfl ?_
                  refine l_bipush rfl rfl ?_
                  refine l_callV rfl rfl rfl (t_gr_take hHT13 103 ⟨by omega, by omega⟩ (by first | assumption | omega) (by first | assumption | omega) (by first | assumption | omega) _) ?_
                  rintro _ T14 ⟨hHT14, w161, z160, rfl, w160, w156, w157, w158, w159⟩
                  have hFT14 : FR md_gr_checkBe S T14 := FR.tr hFT13 w161 rfl
                  show Rl _ _ _ _ _ [iv z160] _ _
                  refine l_if_eq rfl rfl (by unfold rg; omega) (fun w162 => ?_) (fun w163 => ?_)
                  · refine l_iconst rfl ?_
                    refine l_ireturn rfl rfl ?_
                    have w164 : Xi T14 890 2 = Xi U11 890 2 := (show Xi T14 890 2 = Xi T13 890 2 from w161.x _ _ rfl).trans ( (show Xi T13 890 2 = Xi U12 890 2 from w141.x _ _ rfl).trans ((show Xi U12 890 2 = Xi U11 890 2 from by rw [eU12]; exact Xi_ne (by omega))))
                    have w165 : 0 ≤ Xi U11 890 2 ∧ Xi U11 890 2 ≤ 20 := hHU11.c _ _
                    exact ⟨hHT14, hFT14, _, rfl, ⟨by omega, by omega⟩, (by first | assumption | omega)⟩
                  · refine l_iconst rfl ?_
                    refine l_goto rfl rfl ?_
                    refine l_ireturn rfl rfl ?_
                    have w166 : Xi T14 890 2 = Xi U11 890 2 := (show Xi T14 890 2 = Xi T13 890 2 from w161.x _ _ rfl).trans ( (show Xi T13 890 2 = Xi U12 890 2 from w141.x _ _ rfl).trans ((show Xi U12 890 2 = Xi U11 890 2 from by rw [eU12]; exact Xi_ne (by omega))))
                    have w167 : 0 ≤ Xi U11 890 2 ∧ Xi U11 890 2 ≤ 20 := hHU11.c _ _
                    exact ⟨hHT14, hFT14, _, rfl, ⟨by omega, by omega⟩, (by first | assumption | omega)⟩
                · refine l_aload_n rfl rfl ?_
                  refine l_iconst rfl ?_
                  refine l_callV rfl rfl rfl (t_gr_takePlace hHT13 0 ⟨by omega, by omega⟩ (by first | assumption | omega) (by first | assumption | omega) (by first | omega | exact ⟨by omega, by rw [x877 rfl, show (Xi T13 890 1).toNat = (Xi U12 890 1).toNat by omega]; omega⟩) _) ?_
                  rintro _ T15 ⟨hHT15, w174, z173, rfl, w173, w171, w172⟩
                  have hFT15 : FR md_gr_checkBe S T15 := FR.tr hFT13 w174 rfl
                  show Rl _ _ _ _ _ [iv z173] _ _
                  refine l_if_eq rfl rfl (by unfold rg; omega) (fun w175 => ?_) (fun w176 => ?_)
                  · refine l_iconst rfl ?_
                    refine l_ireturn rfl rfl ?_
                    have w177 : Xi T15 890 2 = Xi U11 890 2 := (show Xi T15 890 2 = Xi T13 890 2 from w174.x _ _ rfl).trans ( (show Xi T13 890 2 = Xi U12 890 2 from w141.x _ _ rfl).trans ((show Xi U12 890 2 = Xi U11 890 2 from by rw [eU12]; exact Xi_ne (by omega))))
                    have w178 : 0 ≤ Xi U11 890 2 ∧ Xi U11 890 2 ≤ 20 := hHU11.c _ _
                    exact ⟨hHT15, hFT15, _, rfl, ⟨by omega, by omega⟩, (by first | assumption | omega)⟩
                  · refine l_aload_n rfl rfl ?_
                    refine l_bipush rfl rfl ?_
                    have w179 : Xi T15 876 7 = Xi S 876 7 := (show Xi T15 876 7 = Xi T13 876 7 from w174.x _ _ rfl).trans ( (show Xi T13 876 7 = Xi U12 876 7 from w141.x _ _ rfl).trans ( (show Xi U12 876 7 = Xi U11 876 7 from by rw [eU12]; exact Xi_ne (by omega)).trans ( (show Xi U11 876 7 = Xi T2 876 7 from by rw [eU11]; exact Xi_ne (by omega)).trans ( (show Xi T2 876 7 = Xi T1 876 7 from w23.x _ _ rfl).trans ((show Xi T1 876 7 = Xi S 876 7 from w12.x _ _ rfl))))))
                    have w181 : 0 ≤ Xi T15 890 1 ∧ Xi T15 890 1 ≤ 5126 := hHT15.c _ _
                    refine l_callV rfl rfl rfl (t_gr_take hHT15 103 ⟨by omega, by omega⟩ (by first | assumption | omega) (by first | assumption | omega) (by first | assumption | omega) _) ?_
                    rintro _ T16 ⟨hHT16, w187, z186, rfl, w186, w182, w183, w184, w185⟩
                    have hFT16 : FR md_gr_checkBe S T16 := FR.tr hFT15 w187 rfl
                    show Rl _ _ _ _ _ [iv z186] _ _
                    refine l_if_eq rfl rfl (by unfold rg; omega) (fun w188 => ?_) (fun w189 => ?_)
                    · refine l_iconst rfl ?_
                      refine l_ireturn rfl rfl ?_
                      have w190 : Xi T16 890 2 = Xi U11 890 2 := (show Xi T16 890 2 = Xi T15 890 2 from w187.x _ _ rfl).trans ( (show Xi T15 890 2 = Xi T13 890 2 from w174.x _ _ rfl).trans ( (show Xi T13 890 2 = Xi U12 890 2 from w141.x _ _ rfl).trans ((show Xi U12 890 2 = Xi U11 890 2 from by rw [eU12]; exact Xi_ne (by omega)))))
                      have w191 : 0 ≤ Xi U11 890 2 ∧ Xi U11 890 2 ≤ 20 := hHU11.c _ _
                      exact ⟨hHT16, hFT16, _, rfl, ⟨by omega, by omega⟩, (by first | assumption | omega)⟩
                    · refine l_iconst rfl ?_
                      refine l_goto rfl rfl ?_
                      refine l_ireturn rfl rfl ?_
                      have w192 : Xi T16 890 2 = Xi U11 890 2 := (show Xi T16 890 2 = Xi T15 890 2 from w187.x _ _ rfl).trans ( (show Xi T15 890 2 = Xi T13 890 2 from w174.x _ _ rfl).trans ( (show Xi T13 890 2 = Xi U12 890 2 from w141.x _ _ rfl).trans ((show Xi U12 890 2 = Xi U11 890 2 from by rw [eU12]; exact Xi_ne (by omega)))))
                      have w193 : 0 ≤ Xi U11 890 2 ∧ Xi U11 890 2 ≤ 20 := hHU11.c _ _
                      exact ⟨hHT16, hFT16, _, rfl, ⟨by omega, by omega⟩, (by first | assumption | omega)⟩
          · refine l_iload_n rfl rfl ?_
            refine l_bipush rfl rfl ?_
            refine l_icmp_ne rfl rfl (by unfold rg; omega) (by unfold rg; omega) (fun w194 => ?_) (fun w195 => ?_)
            · refine l_iload_n rfl rfl ?_
              refine l_callS rfl rfl (by decide) rfl (t_rs_isArt hHT2 z32 ⟨by omega, by omega⟩ _) ?_
              rintro _ _ ⟨rfl, z197, rfl, w197, w196⟩
              show Rl _ _ _ _ _ [iv z197] _ _
              refine l_if_eq rfl rfl (by unfold rg; omega) (fun w198 => ?_) (fun w199 => ?_)
              · refine l_aload_n rfl rfl ?_
                have w202 : 0 ≤ Xi T2 890 1 ∧ Xi T2 890 1 ≤ 5126 := hHT2.c _ _
                refine l_callV rfl rfl rfl (t_gr_atPlace hHT2 _) ?_
                rintro _ _ ⟨rfl, z204, rfl, w204, w203⟩
                show Rl _ _ _ _ _ [iv z204] _ _
                refine l_if_eq rfl rfl (by unfold rg; omega) (fun w205 => ?_) (fun w206 => ?_)
                · refine l_aload_n rfl rfl ?_
                  refine l_aload_n rfl rfl ?_
                  refine l_bipush rfl rfl ?_
                  refine l_callV rfl rfl rfl (t_gr_take hHT2 6 ⟨by omega, by omega⟩ (by first | assumption | omega) (by first | assumption | omega) (by first | assumption | omega) _) ?_
                  rintro _ T17 ⟨hHT17, w215, z214, rfl, w214, w210, w211, w212, w213⟩
                  have hFT17 : FR md_gr_checkBe S T17 := FR.tr hFT2 w215 rfl
                  show Rl _ _ _ _ _ [iv z214, .ref 890] _ _
                  refine l_if_ne rfl rfl (by unfold rg; omega) (fun w216 => ?_) (fun w217 => ?_)
                  · refine l_iconst rfl ?_
                    refine l_goto rfl rfl ?_
                    have w218 : Xi T17 876 7 = Xi S 876 7 := (show Xi T17 876 7 = Xi T2 876 7 from w215.x _ _ rfl).trans ( (show Xi T2 876 7 = Xi T1 876 7 from w23.x _ _ rfl).trans ((show Xi T1 876 7 = Xi S 876 7 from w12.x _ _ rfl)))
                    have w220 : 0 ≤ Xi T17 890 1 ∧ Xi T17 890 1 ≤ 5126 := hHT17.c _ _
                    refine l_callV rfl rfl rfl (t_gr_checkRuns hHT17 1 ⟨by omega, by omega⟩ (by first | assumption | omega) (by first | assumption | omega) _) ?_
                    rintro _ T18 ⟨hHT18, w225, z224, rfl, w224, w221, w222, w223⟩
                    have hFT18 : FR md_gr_checkBe S T18 := FR.tr hFT17 w225 rfl
                    show Rl _ _ _ _ _ [iv z224] _ _
                    refine l_ireturn rfl (retI_z (by omega)) ?_
                    have w226 : 0 ≤ Xi T18 890 2 ∧ Xi T18 890 2 ≤ 20 := hHT18.c _ _
                    exact ⟨hHT18, hFT18, _, rfl, ⟨by omega, by omega⟩, (by first | assumption | omega)⟩
                  · refine l_aload_n rfl rfl ?_
                    refine l_bipush rfl rfl ?_
                    have w227 : Xi T17 876 7 = Xi S 876 7 := (show Xi T17 876 7 = Xi T2 876 7 from w215.x _ _ rfl).trans ( (show Xi T2 876 7 = Xi T1 876 7 from w23.x _ _ rfl).trans ((show Xi T1 876 7 = Xi S 876 7 from w12.x _ _ rfl)))
                    have w229 : 0 ≤ Xi T17 890 1 ∧ Xi T17 890 1 ≤ 5126 := hHT17.c _ _
                    refine l_callV rfl rfl rfl (t_gr_take hHT17 32 ⟨by omega, by omega⟩ (by first | assumption | omega) (by first | assumption | omega) (by first | assumption | omega) _) ?_
                    rintro _ T19 ⟨hHT19, w235, z234, rfl, w234, w230, w231, w232, w233⟩
                    have hFT19 : FR md_gr_checkBe S T19 := FR.tr hFT17 w235 rfl
                    show Rl _ _ _ _ _ [iv z234, .ref 890] _ _
                    refine l_if_eq rfl rfl (by unfold rg; omega) (fun w236 => ?_) (fun w237 => ?_)
                    · refine l_iconst rfl ?_
                      have w238 : Xi T19 876 7 = Xi S 876 7 := (show Xi T19 876 7 = Xi T17 876 7 from w235.x _ _ rfl).trans ( (show Xi T17 876 7 = Xi T2 876 7 from w215.x _ _ rfl).trans ( (show Xi T2 876 7 = Xi T1 876 7 from w23.x _ _ rfl).trans ((show Xi T1 876 7 = Xi S 876 7 from w12.x _ _ rfl))))
                      have w240 : 0 ≤ Xi T19 890 1 ∧ Xi T19 890 1 ≤ 5126 := hHT19.c _ _
                      refine l_callV rfl rfl rfl (t_gr_checkRuns hHT19 0 ⟨by omega, by omega⟩ (by first | assumption | omega) (by first | assumption | omega) _) ?_
                      rintro _ T20 ⟨hHT20, w245, z244, rfl, w244, w241, w242, w243⟩
                      have hFT20 : FR md_gr_checkBe S T20 := FR.tr hFT19 w245 rfl
                      show Rl _ _ _ _ _ [iv z244] _ _
                      refine l_ireturn rfl (retI_z (by omega)) ?_
                      have w246 : 0 ≤ Xi T20 890 2 ∧ Xi T20 890 2 ≤ 20 := hHT20.c _ _
                      exact ⟨hHT20, hFT20, _, rfl, ⟨by omega, by omega⟩, (by first | assumption | omega)⟩
                    · refine l_iconst rfl ?_
                      refine l_goto rfl rfl ?_
                      have w247 : Xi T19 876 7 = Xi S 876 7 := (show Xi T19 876 7 = Xi T17 876 7 from w235.x _ _ rfl).trans ( (show Xi T17 876 7 = Xi T2 876 7 from w215.x _ _ rfl).trans ( (show Xi T2 876 7 = Xi T1 876 7 from w23.x _ _ rfl).trans ((show Xi T1 876 7 = Xi S 876 7 from w12.x _ _ rfl))))
                      have w249 : 0 ≤ Xi T19 890 1 ∧ Xi T19 890 1 ≤ 5126 := hHT19.c _ _
                      refine l_callV rfl rfl rfl (t_gr_checkRuns hHT19 1 ⟨by omega, by omega⟩ (by first | assumption | omega) (by first | assumption | omega) _) ?_
                      rintro _ T21 ⟨hHT21, w254, z253, rfl, w253, w250, w251, w252⟩
                      have hFT21 : FR md_gr_checkBe S T21 := FR.tr hFT19 w254 rfl
                      show Rl _ _ _ _ _ [iv z253] _ _
                      refine l_ireturn rfl (retI_z (by omega)) ?_
                      have w255 : 0 ≤ Xi T21 890 2 ∧ Xi T21 890 2 ≤ 20 := hHT21.c _ _
                      exact ⟨hHT21, hFT21, _, rfl, ⟨by omega, by omega⟩, (by first | assumption | omega)⟩
                · refine l_aload_n rfl rfl ?_
                  refine l_bipush rfl rfl ?_
                  refine l_pfi rfl rfl rfl rfl ?_
                  obtain ⟨U22, eU22⟩ : ∃ T : sS, T = uI T2 890 2 (Int32.ofInt 13) := ⟨_, rfl⟩
                  rw [← eU22]
                  have hHU22 : HI U22 := by rw [eU22]; exact HI_w hHT2 (show 0 ≤ 13 by omega) (show 13 ≤ 20 by omega)
                  have hFU22 : FR md_gr_checkBe S U22 := by rw [eU22]; exact FR.wI hFT2 (mdf_i (r := (890, 891, 2, 3)) (List.mem_of_getElem? (i := 1) rfl) (inR_i (by omega) (by omega) (by omega) (by omega)))
                  have w256 : Xi U22 890 2 = 13 := by rw [eU22]; exact Xi_same (by unfold rg; omega)
                  have hso321 : SAY U22 (Xi U22 890 1) := SAY_sort eU22 (by assumption) (by decide)
                  refine l_aload_n rfl rfl ?_
                  refine l_iconst rfl ?_
                  have w257 : Xi U22 876 7 = Xi S 876 7 := (show Xi U22 876 7 = Xi T2 876 7 from by rw [eU22]; exact Xi_ne (by omega)).trans ( (show Xi T2 876 7 = Xi T1 876 7 from w23.x _ _ rfl).trans ((show Xi T1 876 7 = Xi S 876 7 from w12.x _ _ rfl)))
                  have w259 : Xi U22 890 1 = Xi T2 890 1 := (show Xi U22 890 1 = Xi T2 890 1 from by rw [eU22]; exact Xi_ne (by omega))
                  refine l_callV rfl rfl rfl (t_gr_takePlace hHU22 0 ⟨by omega, by omega⟩ (by first | assumption | omega) (by first | assumption | omega) (by first | omega | exact ⟨by omega, by rw [x877 eU22, show (Xi U22 890 1).toNat = (Xi T2 890 1).toNat by omega]; omega⟩) _) ?_
                  rintro _ T23 ⟨hHT23, w264, z263, rfl, w263, w261, w262⟩
                  have hFT23 : FR md_gr_checkBe S T23 := FR.tr hFU22 w264 rfl
                  show Rl _ _ _ _ _ [iv z263] _ _
                  refine l_if_eq rfl rfl (by unfold rg; omega) (fun w265 => ?_) (fun w266 => ?_)
                  · refine l_iconst rfl ?_
                    refine l_ireturn rfl rfl ?_
                    have w267 : Xi T23 890 2 = Xi U22 890 2 := (show Xi T23 890 2 = Xi U22 890 2 from w264.x _ _ rfl)
                    have w268 : 0 ≤ Xi U22 890 2 ∧ Xi U22 890 2 ≤ 20 := hHU22.c _ _
                    exact ⟨hHT23, hFT23, _, rfl, ⟨by omega, by omega⟩, (by first | assumption | omega)⟩
                  · refine l_aload_n rfl rfl ?_
                    refine l_bipush rfl rfl ?_
                    have w269 : Xi T23 876 7 = Xi S 876 7 := (show Xi T23 876 7 = Xi U22 876 7 from w264.x _ _ rfl).trans ( (show Xi U22 876 7 = Xi T2 876 7 from by rw [eU22]; exact Xi_ne (by omega)).trans ( (show Xi T2 876 7 = Xi T1 876 7 from w23.x _ _ rfl).trans ((show Xi T1 876 7 = Xi S 876 7 from w12.x _ _ rfl))))
                    have w271 : 0 ≤ Xi T23 890 1 ∧ Xi T23 890 1 ≤ 5126 := hHT23.c _ _
                    refine l_callV rfl rfl rfl (t_gr_take hHT23 103 ⟨by omega, by omega⟩ (by first | assumption | omega) (by first | assumption | omega) (by first | assumption | omega) _) ?_
                    rintro _ T24 ⟨hHT24, w277, z276, rfl, w276, w272, w273, w274, w275⟩
                    have hFT24 : FR md_gr_checkBe S T24 := FR.tr hFT23 w277 rfl
                    show Rl _ _ _ _ _ [iv z276] _ _
                    refine l_if_eq rfl rfl (by unfold rg; omega) (fun w278 => ?_) (fun w279 => ?_)
                    · refine l_iconst rfl ?_
                      refine l_ireturn rfl rfl ?_
                      have w280 : Xi T24 890 2 = Xi U22 890 2 := (show Xi T24 890 2 = Xi T23 890 2 from w277.x _ _ rfl).trans ((show Xi T23 890 2 = Xi U22 890 2 from w264.x _ _ rfl))
                      have w281 : 0 ≤ Xi U22 890 2 ∧ Xi U22 890 2 ≤ 20 := hHU22.c _ _
                      exact ⟨hHT24, hFT24, _, rfl, ⟨by omega, by omega⟩, (by first | assumption | omega)⟩
                    · refine l_iconst rfl ?_
                      refine l_goto rfl rfl ?_
                      refine l_ireturn rfl rfl ?_
                      have w282 : Xi T24 890 2 = Xi U22 890 2 := (show Xi T24 890 2 = Xi T23 890 2 from w277.x _ _ rfl).trans ((show Xi T23 890 2 = Xi U22 890 2 from w264.x _ _ rfl))
                      have w283 : 0 ≤ Xi U22 890 2 ∧ Xi U22 890 2 ≤ 20 := hHU22.c _ _
                      exact ⟨hHT24, hFT24, _, rfl, ⟨by omega, by omega⟩, (by first | assumption | omega)⟩
              · refine l_aload_n rfl rfl ?_
                refine l_bipush rfl rfl ?_
                refine l_pfi rfl rfl rfl rfl ?_
                obtain ⟨U25, eU25⟩ : ∃ T : sS, T = uI T2 890 2 (Int32.ofInt 12) := ⟨_, rfl⟩
                rw [← eU25]
                have hHU25 : HI U25 := by rw [eU25]; exact HI_w hHT2 (show 0 ≤ 12 by omega) (show 12 ≤ 20 by omega)
                have hFU25 : FR md_gr_checkBe S U25 := by rw [eU25]; exact FR.wI hFT2 (mdf_i (r := (890, 891, 2, 3)) (List.mem_of_getElem? (i := 1) rfl) (inR_i (by omega) (by omega) (by omega) (by omega)))
                have w284 : Xi U25 890 2 = 12 := by rw [eU25]; exact Xi_same (by unfold rg; omega)
                have hso261 : SAY U25 (Xi U25 890 1) := SAY_sort eU25 (by assumption) (by decide)
                refine l_aload_n rfl rfl ?_
                refine l_dup rfl rfl ?_
                refine l_gfi rfl rfl rfl rfl rfl ?_
                have w285 : (Xi U25 890 1) = (Xi T2 890 1) := (show Xi U25 890 1 = Xi T2 890 1 from by rw [eU25]; exact Xi_ne (by omega))
                rw [w285]
                refine l_iconst rfl ?_
                refine l_iadd rfl ?_
                refine l_pfi rfl rfl rfl rfl ?_
                obtain ⟨U26, eU26⟩ : ∃ T : sS, T = uI U25 890 1 (Int32.ofInt ((Xi T2 890 1) + 1)) := ⟨_, rfl⟩
                rw [← eU26]
                have hHU26 : HI U26 := by rw [eU26]; exact HI_w hHU25 (show 0 ≤ ((Xi T2 890 1) + 1) by omega) (show ((Xi T2 890 1) + 1) ≤ 5126 by omega)
                have hFU26 : FR md_gr_checkBe S U26 := by rw [eU26]; exact FR.wI hFU25 (mdf_i (r := (890, 891, 1, 2)) (List.mem_of_getElem? (i := 0) rfl) (inR_i (by omega) (by omega) (by omega) (by omega)))
                have w286 : Xi U26 890 1 = ((Xi T2 890 1) + 1) := by rw [eU26]; exact Xi_same (by unfold rg; omega)
                have hs271 : SAY U26 (Xi U26 890 1) := SAY_1x eU25 eU26 (by omega) (by assumption) (by omega) (by omega) (by omega)
                refine l_aload_n rfl rfl ?_
                have w287 : Xi U26 876 7 = Xi S 876 7 := (show Xi U26 876 7 = Xi U25 876 7 from by rw [eU26]; exact Xi_ne (by omega)).trans ( (show Xi U25 876 7 = Xi T2 876 7 from by rw [eU25]; exact Xi_ne (by omega)).trans ( (show Xi T2 876 7 = Xi T1 876 7 from w23.x _ _ rfl).trans ((show Xi T1 876 7 = Xi S 876 7 from w12.x _ _ rfl))))
                have w289 : 0 ≤ Xi U26 890 1 ∧ Xi U26 890 1 ≤ 5126 := hHU26.c _ _
                refine l_callV rfl rfl rfl (t_gr_takeRun hHU26 (by first | assumption | omega) (by first | assumption | omega) _) ?_
                rintro _ T27 ⟨hHT27, w294, z293, rfl, w293, w290, w291, w292⟩
                have hFT27 : FR md_gr_checkBe S T27 := FR.tr hFU26 w294 rfl
                show Rl _ _ _ _ _ [iv z293] _ _
                refine l_if_eq rfl rfl (by unfold rg; omega) (fun w295 => ?_) (fun w296 => ?_)
                · refine l_iconst rfl ?_
                  refine l_ireturn rfl rfl ?_
                  have w297 : Xi T27 890 2 = Xi U25 890 2 := (show Xi T27 890 2 = Xi U26 890 2 from w294.x _ _ rfl).trans ((show Xi U26 890 2 = Xi U25 890 2 from by rw [eU26]; exact Xi_ne (by omega)))
                  have w298 : 0 ≤ Xi U25 890 2 ∧ Xi U25 890 2 ≤ 20 := hHU25.c _ _
                  exact ⟨hHT27, hFT27, _, rfl, ⟨by omega, by omega⟩, (by first | assumption | omega)⟩
                · refine l_aload_n rfl rfl ?_
                  have w299 : Xi T27 876 7 = Xi S 876 7 := (show Xi T27 876 7 = Xi U26 876 7 from w294.x _ _ rfl).trans ( (show Xi U26 876 7 = Xi U25 876 7 from by rw [eU26]; exact Xi_ne (by omega)).trans ( (show Xi U25 876 7 = Xi T2 876 7 from by rw [eU25]; exact Xi_ne (by omega)).trans ( (show Xi T2 876 7 = Xi T1 876 7 from w23.x _ _ rfl).trans ((show Xi T1 876 7 = Xi S 876 7 from w12.x _ _ rfl)))))
                  have w301 : 0 ≤ Xi T27 890 1 ∧ Xi T27 890 1 ≤ 5126 := hHT27.c _ _
                  refine l_callV rfl rfl rfl (t_gr_atPlace hHT27 _) ?_
                  rintro _ _ ⟨rfl, z303, rfl, w303, w302⟩
                  show Rl _ _ _ _ _ [iv z303] _ _
                  refine l_if_eq rfl rfl (by unfold rg; omega) (fun w304 => ?_) (fun w305 => ?_)
                  · refine l_aload_n rfl rfl ?_
                    refine l_bipush rfl rfl ?_
                    refine l_callV rfl rfl rfl (t_gr_take hHT27 103 ⟨by omega, by omega⟩ (by first | assumption | omega) (by first | assumption | omega) (by first | assumption | omega) _) ?_
                    rintro _ T28 ⟨hHT28, w314, z313, rfl, w313, w309, w310, w311, w312⟩
                    have hFT28 : FR md_gr_checkBe S T28 := FR.tr hFT27 w314 rfl
                    show Rl _ _ _ _ _ [iv z313] _ _
                    refine l_if_eq rfl rfl (by unfold rg; omega) (fun w315 => ?_) (fun w316 => ?_)
                    · refine l_iconst rfl ?_
                      refine l_ireturn rfl rfl ?_
                      have w317 : Xi T28 890 2 = Xi U25 890 2 := (show Xi T28 890 2 = Xi T27 890 2 from w314.x _ _ rfl).trans ( (show Xi T27 890 2 = Xi U26 890 2 from w294.x _ _ rfl).trans ((show Xi U26 890 2 = Xi U25 890 2 from by rw [eU26]; exact Xi_ne (by omega))))
                      have w318 : 0 ≤ Xi U25 890 2 ∧ Xi U25 890 2 ≤ 20 := hHU25.c _ _
                      exact ⟨hHT28, hFT28, _, rfl, ⟨by omega, by omega⟩, (by first | assumption | omega)⟩
                    · refine l_iconst rfl ?_
                      refine l_goto rfl rfl ?_
                      refine l_ireturn rfl rfl ?_
                      have w319 : Xi T28 890 2 = Xi U25 890 2 := (show Xi T28 890 2 = Xi T27 890 2 from w314.x _ _ rfl).trans ( (show Xi T27 890 2 = Xi U26 890 2 from w294.x _ _ rfl).trans ((show Xi U26 890 2 = Xi U25 890 2 from by rw [eU26]; exact Xi_ne (by omega))))
                      have w320 : 0 ≤ Xi U25 890 2 ∧ Xi U25 890 2 ≤ 20 := hHU25.c _ _
                      exact ⟨hHT28, hFT28, _, rfl, ⟨by omega, by omega⟩, (by first | assumption | omega)⟩
                  · refine l_aload_n rfl rfl ?_
                    refine l_iconst rfl ?_
                    refine l_callV rfl rfl rfl (t_gr_takePlace hHT27 0 ⟨by omega, by omega⟩ (by first | assumption | omega) (by first | assumption | omega) (by first | omega | exact ⟨by omega, by rw [x877 rfl, show (Xi T27 890 1).toNat = (Xi U26 890 1).toNat by omega]; omega⟩) _) ?_
                    rintro _ T29 ⟨hHT29, w327, z326, rfl, w326, w324, w325⟩
                    have hFT29 : FR md_gr_checkBe S T29 := FR.tr hFT27 w327 rfl
                    show Rl _ _ _ _ _ [iv z326] _ _
                    refine l_if_eq rfl rfl (by unfold rg; omega) (fun w328 => ?_) (fun w329 => ?_)
                    · refine l_iconst rfl ?_
                      refine l_ireturn rfl rfl ?_
                      have w330 : Xi T29 890 2 = Xi U25 890 2 := (show Xi T29 890 2 = Xi T27 890 2 from w327.x _ _ rfl).trans ( (show Xi T27 890 2 = Xi U26 890 2 from w294.x _ _ rfl).trans ((show Xi U26 890 2 = Xi U25 890 2 from by rw [eU26]; exact Xi_ne (by omega))))
                      have w331 : 0 ≤ Xi U25 890 2 ∧ Xi U25 890 2 ≤ 20 := hHU25.c _ _
                      exact ⟨hHT29, hFT29, _, rfl, ⟨by omega, by omega⟩, (by first | assumption | omega)⟩
                    · refine l_aload_n rfl rfl ?_
                      refine l_bipush rfl rfl ?_
                      have w332 : Xi T29 876 7 = Xi S 876 7 := (show Xi T29 876 7 = Xi T27 876 7 from w327.x _ _ rfl).trans ( (show Xi T27 876 7 = Xi U26 876 7 from w294.x _ _ rfl).trans ( (show Xi U26 876 7 = Xi U25 876 7 from by rw [eU26]; exact Xi_ne (by omega)).trans ( (show Xi U25 876 7 = Xi T2 876 7 from by rw [eU25]; exact Xi_ne (by omega)).trans ( (show Xi T2 876 7 = Xi T1 876 7 from w23.x _ _ rfl).trans ((show Xi T1 876 7 = Xi S 876 7 from w12.x _ _ rfl))))))
                      have w334 : 0 ≤ Xi T29 890 1 ∧ Xi T29 890 1 ≤ 5126 := hHT29.c _ _
                      refine l_callV rfl rfl rfl (t_gr_take hHT29 103 ⟨by omega, by omega⟩ (by first | assumption | omega) (by first | assumption | omega) (by first | assumption | omega) _) ?_
                      rintro _ T30 ⟨hHT30, w340, z339, rfl, w339, w335, w336, w337, w338⟩
                      have hFT30 : FR md_gr_checkBe S T30 := FR.tr hFT29 w340 rfl
                      show Rl _ _ _ _ _ [iv z339] _ _
                      refine l_if_eq rfl rfl (by unfold rg; omega) (fun w341 => ?_) (fun w342 => ?_)
                      · refine l_iconst rfl ?_
                        refine l_ireturn rfl rfl ?_
                        have w343 : Xi T30 890 2 = Xi U25 890 2 := (show Xi T30 890 2 = Xi T29 890 2 from w340.x _ _ rfl).trans ( (show Xi T29 890 2 = Xi T27 890 2 from w327.x _ _ rfl).trans ( (show Xi T27 890 2 = Xi U26 890 2 from w294.x _ _ rfl).trans ((show Xi U26 890 2 = Xi U25 890 2 from by rw [eU26]; exact Xi_ne (by omega)))))
                        have w344 : 0 ≤ Xi U25 890 2 ∧ Xi U25 890 2 ≤ 20 := hHU25.c _ _
                        exact ⟨hHT30, hFT30, _, rfl, ⟨by omega, by omega⟩, (by first | assumption | omega)⟩
                      · refine l_iconst rfl ?_
                        refine l_goto rfl rfl ?_
                        refine l_ireturn rfl rfl ?_
                        have w345 : Xi T30 890 2 = Xi U25 890 2 := (show Xi T30 890 2 = Xi T29 890 2 from w340.x _ _ rfl).trans ( (show Xi T29 890 2 = Xi T27 890 2 from w327.x _ _ rfl).trans ( (show Xi T27 890 2 = Xi U26 890 2 from w294.x _ _ rfl).trans ((show Xi U26 890 2 = Xi U25 890 2 from by rw [eU26]; exact Xi_ne (by omega)))))
                        have w346 : 0 ≤ Xi U25 890 2 ∧ Xi U25 890 2 ≤ 20 := hHU25.c _ _
                        exact ⟨hHT30, hFT30, _, rfl, ⟨by omega, by omega⟩, (by first | assumption | omega)⟩
            · refine l_aload_n rfl rfl ?_
              refine l_bipush rfl rfl ?_
              refine l_pfi rfl rfl rfl rfl ?_
              obtain ⟨U31, eU31⟩ : ∃ T : sS, T = uI T2 890 2 (Int32.ofInt 11) := ⟨_, rfl⟩
              rw [← eU31]
              have hHU31 : HI U31 := by rw [eU31]; exact HI_w hHT2 (show 0 ≤ 11 by omega) (show 11 ≤ 20 by omega)
              have hFU31 : FR md_gr_checkBe S U31 := by rw [eU31]; exact FR.wI hFT2 (mdf_i (r := (890, 891, 2, 3)) (List.mem_of_getElem? (i := 1) rfl) (inR_i (by omega) (by omega) (by omega) (by omega)))
              have w347 : Xi U31 890 2 = 11 := by rw [eU31]; exact Xi_same (by unfold rg; omega)
              have hso189 : SAY U31 (Xi U31 890 1) := SAY_sort eU31 (by assumption) (by decide)
              refine l_aload_n rfl rfl ?_
              refine l_dup rfl rfl ?_
              refine l_gfi rfl rfl rfl rfl rfl ?_
              have w348 : (Xi U31 890 1) = (Xi T2 890 1) := (show Xi U31 890 1 = Xi T2 890 1 from by rw [eU31]; exact Xi_ne (by omega))
              rw [w348]
              refine l_iconst rfl ?_
              refine l_iadd rfl ?_
              refine l_pfi rfl rfl rfl rfl ?_
              obtain ⟨U32, eU32⟩ : ∃ T : sS, T = uI U31 890 1 (Int32.ofInt ((Xi T2 890 1) + 2)) := ⟨_, rfl⟩
              rw [← eU32]
              have hHU32 : HI U32 := by rw [eU32]; exact HI_w hHU31 (show 0 ≤ ((Xi T2 890 1) + 2) by omega) (show ((Xi T2 890 1) + 2) ≤ 5126 by omega)
              have hFU32 : FR md_gr_checkBe S U32 := by rw [eU32]; exact FR.wI hFU31 (mdf_i (r := (890, 891, 1, 2)) (List.mem_of_getElem? (i := 0) rfl) (inR_i (by omega) (by omega) (by omega) (by omega)))
              have w349 : Xi U32 890 1 = ((Xi T2 890 1) + 2) := by rw [eU32]; exact Xi_same (by unfold rg; omega)
              have hs199 : SAY U32 (Xi U32 890 1) := SAY_2x eU31 eU32 (by omega) (by assumption) (by omega) (by omega) (by omega) (by omega)
              refine l_aload_n rfl rfl ?_
              refine l_bipush rfl rfl ?_
              have w350 : Xi U32 876 7 = Xi S 876 7 := (show Xi U32 876 7 = Xi U31 876 7 from by rw [eU32]; exact Xi_ne (by omega)).trans ( (show Xi U31 876 7 = Xi T2 876 7 from by rw [eU31]; exact Xi_ne (by omega)).trans ( (show Xi T2 876 7 = Xi T1 876 7 from w23.x _ _ rfl).trans ((show Xi T1 876 7 = Xi S 876 7 from w12.x _ _ rfl))))
              have w352 : 0 ≤ Xi U32 890 1 ∧ Xi U32 890 1 ≤ 5126 := hHU32.c _ _
              refine l_callV rfl rfl rfl (t_gr_take hHU32 28 ⟨by omega, by omega⟩ (by first | assumption | omega) (by first | assumption | omega) (by first | assumption | omega) _) ?_
              rintro _ T33 ⟨hHT33, w358, z357, rfl, w357, w353, w354, w355, w356⟩
              have hFT33 : FR md_gr_checkBe S T33 := FR.tr hFU32 w358 rfl
              show Rl _ _ _ _ _ [iv z357] _ _
              refine l_if_eq rfl rfl (by unfold rg; omega) (fun w359 => ?_) (fun w360 => ?_)
              · refine l_aload_n rfl rfl ?_
                refine l_bipush rfl rfl ?_
                have w361 : Xi T33 876 7 = Xi S 876 7 := (show Xi T33 876 7 = Xi U32 876 7 from w358.x _ _ rfl).trans ( (show Xi U32 876 7 = Xi U31 876 7 from by rw [eU32]; exact Xi_ne (by omega)).trans ( (show Xi U31 876 7 = Xi T2 876 7 from by rw [eU31]; exact Xi_ne (by omega)).trans ( (show Xi T2 876 7 = Xi T1 876 7 from w23.x _ _ rfl).trans ((show Xi T1 876 7 = Xi S 876 7 from w12.x _ _ rfl)))))
                have w363 : 0 ≤ Xi T33 890 1 ∧ Xi T33 890 1 ≤ 5126 := hHT33.c _ _
                refine l_callV rfl rfl rfl (t_gr_take hHT33 103 ⟨by omega, by omega⟩ (by first | assumption | omega) (by first | assumption | omega) (by first | assumption | omega) _) ?_
                rintro _ T34 ⟨hHT34, w369, z368, rfl, w368, w364, w365, w366, w367⟩
                have hFT34 : FR md_gr_checkBe S T34 := FR.tr hFT33 w369 rfl
                show Rl _ _ _ _ _ [iv z368] _ _
                refine l_if_eq rfl rfl (by unfold rg; omega) (fun w370 => ?_) (fun w371 => ?_)
                · refine l_iconst rfl ?_
                  refine l_ireturn rfl rfl ?_
                  have w372 : Xi T34 890 2 = Xi U31 890 2 := (show Xi T34 890 2 = Xi T33 890 2 from w369.x _ _ rfl).trans ( (show Xi T33 890 2 = Xi U32 890 2 from w358.x _ _ rfl).trans ((show Xi U32 890 2 = Xi U31 890 2 from by rw [eU32]; exact Xi_ne (by omega))))
                  have w373 : 0 ≤ Xi U31 890 2 ∧ Xi U31 890 2 ≤ 20 := hHU31.c _ _
                  exact ⟨hHT34, hFT34, _, rfl, ⟨by omega, by omega⟩, (by first | assumption | omega)⟩
                · refine l_iconst rfl ?_
                  refine l_goto rfl rfl ?_
                  refine l_ireturn rfl rfl ?_
                  have w374 : Xi T34 890 2 = Xi U31 890 2 := (show Xi T34 890 2 = Xi T33 890 2 from w369.x _ _ rfl).trans ( (show Xi T33 890 2 = Xi U32 890 2 from w358.x _ _ rfl).trans ((show Xi U32 890 2 = Xi U31 890 2 from by rw [eU32]; exact Xi_ne (by omega))))
                  have w375 : 0 ≤ Xi U31 890 2 ∧ Xi U31 890 2 ≤ 20 := hHU31.c _ _
                  exact ⟨hHT34, hFT34, _, rfl, ⟨by omega, by omega⟩, (by first | assumption | omega)⟩
              · refine l_aload_n rfl rfl ?_
                refine l_bipush rfl rfl ?_
                have w376 : Xi T33 876 7 = Xi S 876 7 := (show Xi T33 876 7 = Xi U32 876 7 from w358.x _ _ rfl).trans ( (show Xi U32 876 7 = Xi U31 876 7 from by rw [eU32]; exact Xi_ne (by omega)).trans ( (show Xi U31 876 7 = Xi T2 876 7 from by rw [eU31]; exact Xi_ne (by omega)).trans ( (show Xi T2 876 7 = Xi T1 876 7 from w23.x _ _ rfl).trans ((show Xi T1 876 7 = Xi S 876 7 from w12.x _ _ rfl)))))
                have w378 : 0 ≤ Xi T33 890 1 ∧ Xi T33 890 1 ≤ 5126 := hHT33.c _ _
                refine l_callV rfl rfl rfl (t_gr_take hHT33 11 ⟨by omega, by omega⟩ (by first | assumption | omega) (by first | assumption | omega) (by first | assumption | omega) _) ?_
                rintro _ T35 ⟨hHT35, w384, z383, rfl, w383, w379, w380, w381, w382⟩
                have hFT35 : FR md_gr_checkBe S T35 := FR.tr hFT33 w384 rfl
                show Rl _ _ _ _ _ [iv z383] _ _
                refine l_if_eq rfl rfl (by unfold rg; omega) (fun w385 => ?_) (fun w386 => ?_)
                · refine l_iconst rfl ?_
                  refine l_ireturn rfl rfl ?_
                  have w387 : Xi T35 890 2 = Xi U31 890 2 := (show Xi T35 890 2 = Xi T33 890 2 from w384.x _ _ rfl).trans ( (show Xi T33 890 2 = Xi U32 890 2 from w358.x _ _ rfl).trans ((show Xi U32 890 2 = Xi U31 890 2 from by rw [eU32]; exact Xi_ne (by omega))))
                  have w388 : 0 ≤ Xi U31 890 2 ∧ Xi U31 890 2 ≤ 20 := hHU31.c _ _
                  exact ⟨hHT35, hFT35, _, rfl, ⟨by omega, by omega⟩, (by first | assumption | omega)⟩
                · refine l_aload_n rfl rfl ?_
                  refine l_bipush rfl rfl ?_
                  have w389 : Xi T35 876 7 = Xi S 876 7 := (show Xi T35 876 7 = Xi T33 876 7 from w384.x _ _ rfl).trans ( (show Xi T33 876 7 = Xi U32 876 7 from w358.x _ _ rfl).trans ( (show Xi U32 876 7 = Xi U31 876 7 from by rw [eU32]; exact Xi_ne (by omega)).trans ( (show Xi U31 876 7 = Xi T2 876 7 from by rw [eU31]; exact Xi_ne (by omega)).trans ( (show Xi T2 876 7 = Xi T1 876 7 from w23.x _ _ rfl).trans ((show Xi T1 876 7 = Xi S 876 7 from w12.x _ _ rfl))))))
                  have w391 : 0 ≤ Xi T35 890 1 ∧ Xi T35 890 1 ≤ 5126 := hHT35.c _ _
                  refine l_callV rfl rfl rfl (t_gr_take hHT35 22 ⟨by omega, by omega⟩ (by first | assumption | omega) (by first | assumption | omega) (by first | assumption | omega) _) ?_
                  rintro _ T36 ⟨hHT36, w397, z396, rfl, w396, w392, w393, w394, w395⟩
                  have hFT36 : FR md_gr_checkBe S T36 := FR.tr hFT35 w397 rfl
                  show Rl _ _ _ _ _ [iv z396] _ _
                  refine l_if_eq rfl rfl (by unfold rg; omega) (fun w398 => ?_) (fun w399 => ?_)
                  · refine l_iconst rfl ?_
                    refine l_ireturn rfl rfl ?_
                    have w400 : Xi T36 890 2 = Xi U31 890 2 := (show Xi T36 890 2 = Xi T35 890 2 from w397.x _ _ rfl).trans ( (show Xi T35 890 2 = Xi T33 890 2 from w384.x _ _ rfl).trans ( (show Xi T33 890 2 = Xi U32 890 2 from w358.x _ _ rfl).trans ((show Xi U32 890 2 = Xi U31 890 2 from by rw [eU32]; exact Xi_ne (by omega)))))
                    have w401 : 0 ≤ Xi U31 890 2 ∧ Xi U31 890 2 ≤ 20 := hHU31.c _ _
                    exact ⟨hHT36, hFT36, _, rfl, ⟨by omega, by omega⟩, (by first | assumption | omega)⟩
                  · refine l_aload_n rfl rfl ?_
                    have w402 : Xi T36 876 7 = Xi S 876 7 := (show Xi T36 876 7 = Xi T35 876 7 from w397.x _ _ rfl).trans ( (show Xi T35 876 7 = Xi T33 876 7 from w384.x _ _ rfl).trans ( (show Xi T33 876 7 = Xi U32 876 7 from w358.x _ _ rfl).trans ( (show Xi U32 876 7 = Xi U31 876 7 from by rw [eU32]; exact Xi_ne (by omega)).trans ( (show Xi U31 876 7 = Xi T2 876 7 from by rw [eU31]; exact Xi_ne (by omega)).trans ( (show Xi T2 876 7 = Xi T1 876 7 from w23.x _ _ rfl).trans ((show Xi T1 876 7 = Xi S 876 7 from w12.x _ _ rfl)))))))
                    have w404 : 0 ≤ Xi T36 890 1 ∧ Xi T36 890 1 ≤ 5126 := hHT36.c _ _
                    refine l_callV rfl rfl rfl (t_gr_takeRun hHT36 (by first | assumption | omega) (by first | assumption | omega) _) ?_
                    rintro _ T37 ⟨hHT37, w409, z408, rfl, w408, w405, w406, w407⟩
                    have hFT37 : FR md_gr_checkBe S T37 := FR.tr hFT36 w409 rfl
                    show Rl _ _ _ _ _ [iv z408] _ _
                    refine l_if_eq rfl rfl (by unfold rg; omega) (fun w410 => ?_) (fun w411 => ?_)
                    · refine l_iconst rfl ?_
                      refine l_ireturn rfl rfl ?_
                      have w412 : Xi T37 890 2 = Xi U31 890 2 := (show Xi T37 890 2 = Xi T36 890 2 from w409.x _ _ rfl).trans ( (show Xi T36 890 2 = Xi T35 890 2 from w397.x _ _ rfl).trans ( (show Xi T35 890 2 = Xi T33 890 2 from w384.x _ _ rfl).trans ( (show Xi T33 890 2 = Xi U32 890 2 from w358.x _ _ rfl).trans ((show Xi U32 890 2 = Xi U31 890 2 from by rw [eU32]; exact Xi_ne (by omega))))))
                      have w413 : 0 ≤ Xi U31 890 2 ∧ Xi U31 890 2 ≤ 20 := hHU31.c _ _
                      exact ⟨hHT37, hFT37, _, rfl, ⟨by omega, by omega⟩, (by first | assumption | omega)⟩
                    · refine l_aload_n rfl rfl ?_
                      refine l_bipush rfl rfl ?_
                      have w414 : Xi T37 876 7 = Xi S 876 7 := (show Xi T37 876 7 = Xi T36 876 7 from w409.x _ _ rfl).trans ( (show Xi T36 876 7 = Xi T35 876 7 from w397.x _ _ rfl).trans ( (show Xi T35 876 7 = Xi T33 876 7 from w384.x _ _ rfl).trans ( (show Xi T33 876 7 = Xi U32 876 7 from w358.x _ _ rfl).trans ( (show Xi U32 876 7 = Xi U31 876 7 from by rw [eU32]; exact Xi_ne (by omega)).trans ( (show Xi U31 876 7 = Xi T2 876 7 from by rw [eU31]; exact Xi_ne (by omega)).trans ( (show Xi T2 876 7 = Xi T1 876 7 from w23.x _ _ rfl).trans ((show Xi T1 876 7 = Xi S 876 7 from w12.x _ _ rfl))))))))
                      have w416 : 0 ≤ Xi T37 890 1 ∧ Xi T37 890 1 ≤ 5126 := hHT37.c _ _
                      refine l_callV rfl rfl rfl (t_gr_take hHT37 103 ⟨by omega, by omega⟩ (by first | assumption | omega) (by first | assumption | omega) (by first | assumption | omega) _) ?_
                      rintro _ T38 ⟨hHT38, w422, z421, rfl, w421, w417, w418, w419, w420⟩
                      have hFT38 : FR md_gr_checkBe S T38 := FR.tr hFT37 w422 rfl
                      show Rl _ _ _ _ _ [iv z421] _ _
                      refine l_if_eq rfl rfl (by unfold rg; omega) (fun w423 => ?_) (fun w424 => ?_)
                      · refine l_iconst rfl ?_
                        refine l_ireturn rfl rfl ?_
                        have w425 : Xi T38 890 2 = Xi U31 890 2 := (show Xi T38 890 2 = Xi T37 890 2 from w422.x _ _ rfl).trans ( (show Xi T37 890 2 = Xi T36 890 2 from w409.x _ _ rfl).trans ( (show Xi T36 890 2 = Xi T35 890 2 from w397.x _ _ rfl).trans ( (show Xi T35 890 2 = Xi T33 890 2 from w384.x _ _ rfl).trans ( (show Xi T33 890 2 = Xi U32 890 2 from w358.x _ _ rfl).trans ((show Xi U32 890 2 = Xi U31 890 2 from by rw [eU32]; exact Xi_ne (by omega)))))))
                        have w426 : 0 ≤ Xi U31 890 2 ∧ Xi U31 890 2 ≤ 20 := hHU31.c _ _
                        exact ⟨hHT38, hFT38, _, rfl, ⟨by omega, by omega⟩, (by first | assumption | omega)⟩
                      · refine l_iconst rfl ?_
                        refine l_goto rfl rfl ?_
                        refine l_ireturn rfl rfl ?_
                        have w427 : Xi T38 890 2 = Xi U31 890 2 := (show Xi T38 890 2 = Xi T37 890 2 from w422.x _ _ rfl).trans ( (show Xi T37 890 2 = Xi T36 890 2 from w409.x _ _ rfl).trans ( (show Xi T36 890 2 = Xi T35 890 2 from w397.x _ _ rfl).trans ( (show Xi T35 890 2 = Xi T33 890 2 from w384.x _ _ rfl).trans ( (show Xi T33 890 2 = Xi U32 890 2 from w358.x _ _ rfl).trans ((show Xi U32 890 2 = Xi U31 890 2 from by rw [eU32]; exact Xi_ne (by omega)))))))
                        have w428 : 0 ≤ Xi U31 890 2 ∧ Xi U31 890 2 ≤ 20 := hHU31.c _ _
                        exact ⟨hHT38, hFT38, _, rfl, ⟨by omega, by omega⟩, (by first | assumption | omega)⟩
        · refine l_iload_n rfl rfl ?_
          refine l_bipush rfl rfl ?_
          refine l_icmp_ne rfl rfl (by unfold rg; omega) (by unfold rg; omega) (fun w429 => ?_) (fun w430 => ?_)
          · refine l_iload_n rfl rfl ?_
            refine l_iconst rfl ?_
            refine l_icmp_ne rfl rfl (by unfold rg; omega) (by unfold rg; omega) (fun w431 => ?_) (fun w432 => ?_)
            · refine l_iload_n rfl rfl ?_
              refine l_callS rfl rfl (by decide) rfl (t_rs_isArt hHT2 z32 ⟨by omega, by omega⟩ _) ?_
              rintro _ _ ⟨rfl, z434, rfl, w434, w433⟩
              show Rl _ _ _ _ _ [iv z434] _ _
              refine l_if_eq rfl rfl (by unfold rg; omega) (fun w435 => ?_) (fun w436 => ?_)
              · refine l_aload_n rfl rfl ?_
                have w439 : 0 ≤ Xi T2 890 1 ∧ Xi T2 890 1 ≤ 5126 := hHT2.c _ _
                refine l_callV rfl rfl rfl (t_gr_atPlace hHT2 _) ?_
                rintro _ _ ⟨rfl, z441, rfl, w441, w440⟩
                show Rl _ _ _ _ _ [iv z441] _ _
                refine l_if_eq rfl rfl (by unfold rg; omega) (fun w442 => ?_) (fun w443 => ?_)
                · refine l_aload_n rfl rfl ?_
                  refine l_aload_n rfl rfl ?_
                  refine l_bipush rfl rfl ?_
                  refine l_callV rfl rfl rfl (t_gr_take hHT2 6 ⟨by omega, by omega⟩ (by first | assumption | omega) (by first | assumption | omega) (by first | assumption | omega) _) ?_
                  rintro _ T39 ⟨hHT39, w452, z451, rfl, w451, w447, w448, w449, w450⟩
                  have hFT39 : FR md_gr_checkBe S T39 := FR.tr hFT2 w452 rfl
                  show Rl _ _ _ _ _ [iv z451, .ref 890] _ _
                  refine l_if_ne rfl rfl (by unfold rg; omega) (fun w453 => ?_) (fun w454 => ?_)
                  · refine l_iconst rfl ?_
                    refine l_goto rfl rfl ?_
                    have w455 : Xi T39 876 7 = Xi S 876 7 := (show Xi T39 876 7 = Xi T2 876 7 from w452.x _ _ rfl).trans ( (show Xi T2 876 7 = Xi T1 876 7 from w23.x _ _ rfl).trans ((show Xi T1 876 7 = Xi S 876 7 from w12.x _ _ rfl)))
                    have w457 : 0 ≤ Xi T39 890 1 ∧ Xi T39 890 1 ≤ 5126 := hHT39.c _ _
                    refine l_callV rfl rfl rfl (t_gr_checkRuns hHT39 1 ⟨by omega, by omega⟩ (by first | assumption | omega) (by first | assumption | omega) _) ?_
                    rintro _ T40 ⟨hHT40, w462, z461, rfl, w461, w458, w459, w460⟩
                    have hFT40 : FR md_gr_checkBe S T40 := FR.tr hFT39 w462 rfl
                    show Rl _ _ _ _ _ [iv z461] _ _
                    refine l_ireturn rfl (retI_z (by omega)) ?_
                    have w463 : 0 ≤ Xi T40 890 2 ∧ Xi T40 890 2 ≤ 20 := hHT40.c _ _
                    exact ⟨hHT40, hFT40, _, rfl, ⟨by omega, by omega⟩, (by first | assumption | omega)⟩
                  · refine l_aload_n rfl rfl ?_
                    refine l_bipush rfl rfl ?_
                    have w464 : Xi T39 876 7 = Xi S 876 7 := (show Xi T39 876 7 = Xi T2 876 7 from w452.x _ _ rfl).trans ( (show Xi T2 876 7 = Xi T1 876 7 from w23.x _ _ rfl).trans ((show Xi T1 876 7 = Xi S 876 7 from w12.x _ _ rfl)))
                    have w466 : 0 ≤ Xi T39 890 1 ∧ Xi T39 890 1 ≤ 5126 := hHT39.c _ _
                    refine l_callV rfl rfl rfl (t_gr_take hHT39 32 ⟨by omega, by omega⟩ (by first | assumption | omega) (by first | assumption | omega) (by first | assumption | omega) _) ?_
                    rintro _ T41 ⟨hHT41, w472, z471, rfl, w471, w467, w468, w469, w470⟩
                    have hFT41 : FR md_gr_checkBe S T41 := FR.tr hFT39 w472 rfl
                    show Rl _ _ _ _ _ [iv z471, .ref 890] _ _
                    refine l_if_eq rfl rfl (by unfold rg; omega) (fun w473 => ?_) (fun w474 => ?_)
                    · refine l_iconst rfl ?_
                      have w475 : Xi T41 876 7 = Xi S 876 7 := (show Xi T41 876 7 = Xi T39 876 7 from w472.x _ _ rfl).trans ( (show Xi T39 876 7 = Xi T2 876 7 from w452.x _ _ rfl).trans ( (show Xi T2 876 7 = Xi T1 876 7 from w23.x _ _ rfl).trans ((show Xi T1 876 7 = Xi S 876 7 from w12.x _ _ rfl))))
                      have w477 : 0 ≤ Xi T41 890 1 ∧ Xi T41 890 1 ≤ 5126 := hHT41.c _ _
                      refine l_callV rfl rfl rfl (t_gr_checkRuns hHT41 0 ⟨by omega, by omega⟩ (by first | assumption | omega) (by first | assumption | omega) _) ?_
                      rintro _ T42 ⟨hHT42, w482, z481, rfl, w481, w478, w479, w480⟩
                      have hFT42 : FR md_gr_checkBe S T42 := FR.tr hFT41 w482 rfl
                      show Rl _ _ _ _ _ [iv z481] _ _
                      refine l_ireturn rfl (retI_z (by omega)) ?_
                      have w483 : 0 ≤ Xi T42 890 2 ∧ Xi T42 890 2 ≤ 20 := hHT42.c _ _
                      exact ⟨hHT42, hFT42, _, rfl, ⟨by omega, by omega⟩, (by first | assumption | omega)⟩
                    · refine l_iconst rfl ?_
                      refine l_goto rfl rfl ?_
                      have w484 : Xi T41 876 7 = Xi S 876 7 := (show Xi T41 876 7 = Xi T39 876 7 from w472.x _ _ rfl).trans ( (show Xi T39 876 7 = Xi T2 876 7 from w452.x _ _ rfl).trans ( (show Xi T2 876 7 = Xi T1 876 7 from w23.x _ _ rfl).trans ((show Xi T1 876 7 = Xi S 876 7 from w12.x _ _ rfl))))
                      have w486 : 0 ≤ Xi T41 890 1 ∧ Xi T41 890 1 ≤ 5126 := hHT41.c _ _
                      refine l_callV rfl rfl rfl (t_gr_checkRuns hHT41 1 ⟨by omega, by omega⟩ (by first | assumption | omega) (by first | assumption | omega) _) ?_
                      rintro _ T43 ⟨hHT43, w491, z490, rfl, w490, w487, w488, w489⟩
                      have hFT43 : FR md_gr_checkBe S T43 := FR.tr hFT41 w491 rfl
                      show Rl _ _ _ _ _ [iv z490] _ _
                      refine l_ireturn rfl (retI_z (by omega)) ?_
                      have w492 : 0 ≤ Xi T43 890 2 ∧ Xi T43 890 2 ≤ 20 := hHT43.c _ _
                      exact ⟨hHT43, hFT43, _, rfl, ⟨by omega, by omega⟩, (by first | assumption | omega)⟩
                · refine l_aload_n rfl rfl ?_
                  refine l_bipush rfl rfl ?_
                  refine l_pfi rfl rfl rfl rfl ?_
                  obtain ⟨U44, eU44⟩ : ∃ T : sS, T = uI T2 890 2 (Int32.ofInt 13) := ⟨_, rfl⟩
                  rw [← eU44]
                  have hHU44 : HI U44 := by rw [eU44]; exact HI_w hHT2 (show 0 ≤ 13 by omega) (show 13 ≤ 20 by omega)
                  have hFU44 : FR md_gr_checkBe S U44 := by rw [eU44]; exact FR.wI hFT2 (mdf_i (r := (890, 891, 2, 3)) (List.mem_of_getElem? (i := 1) rfl) (inR_i (by omega) (by omega) (by omega) (by omega)))
                  have w493 : Xi U44 890 2 = 13 := by rw [eU44]; exact Xi_same (by unfold rg; omega)
                  have hso321 : SAY U44 (Xi U44 890 1) := SAY_sort eU44 (by assumption) (by decide)
                  refine l_aload_n rfl rfl ?_
                  refine l_iconst rfl ?_
                  have w494 : Xi U44 876 7 = Xi S 876 7 := (show Xi U44 876 7 = Xi T2 876 7 from by rw [eU44]; exact Xi_ne (by omega)).trans ( (show Xi T2 876 7 = Xi T1 876 7 from w23.x _ _ rfl).trans ((show Xi T1 876 7 = Xi S 876 7 from w12.x _ _ rfl)))
                  have w496 : Xi U44 890 1 = Xi T2 890 1 := (show Xi U44 890 1 = Xi T2 890 1 from by rw [eU44]; exact Xi_ne (by omega))
                  refine l_callV rfl rfl rfl (t_gr_takePlace hHU44 0 ⟨by omega, by omega⟩ (by first | assumption | omega) (by first | assumption | omega) (by first | omega | exact ⟨by omega, by rw [x877 eU44, show (Xi U44 890 1).toNat = (Xi T2 890 1).toNat by omega]; omega⟩) _) ?_
                  rintro _ T45 ⟨hHT45, w501, z500, rfl, w500, w498, w499⟩
                  have hFT45 : FR md_gr_checkBe S T45 := FR.tr hFU44 w501 rfl
                  show Rl _ _ _ _ _ [iv z500] _ _
                  refine l_if_eq rfl rfl (by unfold rg; omega) (fun w502 => ?_) (fun w503 => ?_)
                  · refine l_iconst rfl ?_
                    refine l_ireturn rfl rfl ?_
                    have w504 : Xi T45 890 2 = Xi U44 890 2 := (show Xi T45 890 2 = Xi U44 890 2 from w501.x _ _ rfl)
                    have w505 : 0 ≤ Xi U44 890 2 ∧ Xi U44 890 2 ≤ 20 := hHU44.c _ _
                    exact ⟨hHT45, hFT45, _, rfl, ⟨by omega, by omega⟩, (by first | assumption | omega)⟩
                  · refine l_aload_n rfl rfl ?_
                    refine l_bipush rfl rfl ?_
                    have w506 : Xi T45 876 7 = Xi S 876 7 := (show Xi T45 876 7 = Xi U44 876 7 from w501.x _ _ rfl).trans ( (show Xi U44 876 7 = Xi T2 876 7 from by rw [eU44]; exact Xi_ne (by omega)).trans ( (show Xi T2 876 7 = Xi T1 876 7 from w23.x _ _ rfl).trans ((show Xi T1 876 7 = Xi S 876 7 from w12.x _ _ rfl))))
                    have w508 : 0 ≤ Xi T45 890 1 ∧ Xi T45 890 1 ≤ 5126 := hHT45.c _ _
                    refine l_callV rfl rfl rfl (t_gr_take hHT45 103 ⟨by omega, by omega⟩ (by first | assumption | omega) (by first | assumption | omega) (by first | assumption | omega) _) ?_
                    rintro _ T46 ⟨hHT46, w514, z513, rfl, w513, w509, w510, w511, w512⟩
                    have hFT46 : FR md_gr_checkBe S T46 := FR.tr hFT45 w514 rfl
                    show Rl _ _ _ _ _ [iv z513] _ _
                    refine l_if_eq rfl rfl (by unfold rg; omega) (fun w515 => ?_) (fun w516 => ?_)
                    · refine l_iconst rfl ?_
                      refine l_ireturn rfl rfl ?_
                      have w517 : Xi T46 890 2 = Xi U44 890 2 := (show Xi T46 890 2 = Xi T45 890 2 from w514.x _ _ rfl).trans ((show Xi T45 890 2 = Xi U44 890 2 from w501.x _ _ rfl))
                      have w518 : 0 ≤ Xi U44 890 2 ∧ Xi U44 890 2 ≤ 20 := hHU44.c _ _
                      exact ⟨hHT46, hFT46, _, rfl, ⟨by omega, by omega⟩, (by first | assumption | omega)⟩
                    · refine l_iconst rfl ?_
                      refine l_goto rfl rfl ?_
                      refine l_ireturn rfl rfl ?_
                      have w519 : Xi T46 890 2 = Xi U44 890 2 := (show Xi T46 890 2 = Xi T45 890 2 from w514.x _ _ rfl).trans ((show Xi T45 890 2 = Xi U44 890 2 from w501.x _ _ rfl))
                      have w520 : 0 ≤ Xi U44 890 2 ∧ Xi U44 890 2 ≤ 20 := hHU44.c _ _
                      exact ⟨hHT46, hFT46, _, rfl, ⟨by omega, by omega⟩, (by first | assumption | omega)⟩
              · refine l_aload_n rfl rfl ?_
                refine l_bipush rfl rfl ?_
                refine l_pfi rfl rfl rfl rfl ?_
                obtain ⟨U47, eU47⟩ : ∃ T : sS, T = uI T2 890 2 (Int32.ofInt 12) := ⟨_, rfl⟩
                rw [← eU47]
                have hHU47 : HI U47 := by rw [eU47]; exact HI_w hHT2 (show 0 ≤ 12 by omega) (show 12 ≤ 20 by omega)
                have hFU47 : FR md_gr_checkBe S U47 := by rw [eU47]; exact FR.wI hFT2 (mdf_i (r := (890, 891, 2, 3)) (List.mem_of_getElem? (i := 1) rfl) (inR_i (by omega) (by omega) (by omega) (by omega)))
                have w521 : Xi U47 890 2 = 12 := by rw [eU47]; exact Xi_same (by unfold rg; omega)
                have hso261 : SAY U47 (Xi U47 890 1) := SAY_sort eU47 (by assumption) (by decide)
                refine l_aload_n rfl rfl ?_
                refine l_dup rfl rfl ?_
                refine l_gfi rfl rfl rfl rfl rfl ?_
                have w522 : (Xi U47 890 1) = (Xi T2 890 1) := (show Xi U47 890 1 = Xi T2 890 1 from by rw [eU47]; exact Xi_ne (by omega))
                rw [w522]
                refine l_iconst rfl ?_
                refine l_iadd rfl ?_
                refine l_pfi rfl rfl rfl rfl ?_
                obtain ⟨U48, eU48⟩ : ∃ T : sS, T = uI U47 890 1 (Int32.ofInt ((Xi T2 890 1) + 1)) := ⟨_, rfl⟩
                rw [← eU48]
                have hHU48 : HI U48 := by rw [eU48]; exact HI_w hHU47 (show 0 ≤ ((Xi T2 890 1) + 1) by omega) (show ((Xi T2 890 1) + 1) ≤ 5126 by omega)
                have hFU48 : FR md_gr_checkBe S U48 := by rw [eU48]; exact FR.wI hFU47 (mdf_i (r := (890, 891, 1, 2)) (List.mem_of_getElem? (i := 0) rfl) (inR_i (by omega) (by omega) (by omega) (by omega)))
                have w523 : Xi U48 890 1 = ((Xi T2 890 1) + 1) := by rw [eU48]; exact Xi_same (by unfold rg; omega)
                have hs271 : SAY U48 (Xi U48 890 1) := SAY_1x eU47 eU48 (by omega) (by assumption) (by omega) (by omega) (by omega)
                refine l_aload_n rfl rfl ?_
                have w524 : Xi U48 876 7 = Xi S 876 7 := (show Xi U48 876 7 = Xi U47 876 7 from by rw [eU48]; exact Xi_ne (by omega)).trans ( (show Xi U47 876 7 = Xi T2 876 7 from by rw [eU47]; exact Xi_ne (by omega)).trans ( (show Xi T2 876 7 = Xi T1 876 7 from w23.x _ _ rfl).trans ((show Xi T1 876 7 = Xi S 876 7 from w12.x _ _ rfl))))
                have w526 : 0 ≤ Xi U48 890 1 ∧ Xi U48 890 1 ≤ 5126 := hHU48.c _ _
                refine l_callV rfl rfl rfl (t_gr_takeRun hHU48 (by first | assumption | omega) (by first | assumption | omega) _) ?_
                rintro _ T49 ⟨hHT49, w531, z530, rfl, w530, w527, w528, w529⟩
                have hFT49 : FR md_gr_checkBe S T49 := FR.tr hFU48 w531 rfl
                show Rl _ _ _ _ _ [iv z530] _ _
                refine l_if_eq rfl rfl (by unfold rg; omega) (fun w532 => ?_) (fun w533 => ?_)
                · refine l_iconst rfl ?_
                  refine l_ireturn rfl rfl ?_
                  have w534 : Xi T49 890 2 = Xi U47 890 2 := (show Xi T49 890 2 = Xi U48 890 2 from w531.x _ _ rfl).trans ((show Xi U48 890 2 = Xi U47 890 2 from by rw [eU48]; exact Xi_ne (by omega)))
                  have w535 : 0 ≤ Xi U47 890 2 ∧ Xi U47 890 2 ≤ 20 := hHU47.c _ _
                  exact ⟨hHT49, hFT49, _, rfl, ⟨by omega, by omega⟩, (by first | assumption | omega)⟩
                · refine l_aload_n rfl rfl ?_
                  have w536 : Xi T49 876 7 = Xi S 876 7 := (show Xi T49 876 7 = Xi U48 876 7 from w531.x _ _ rfl).trans ( (show Xi U48 876 7 = Xi U47 876 7 from by rw [eU48]; exact Xi_ne (by omega)).trans ( (show Xi U47 876 7 = Xi T2 876 7 from by rw [eU47]; exact Xi_ne (by omega)).trans ( (show Xi T2 876 7 = Xi T1 876 7 from w23.x _ _ rfl).trans ((show Xi T1 876 7 = Xi S 876 7 from w12.x _ _ rfl)))))
                  have w538 : 0 ≤ Xi T49 890 1 ∧ Xi T49 890 1 ≤ 5126 := hHT49.c _ _
                  refine l_callV rfl rfl rfl (t_gr_atPlace hHT49 _) ?_
                  rintro _ _ ⟨rfl, z540, rfl, w540, w539⟩
                  show Rl _ _ _ _ _ [iv z540] _ _
                  refine l_if_eq rfl rfl (by unfold rg; omega) (fun w541 => ?_) (fun w542 => ?_)
                  · refine l_aload_n rfl rfl ?_
                    refine l_bipush rfl rfl ?_
                    refine l_callV rfl rfl rfl (t_gr_take hHT49 103 ⟨by omega, by omega⟩ (by first | assumption | omega) (by first | assumption | omega) (by first | assumption | omega) _) ?_
                    rintro _ T50 ⟨hHT50, w551, z550, rfl, w550, w546, w547, w548, w549⟩
                    have hFT50 : FR md_gr_checkBe S T50 := FR.tr hFT49 w551 rfl
                    show Rl _ _ _ _ _ [iv z550] _ _
                    refine l_if_eq rfl rfl (by unfold rg; omega) (fun w552 => ?_) (fun w553 => ?_)
                    · refine l_iconst rfl ?_
                      refine l_ireturn rfl rfl ?_
                      have w554 : Xi T50 890 2 = Xi U47 890 2 := (show Xi T50 890 2 = Xi T49 890 2 from w551.x _ _ rfl).trans ( (show Xi T49 890 2 = Xi U48 890 2 from w531.x _ _ rfl).trans ((show Xi U48 890 2 = Xi U47 890 2 from by rw [eU48]; exact Xi_ne (by omega))))
                      have w555 : 0 ≤ Xi U47 890 2 ∧ Xi U47 890 2 ≤ 20 := hHU47.c _ _
                      exact ⟨hHT50, hFT50, _, rfl, ⟨by omega, by omega⟩, (by first | assumption | omega)⟩
                    · refine l_iconst rfl ?_
                      refine l_goto rfl rfl ?_
                      refine l_ireturn rfl rfl ?_
                      have w556 : Xi T50 890 2 = Xi U47 890 2 := (show Xi T50 890 2 = Xi T49 890 2 from w551.x _ _ rfl).trans ( (show Xi T49 890 2 = Xi U48 890 2 from w531.x _ _ rfl).trans ((show Xi U48 890 2 = Xi U47 890 2 from by rw [eU48]; exact Xi_ne (by omega))))
                      have w557 : 0 ≤ Xi U47 890 2 ∧ Xi U47 890 2 ≤ 20 := hHU47.c _ _
                      exact ⟨hHT50, hFT50, _, rfl, ⟨by omega, by omega⟩, (by first | assumption | omega)⟩
                  · refine l_aload_n rfl rfl ?_
                    refine l_iconst rfl ?_
                    refine l_callV rfl rfl rfl (t_gr_takePlace hHT49 0 ⟨by omega, by omega⟩ (by first | assumption | omega) (by first | assumption | omega) (by first | omega | exact ⟨by omega, by rw [x877 rfl, show (Xi T49 890 1).toNat = (Xi U48 890 1).toNat by omega]; omega⟩) _) ?_
                    rintro _ T51 ⟨hHT51, w564, z563, rfl, w563, w561, w562⟩
                    have hFT51 : FR md_gr_checkBe S T51 := FR.tr hFT49 w564 rfl
                    show Rl _ _ _ _ _ [iv z563] _ _
                    refine l_if_eq rfl rfl (by unfold rg; omega) (fun w565 => ?_) (fun w566 => ?_)
                    · refine l_iconst rfl ?_
                      refine l_ireturn rfl rfl ?_
                      have w567 : Xi T51 890 2 = Xi U47 890 2 := (show Xi T51 890 2 = Xi T49 890 2 from w564.x _ _ rfl).trans ( (show Xi T49 890 2 = Xi U48 890 2 from w531.x _ _ rfl).trans ((show Xi U48 890 2 = Xi U47 890 2 from by rw [eU48]; exact Xi_ne (by omega))))
                      have w568 : 0 ≤ Xi U47 890 2 ∧ Xi U47 890 2 ≤ 20 := hHU47.c _ _
                      exact ⟨hHT51, hFT51, _, rfl, ⟨by omega, by omega⟩, (by first | assumption | omega)⟩
                    · refine l_aload_n rfl rfl ?_
                      refine l_bipush rfl rfl ?_
                      have w569 : Xi T51 876 7 = Xi S 876 7 := (show Xi T51 876 7 = Xi T49 876 7 from w564.x _ _ rfl).trans ( (show Xi T49 876 7 = Xi U48 876 7 from w531.x _ _ rfl).trans ( (show Xi U48 876 7 = Xi U47 876 7 from by rw [eU48]; exact Xi_ne (by omega)).trans ( (show Xi U47 876 7 = Xi T2 876 7 from by rw [eU47]; exact Xi_ne (by omega)).trans ( (show Xi T2 876 7 = Xi T1 876 7 from w23.x _ _ rfl).trans ((show Xi T1 876 7 = Xi S 876 7 from w12.x _ _ rfl))))))
                      have w571 : 0 ≤ Xi T51 890 1 ∧ Xi T51 890 1 ≤ 5126 := hHT51.c _ _
                      refine l_callV rfl rfl rfl (t_gr_take hHT51 103 ⟨by omega, by omega⟩ (by first | assumption | omega) (by first | assumption | omega) (by first | assumption | omega) _) ?_
                      rintro _ T52 ⟨hHT52, w577, z576, rfl, w576, w572, w573, w574, w575⟩
                      have hFT52 : FR md_gr_checkBe S T52 := FR.tr hFT51 w577 rfl
                      show Rl _ _ _ _ _ [iv z576] _ _
                      refine l_if_eq rfl rfl (by unfold rg; omega) (fun w578 => ?_) (fun w579 => ?_)
                      · refine l_iconst rfl ?_
                        refine l_ireturn rfl rfl ?_
                        have w580 : Xi T52 890 2 = Xi U47 890 2 := (show Xi T52 890 2 = Xi T51 890 2 from w577.x _ _ rfl).trans ( (show Xi T51 890 2 = Xi T49 890 2 from w564.x _ _ rfl).trans ( (show Xi T49 890 2 = Xi U48 890 2 from w531.x _ _ rfl).trans ((show Xi U48 890 2 = Xi U47 890 2 from by rw [eU48]; exact Xi_ne (by omega)))))
                        have w581 : 0 ≤ Xi U47 890 2 ∧ Xi U47 890 2 ≤ 20 := hHU47.c _ _
                        exact ⟨hHT52, hFT52, _, rfl, ⟨by omega, by omega⟩, (by first | assumption | omega)⟩
                      · refine l_iconst rfl ?_
                        refine l_goto rfl rfl ?_
                        refine l_ireturn rfl rfl ?_
                        have w582 : Xi T52 890 2 = Xi U47 890 2 := (show Xi T52 890 2 = Xi T51 890 2 from w577.x _ _ rfl).trans ( (show Xi T51 890 2 = Xi T49 890 2 from w564.x _ _ rfl).trans ( (show Xi T49 890 2 = Xi U48 890 2 from w531.x _ _ rfl).trans ((show Xi U48 890 2 = Xi U47 890 2 from by rw [eU48]; exact Xi_ne (by omega)))))
                        have w583 : 0 ≤ Xi U47 890 2 ∧ Xi U47 890 2 ≤ 20 := hHU47.c _ _
                        exact ⟨hHT52, hFT52, _, rfl, ⟨by omega, by omega⟩, (by first | assumption | omega)⟩
            · refine l_iload_n rfl rfl ?_
              refine l_bipush rfl rfl ?_
              refine l_icmp_ne rfl rfl (by unfold rg; omega) (by unfold rg; omega) (fun w584 => ?_) (fun w585 => ?_)
              · refine l_iload_n rfl rfl ?_
                refine l_callS rfl rfl (by decide) rfl (t_rs_isArt hHT2 z32 ⟨by omega, by omega⟩ _) ?_
                rintro _ _ ⟨rfl, z587, rfl, w587, w586⟩
                show Rl _ _ _ _ _ [iv z587] _ _
                refine l_if_eq rfl rfl (by unfold rg; omega) (fun w588 => ?_) (fun w589 => ?_)
                · refine l_aload_n rfl rfl ?_
                  have w592 : 0 ≤ Xi T2 890 1 ∧ Xi T2 890 1 ≤ 5126 := hHT2.c _ _
                  refine l_callV rfl rfl rfl (t_gr_atPlace hHT2 _) ?_
                  rintro _ _ ⟨rfl, z594, rfl, w594, w593⟩
                  show Rl _ _ _ _ _ [iv z594] _ _
                  refine l_if_eq rfl rfl (by unfold rg; omega) (fun w595 => ?_) (fun w596 => ?_)
                  · refine l_aload_n rfl rfl ?_
                    refine l_aload_n rfl rfl ?_
                    refine l_bipush rfl rfl ?_
                    refine l_callV rfl rfl rfl (t_gr_take hHT2 6 ⟨by omega, by omega⟩ (by first | assumption | omega) (by first | assumption | omega) (by first | assumption | omega) _) ?_
                    rintro _ T53 ⟨hHT53, w605, z604, rfl, w604, w600, w601, w602, w603⟩
                    have hFT53 : FR md_gr_checkBe S T53 := FR.tr hFT2 w605 rfl
                    show Rl _ _ _ _ _ [iv z604, .ref 890] _ _
                    refine l_if_ne rfl rfl (by unfold rg; omega) (fun w606 => ?_) (fun w607 => ?_)
                    · refine l_iconst rfl ?_
                      refine l_goto rfl rfl ?_
                      have w608 : Xi T53 876 7 = Xi S 876 7 := (show Xi T53 876 7 = Xi T2 876 7 from w605.x _ _ rfl).trans ( (show Xi T2 876 7 = Xi T1 876 7 from w23.x _ _ rfl).trans ((show Xi T1 876 7 = Xi S 876 7 from w12.x _ _ rfl)))
                      have w610 : 0 ≤ Xi T53 890 1 ∧ Xi T53 890 1 ≤ 5126 := hHT53.c _ _
                      refine l_callV rfl rfl rfl (t_gr_checkRuns hHT53 1 ⟨by omega, by omega⟩ (by first | assumption | omega) (by first | assumption | omega) _) ?_
                      rintro _ T54 ⟨hHT54, w615, z614, rfl, w614, w611, w612, w613⟩
                      have hFT54 : FR md_gr_checkBe S T54 := FR.tr hFT53 w615 rfl
                      show Rl _ _ _ _ _ [iv z614] _ _
                      refine l_ireturn rfl (retI_z (by omega)) ?_
                      have w616 : 0 ≤ Xi T54 890 2 ∧ Xi T54 890 2 ≤ 20 := hHT54.c _ _
                      exact ⟨hHT54, hFT54, _, rfl, ⟨by omega, by omega⟩, (by first | assumption | omega)⟩
                    · refine l_aload_n rfl rfl ?_
                      refine l_bipush rfl rfl ?_
                      have w617 : Xi T53 876 7 = Xi S 876 7 := (show Xi T53 876 7 = Xi T2 876 7 from w605.x _ _ rfl).trans ( (show Xi T2 876 7 = Xi T1 876 7 from w23.x _ _ rfl).trans ((show Xi T1 876 7 = Xi S 876 7 from w12.x _ _ rfl)))
                      have w619 : 0 ≤ Xi T53 890 1 ∧ Xi T53 890 1 ≤ 5126 := hHT53.c _ _
                      refine l_callV rfl rfl rfl (t_gr_take hHT53 32 ⟨by omega, by omega⟩ (by first | assumption | omega) (by first | assumption | omega) (by first | assumption | omega) _) ?_
                      rintro _ T55 ⟨hHT55, w625, z624, rfl, w624, w620, w621, w622, w623⟩
                      have hFT55 : FR md_gr_checkBe S T55 := FR.tr hFT53 w625 rfl
                      show Rl _ _ _ _ _ [iv z624, .ref 890] _ _
                      refine l_if_eq rfl rfl (by unfold rg; omega) (fun w626 => ?_) (fun w627 => ?_)
                      · refine l_iconst rfl ?_
                        have w628 : Xi T55 876 7 = Xi S 876 7 := (show Xi T55 876 7 = Xi T53 876 7 from w625.x _ _ rfl).trans ( (show Xi T53 876 7 = Xi T2 876 7 from w605.x _ _ rfl).trans ( (show Xi T2 876 7 = Xi T1 876 7 from w23.x _ _ rfl).trans ((show Xi T1 876 7 = Xi S 876 7 from w12.x _ _ rfl))))
                        have w630 : 0 ≤ Xi T55 890 1 ∧ Xi T55 890 1 ≤ 5126 := hHT55.c _ _
                        refine l_callV rfl rfl rfl (t_gr_checkRuns hHT55 0 ⟨by omega, by omega⟩ (by first | assumption | omega) (by first | assumption | omega) _) ?_
                        rintro _ T56 ⟨hHT56, w635, z634, rfl, w634, w631, w632, w633⟩
                        have hFT56 : FR md_gr_checkBe S T56 := FR.tr hFT55 w635 rfl
                        show Rl _ _ _ _ _ [iv z634] _ _
                        refine l_ireturn rfl (retI_z (by omega)) ?_
                        have w636 : 0 ≤ Xi T56 890 2 ∧ Xi T56 890 2 ≤ 20 := hHT56.c _ _
                        exact ⟨hHT56, hFT56, _, rfl, ⟨by omega, by omega⟩, (by first | assumption | omega)⟩
                      · refine l_iconst rfl ?_
                        refine l_goto rfl rfl ?_
                        have w637 : Xi T55 876 7 = Xi S 876 7 := (show Xi T55 876 7 = Xi T53 876 7 from w625.x _ _ rfl).trans ( (show Xi T53 876 7 = Xi T2 876 7 from w605.x _ _ rfl).trans ( (show Xi T2 876 7 = Xi T1 876 7 from w23.x _ _ rfl).trans ((show Xi T1 876 7 = Xi S 876 7 from w12.x _ _ rfl))))
                        have w639 : 0 ≤ Xi T55 890 1 ∧ Xi T55 890 1 ≤ 5126 := hHT55.c _ _
                        refine l_callV rfl rfl rfl (t_gr_checkRuns hHT55 1 ⟨by omega, by omega⟩ (by first | assumption | omega) (by first | assumption | omega) _) ?_
                        rintro _ T57 ⟨hHT57, w644, z643, rfl, w643, w640, w641, w642⟩
                        have hFT57 : FR md_gr_checkBe S T57 := FR.tr hFT55 w644 rfl
                        show Rl _ _ _ _ _ [iv z643] _ _
                        refine l_ireturn rfl (retI_z (by omega)) ?_
                        have w645 : 0 ≤ Xi T57 890 2 ∧ Xi T57 890 2 ≤ 20 := hHT57.c _ _
                        exact ⟨hHT57, hFT57, _, rfl, ⟨by omega, by omega⟩, (by first | assumption | omega)⟩
                  · refine l_aload_n rfl rfl ?_
                    refine l_bipush rfl rfl ?_
                    refine l_pfi rfl rfl rfl rfl ?_
                    obtain ⟨U58, eU58⟩ : ∃ T : sS, T = uI T2 890 2 (Int32.ofInt 13) := ⟨_, rfl⟩
                    rw [← eU58]
                    have hHU58 : HI U58 := by rw [eU58]; exact HI_w hHT2 (show 0 ≤ 13 by omega) (show 13 ≤ 20 by omega)
                    have hFU58 : FR md_gr_checkBe S U58 := by rw [eU58]; exact FR.wI hFT2 (mdf_i (r := (890, 891, 2, 3)) (List.mem_of_getElem? (i := 1) rfl) (inR_i (by omega) (by omega) (by omega) (by omega)))
                    have w646 : Xi U58 890 2 = 13 := by rw [eU58]; exact Xi_same (by unfold rg; omega)
                    have hso321 : SAY U58 (Xi U58 890 1) := SAY_sort eU58 (by assumption) (by decide)
                    refine l_aload_n rfl rfl ?_
                    refine l_iconst rfl ?_
                    have w647 : Xi U58 876 7 = Xi S 876 7 := (show Xi U58 876 7 = Xi T2 876 7 from by rw [eU58]; exact Xi_ne (by omega)).trans ( (show Xi T2 876 7 = Xi T1 876 7 from w23.x _ _ rfl).trans ((show Xi T1 876 7 = Xi S 876 7 from w12.x _ _ rfl)))
                    have w649 : Xi U58 890 1 = Xi T2 890 1 := (show Xi U58 890 1 = Xi T2 890 1 from by rw [eU58]; exact Xi_ne (by omega))
                    refine l_callV rfl rfl rfl (t_gr_takePlace hHU58 0 ⟨by omega, by omega⟩ (by first | assumption | omega) (by first | assumption | omega) (by first | omega | exact ⟨by omega, by rw [x877 eU58, show (Xi U58 890 1).toNat = (Xi T2 890 1).toNat by omega]; omega⟩) _) ?_
                    rintro _ T59 ⟨hHT59, w654, z653, rfl, w653, w651, w652⟩
                    have hFT59 : FR md_gr_checkBe S T59 := FR.tr hFU58 w654 rfl
                    show Rl _ _ _ _ _ [iv z653] _ _
                    refine l_if_eq rfl rfl (by unfold rg; omega) (fun w655 => ?_) (fun w656 => ?_)
                    · refine l_iconst rfl ?_
                      refine l_ireturn rfl rfl ?_
                      have w657 : Xi T59 890 2 = Xi U58 890 2 := (show Xi T59 890 2 = Xi U58 890 2 from w654.x _ _ rfl)
                      have w658 : 0 ≤ Xi U58 890 2 ∧ Xi U58 890 2 ≤ 20 := hHU58.c _ _
                      exact ⟨hHT59, hFT59, _, rfl, ⟨by omega, by omega⟩, (by first | assumption | omega)⟩
                    · refine l_aload_n rfl rfl ?_
                      refine l_bipush rfl rfl ?_
                      have w659 : Xi T59 876 7 = Xi S 876 7 := (show Xi T59 876 7 = Xi U58 876 7 from w654.x _ _ rfl).trans ( (show Xi U58 876 7 = Xi T2 876 7 from by rw [eU58]; exact Xi_ne (by omega)).trans ( (show Xi T2 876 7 = Xi T1 876 7 from w23.x _ _ rfl).trans ((show Xi T1 876 7 = Xi S 876 7 from w12.x _ _ rfl))))
                      have w661 : 0 ≤ Xi T59 890 1 ∧ Xi T59 890 1 ≤ 5126 := hHT59.c _ _
                      refine l_callV rfl rfl rfl (t_gr_take hHT59 103 ⟨by omega, by omega⟩ (by first | assumption | omega) (by first | assumption | omega) (by first | assumption | omega) _) ?_
                      rintro _ T60 ⟨hHT60, w667, z666, rfl, w666, w662, w663, w664, w665⟩
                      have hFT60 : FR md_gr_checkBe S T60 := FR.tr hFT59 w667 rfl
                      show Rl _ _ _ _ _ [iv z666] _ _
                      refine l_if_eq rfl rfl (by unfold rg; omega) (fun w668 => ?_) (fun w669 => ?_)
                      · refine l_iconst rfl ?_
                        refine l_ireturn rfl rfl ?_
                        have w670 : Xi T60 890 2 = Xi U58 890 2 := (show Xi T60 890 2 = Xi T59 890 2 from w667.x _ _ rfl).trans ((show Xi T59 890 2 = Xi U58 890 2 from w654.x _ _ rfl))
                        have w671 : 0 ≤ Xi U58 890 2 ∧ Xi U58 890 2 ≤ 20 := hHU58.c _ _
                        exact ⟨hHT60, hFT60, _, rfl, ⟨by omega, by omega⟩, (by first | assumption | omega)⟩
                      · refine l_iconst rfl ?_
                        refine l_goto rfl rfl ?_
                        refine l_ireturn rfl rfl ?_
                        have w672 : Xi T60 890 2 = Xi U58 890 2 := (show Xi T60 890 2 = Xi T59 890 2 from w667.x _ _ rfl).trans ((show Xi T59 890 2 = Xi U58 890 2 from w654.x _ _ rfl))
                        have w673 : 0 ≤ Xi U58 890 2 ∧ Xi U58 890 2 ≤ 20 := hHU58.c _ _
                        exact ⟨hHT60, hFT60, _, rfl, ⟨by omega, by omega⟩, (by first | assumption | omega)⟩
                · refine l_aload_n rfl rfl ?_
                  refine l_bipush rfl rfl ?_
                  refine l_pfi rfl rfl rfl rfl ?_
                  obtain ⟨U61, eU61⟩ : ∃ T : sS, T = uI T2 890 2 (Int32.ofInt 12) := ⟨_, rfl⟩
                  rw [← eU61]
                  have hHU61 : HI U61 := by rw [eU61]; exact HI_w hHT2 (show 0 ≤ 12 by omega) (show 12 ≤ 20 by omega)
                  have hFU61 : FR md_gr_checkBe S U61 := by rw [eU61]; exact FR.wI hFT2 (mdf_i (r := (890, 891, 2, 3)) (List.mem_of_getElem? (i := 1) rfl) (inR_i (by omega) (by omega) (by omega) (by omega)))
                  have w674 : Xi U61 890 2 = 12 := by rw [eU61]; exact Xi_same (by unfold rg; omega)
                  have hso261 : SAY U61 (Xi U61 890 1) := SAY_sort eU61 (by assumption) (by decide)
                  refine l_aload_n rfl rfl ?_
                  refine l_dup rfl rfl ?_
                  refine l_gfi rfl rfl rfl rfl rfl ?_
                  have w675 : (Xi U61 890 1) = (Xi T2 890 1) := (show Xi U61 890 1 = Xi T2 890 1 from by rw [eU61]; exact Xi_ne (by omega))
                  rw [w675]
                  refine l_iconst rfl ?_
                  refine l_iadd rfl ?_
                  refine l_pfi rfl rfl rfl rfl ?_
                  obtain ⟨U62, eU62⟩ : ∃ T : sS, T = uI U61 890 1 (Int32.ofInt ((Xi T2 890 1) + 1)) := ⟨_, rfl⟩
                  rw [← eU62]
                  have hHU62 : HI U62 := by rw [eU62]; exact HI_w hHU61 (show 0 ≤ ((Xi T2 890 1) + 1) by omega) (show ((Xi T2 890 1) + 1) ≤ 5126 by omega)
                  have hFU62 : FR md_gr_checkBe S U62 := by rw [eU62]; exact FR.wI hFU61 (mdf_i (r := (890, 891, 1, 2)) (List.mem_of_getElem? (i := 0) rfl) (inR_i (by omega) (by omega) (by omega) (by omega)))
                  have w676 : Xi U62 890 1 = ((Xi T2 890 1) + 1) := by rw [eU62]; exact Xi_same (by unfold rg; omega)
                  have hs271 : SAY U62 (Xi U62 890 1) := SAY_1x eU61 eU62 (by omega) (by assumption) (by omega) (by omega) (by omega)
                  refine l_aload_n rfl rfl ?_
                  have w677 : Xi U62 876 7 = Xi S 876 7 := (show Xi U62 876 7 = Xi U61 876 7 from by rw [eU62]; exact Xi_ne (by omega)).trans ( (show Xi U61 876 7 = Xi T2 876 7 from by rw [eU61]; exact Xi_ne (by omega)).trans ( (show Xi T2 876 7 = Xi T1 876 7 from w23.x _ _ rfl).trans ((show Xi T1 876 7 = Xi S 876 7 from w12.x _ _ rfl))))
                  have w679 : 0 ≤ Xi U62 890 1 ∧ Xi U62 890 1 ≤ 5126 := hHU62.c _ _
                  refine l_callV rfl rfl rfl (t_gr_takeRun hHU62 (by first | assumption | omega) (by first | assumption | omega) _) ?_
                  rintro _ T63 ⟨hHT63, w684, z683, rfl, w683, w680, w681, w682⟩
                  have hFT63 : FR md_gr_checkBe S T63 := FR.tr hFU62 w684 rfl
                  show Rl _ _ _ _ _ [iv z683] _ _
                  refine l_if_eq rfl rfl (by unfold rg; omega) (fun w685 => ?_) (fun w686 => ?_)
                  · refine l_iconst rfl ?_
                    refine l_ireturn rfl rfl ?_
                    have w687 : Xi T63 890 2 = Xi U61 890 2 := (show Xi T63 890 2 = Xi U62 890 2 from w684.x _ _ rfl).trans ((show Xi U62 890 2 = Xi U61 890 2 from by rw [eU62]; exact Xi_ne (by omega)))
                    have w688 : 0 ≤ Xi U61 890 2 ∧ Xi U61 890 2 ≤ 20 := hHU61.c _ _
                    exact ⟨hHT63, hFT63, _, rfl, ⟨by omega, by omega⟩, (by first | assumption | omega)⟩
                  · refine l_aload_n rfl rfl ?_
                    have w689 : Xi T63 876 7 = Xi S 876 7 := (show Xi T63 876 7 = Xi U62 876 7 from w684.x _ _ rfl).trans ( (show Xi U62 876 7 = Xi U61 876 7 from by rw [eU62]; exact Xi_ne (by omega)).trans ( (show Xi U61 876 7 = Xi T2 876 7 from by rw [eU61]; exact Xi_ne (by omega)).trans ( (show Xi T2 876 7 = Xi T1 876 7 from w23.x _ _ rfl).trans ((show Xi T1 876 7 = Xi S 876 7 from w12.x _ _ rfl)))))
                    have w691 : 0 ≤ Xi T63 890 1 ∧ Xi T63 890 1 ≤ 5126 := hHT63.c _ _
                    refine l_callV rfl rfl rfl (t_gr_atPlace hHT63 _) ?_
                    rintro _ _ ⟨rfl, z693, rfl, w693, w692⟩
                    show Rl _ _ _ _ _ [iv z693] _ _
                    refine l_if_eq rfl rfl (by unfold rg; omega) (fun w694 => ?_) (fun w695 => ?_)
                    · refine l_aload_n rfl rfl ?_
                      refine l_bipush rfl rfl ?_
                      refine l_callV rfl rfl rfl (t_gr_take hHT63 103 ⟨by omega, by omega⟩ (by first | assumption | omega) (by first | assumption | omega) (by first | assumption | omega) _) ?_
                      rintro _ T64 ⟨hHT64, w704, z703, rfl, w703, w699, w700, w701, w702⟩
                      have hFT64 : FR md_gr_checkBe S T64 := FR.tr hFT63 w704 rfl
                      show Rl _ _ _ _ _ [iv z703] _ _
                      refine l_if_eq rfl rfl (by unfold rg; omega) (fun w705 => ?_) (fun w706 => ?_)
                      · refine l_iconst rfl ?_
                        refine l_ireturn rfl rfl ?_
                        have w707 : Xi T64 890 2 = Xi U61 890 2 := (show Xi T64 890 2 = Xi T63 890 2 from w704.x _ _ rfl).trans ( (show Xi T63 890 2 = Xi U62 890 2 from w684.x _ _ rfl).trans ((show Xi U62 890 2 = Xi U61 890 2 from by rw [eU62]; exact Xi_ne (by omega))))
                        have w708 : 0 ≤ Xi U61 890 2 ∧ Xi U61 890 2 ≤ 20 := hHU61.c _ _
                        exact ⟨hHT64, hFT64, _, rfl, ⟨by omega, by omega⟩, (by first | assumption | omega)⟩
                      · refine l_iconst rfl ?_
                        refine l_goto rfl rfl ?_
                        refine l_ireturn rfl rfl ?_
                        have w709 : Xi T64 890 2 = Xi U61 890 2 := (show Xi T64 890 2 = Xi T63 890 2 from w704.x _ _ rfl).trans ( (show Xi T63 890 2 = Xi U62 890 2 from w684.x _ _ rfl).trans ((show Xi U62 890 2 = Xi U61 890 2 from by rw [eU62]; exact Xi_ne (by omega))))
                        have w710 : 0 ≤ Xi U61 890 2 ∧ Xi U61 890 2 ≤ 20 := hHU61.c _ _
                        exact ⟨hHT64, hFT64, _, rfl, ⟨by omega, by omega⟩, (by first | assumption | omega)⟩
                    · refine l_aload_n rfl rfl ?_
                      refine l_iconst rfl ?_
                      refine l_callV rfl rfl rfl (t_gr_takePlace hHT63 0 ⟨by omega, by omega⟩ (by first | assumption | omega) (by first | assumption | omega) (by first | omega | exact ⟨by omega, by rw [x877 rfl, show (Xi T63 890 1).toNat = (Xi U62 890 1).toNat by omega]; omega⟩) _) ?_
                      rintro _ T65 ⟨hHT65, w717, z716, rfl, w716, w714, w715⟩
                      have hFT65 : FR md_gr_checkBe S T65 := FR.tr hFT63 w717 rfl
                      show Rl _ _ _ _ _ [iv z716] _ _
                      refine l_if_eq rfl rfl (by unfold rg; omega) (fun w718 => ?_) (fun w719 => ?_)
                      · refine l_iconst rfl ?_
                        refine l_ireturn rfl rfl ?_
                        have w720 : Xi T65 890 2 = Xi U61 890 2 := (show Xi T65 890 2 = Xi T63 890 2 from w717.x _ _ rfl).trans ( (show Xi T63 890 2 = Xi U62 890 2 from w684.x _ _ rfl).trans ((show Xi U62 890 2 = Xi U61 890 2 from by rw [eU62]; exact Xi_ne (by omega))))
                        have w721 : 0 ≤ Xi U61 890 2 ∧ Xi U61 890 2 ≤ 20 := hHU61.c _ _
                        exact ⟨hHT65, hFT65, _, rfl, ⟨by omega, by omega⟩, (by first | assumption | omega)⟩
                      · refine l_aload_n rfl rfl ?_
                        refine l_bipush rfl rfl ?_
                        have w722 : Xi T65 876 7 = Xi S 876 7 := (show Xi T65 876 7 = Xi T63 876 7 from w717.x _ _ rfl).trans ( (show Xi T63 876 7 = Xi U62 876 7 from w684.x _ _ rfl).trans ( (show Xi U62 876 7 = Xi U61 876 7 from by rw [eU62]; exact Xi_ne (by omega)).trans ( (show Xi U61 876 7 = Xi T2 876 7 from by rw [eU61]; exact Xi_ne (by omega)).trans ( (show Xi T2 876 7 = Xi T1 876 7 from w23.x _ _ rfl).trans ((show Xi T1 876 7 = Xi S 876 7 from w12.x _ _ rfl))))))
                        have w724 : 0 ≤ Xi T65 890 1 ∧ Xi T65 890 1 ≤ 5126 := hHT65.c _ _
                        refine l_callV rfl rfl rfl (t_gr_take hHT65 103 ⟨by omega, by omega⟩ (by first | assumption | omega) (by first | assumption | omega) (by first | assumption | omega) _) ?_
                        rintro _ T66 ⟨hHT66, w730, z729, rfl, w729, w725, w726, w727, w728⟩
                        have hFT66 : FR md_gr_checkBe S T66 := FR.tr hFT65 w730 rfl
                        show Rl _ _ _ _ _ [iv z729] _ _
                        refine l_if_eq rfl rfl (by unfold rg; omega) (fun w731 => ?_) (fun w732 => ?_)
                        · refine l_iconst rfl ?_
                          refine l_ireturn rfl rfl ?_
                          have w733 : Xi T66 890 2 = Xi U61 890 2 := (show Xi T66 890 2 = Xi T65 890 2 from w730.x _ _ rfl).trans ( (show Xi T65 890 2 = Xi T63 890 2 from w717.x _ _ rfl).trans ( (show Xi T63 890 2 = Xi U62 890 2 from w684.x _ _ rfl).trans ((show Xi U62 890 2 = Xi U61 890 2 from by rw [eU62]; exact Xi_ne (by omega)))))
                          have w734 : 0 ≤ Xi U61 890 2 ∧ Xi U61 890 2 ≤ 20 := hHU61.c _ _
                          exact ⟨hHT66, hFT66, _, rfl, ⟨by omega, by omega⟩, (by first | assumption | omega)⟩
                        · refine l_iconst rfl ?_
                          refine l_goto rfl rfl ?_
                          refine l_ireturn rfl rfl ?_
                          have w735 : Xi T66 890 2 = Xi U61 890 2 := (show Xi T66 890 2 = Xi T65 890 2 from w730.x _ _ rfl).trans ( (show Xi T65 890 2 = Xi T63 890 2 from w717.x _ _ rfl).trans ( (show Xi T63 890 2 = Xi U62 890 2 from w684.x _ _ rfl).trans ((show Xi U62 890 2 = Xi U61 890 2 from by rw [eU62]; exact Xi_ne (by omega)))))
                          have w736 : 0 ≤ Xi U61 890 2 ∧ Xi U61 890 2 ≤ 20 := hHU61.c _ _
                          exact ⟨hHT66, hFT66, _, rfl, ⟨by omega, by omega⟩, (by first | assumption | omega)⟩
              · refine l_aload_n rfl rfl ?_
                refine l_bipush rfl rfl ?_
                refine l_pfi rfl rfl rfl rfl ?_
                obtain ⟨U67, eU67⟩ : ∃ T : sS, T = uI T2 890 2 (Int32.ofInt 11) := ⟨_, rfl⟩
                rw [← eU67]
                have hHU67 : HI U67 := by rw [eU67]; exact HI_w hHT2 (show 0 ≤ 11 by omega) (show 11 ≤ 20 by omega)
                have hFU67 : FR md_gr_checkBe S U67 := by rw [eU67]; exact FR.wI hFT2 (mdf_i (r := (890, 891, 2, 3)) (List.mem_of_getElem? (i := 1) rfl) (inR_i (by omega) (by omega) (by omega) (by omega)))
                have w737 : Xi U67 890 2 = 11 := by rw [eU67]; exact Xi_same (by unfold rg; omega)
                have hso189 : SAY U67 (Xi U67 890 1) := SAY_sort eU67 (by assumption) (by decide)
                refine l_aload_n rfl rfl ?_
                refine l_dup rfl rfl ?_
                refine l_gfi rfl rfl rfl rfl rfl ?_
                have w738 : (Xi U67 890 1) = (Xi T2 890 1) := (show Xi U67 890 1 = Xi T2 890 1 from by rw [eU67]; exact Xi_ne (by omega))
                rw [w738]
                refine l_iconst rfl ?_
                refine l_iadd rfl ?_
                refine l_pfi rfl rfl rfl rfl ?_
                obtain ⟨U68, eU68⟩ : ∃ T : sS, T = uI U67 890 1 (Int32.ofInt ((Xi T2 890 1) + 2)) := ⟨_, rfl⟩
                rw [← eU68]
                have hHU68 : HI U68 := by rw [eU68]; exact HI_w hHU67 (show 0 ≤ ((Xi T2 890 1) + 2) by omega) (show ((Xi T2 890 1) + 2) ≤ 5126 by omega)
                have hFU68 : FR md_gr_checkBe S U68 := by rw [eU68]; exact FR.wI hFU67 (mdf_i (r := (890, 891, 1, 2)) (List.mem_of_getElem? (i := 0) rfl) (inR_i (by omega) (by omega) (by omega) (by omega)))
                have w739 : Xi U68 890 1 = ((Xi T2 890 1) + 2) := by rw [eU68]; exact Xi_same (by unfold rg; omega)
                have hs199 : SAY U68 (Xi U68 890 1) := SAY_2x eU67 eU68 (by omega) (by assumption) (by omega) (by omega) (by omega) (by omega)
                refine l_aload_n rfl rfl ?_
                refine l_bipush rfl rfl ?_
                have w740 : Xi U68 876 7 = Xi S 876 7 := (show Xi U68 876 7 = Xi U67 876 7 from by rw [eU68]; exact Xi_ne (by omega)).trans ( (show Xi U67 876 7 = Xi T2 876 7 from by rw [eU67]; exact Xi_ne (by omega)).trans ( (show Xi T2 876 7 = Xi T1 876 7 from w23.x _ _ rfl).trans ((show Xi T1 876 7 = Xi S 876 7 from w12.x _ _ rfl))))
                have w742 : 0 ≤ Xi U68 890 1 ∧ Xi U68 890 1 ≤ 5126 := hHU68.c _ _
                refine l_callV rfl rfl rfl (t_gr_take hHU68 28 ⟨by omega, by omega⟩ (by first | assumption | omega) (by first | assumption | omega) (by first | assumption | omega) _) ?_
                rintro _ T69 ⟨hHT69, w748, z747, rfl, w747, w743, w744, w745, w746⟩
                have hFT69 : FR md_gr_checkBe S T69 := FR.tr hFU68 w748 rfl
                show Rl _ _ _ _ _ [iv z747] _ _
                refine l_if_eq rfl rfl (by unfold rg; omega) (fun w749 => ?_) (fun w750 => ?_)
                · refine l_aload_n rfl rfl ?_
                  refine l_bipush rfl rfl ?_
                  have w751 : Xi T69 876 7 = Xi S 876 7 := (show Xi T69 876 7 = Xi U68 876 7 from w748.x _ _ rfl).trans ( (show Xi U68 876 7 = Xi U67 876 7 from by rw [eU68]; exact Xi_ne (by omega)).trans ( (show Xi U67 876 7 = Xi T2 876 7 from by rw [eU67]; exact Xi_ne (by omega)).trans ( (show Xi T2 876 7 = Xi T1 876 7 from w23.x _ _ rfl).trans ((show Xi T1 876 7 = Xi S 876 7 from w12.x _ _ rfl)))))
                  have w753 : 0 ≤ Xi T69 890 1 ∧ Xi T69 890 1 ≤ 5126 := hHT69.c _ _
                  refine l_callV rfl rfl rfl (t_gr_take hHT69 103 ⟨by omega, by omega⟩ (by first | assumption | omega) (by first | assumption | omega) (by first | assumption | omega) _) ?_
                  rintro _ T70 ⟨hHT70, w759, z758, rfl, w758, w754, w755, w756, w757⟩
                  have hFT70 : FR md_gr_checkBe S T70 := FR.tr hFT69 w759 rfl
                  show Rl _ _ _ _ _ [iv z758] _ _
                  refine l_if_eq rfl rfl (by unfold rg; omega) (fun w760 => ?_) (fun w761 => ?_)
                  · refine l_iconst rfl ?_
                    refine l_ireturn rfl rfl ?_
                    have w762 : Xi T70 890 2 = Xi U67 890 2 := (show Xi T70 890 2 = Xi T69 890 2 from w759.x _ _ rfl).trans ( (show Xi T69 890 2 = Xi U68 890 2 from w748.x _ _ rfl).trans ((show Xi U68 890 2 = Xi U67 890 2 from by rw [eU68]; exact Xi_ne (by omega))))
                    have w763 : 0 ≤ Xi U67 890 2 ∧ Xi U67 890 2 ≤ 20 := hHU67.c _ _
                    exact ⟨hHT70, hFT70, _, rfl, ⟨by omega, by omega⟩, (by first | assumption | omega)⟩
                  · refine l_iconst rfl ?_
                    refine l_goto rfl rfl ?_
                    refine l_ireturn rfl rfl ?_
                    have w764 : Xi T70 890 2 = Xi U67 890 2 := (show Xi T70 890 2 = Xi T69 890 2 from w759.x _ _ rfl).trans ( (show Xi T69 890 2 = Xi U68 890 2 from w748.x _ _ rfl).trans ((show Xi U68 890 2 = Xi U67 890 2 from by rw [eU68]; exact Xi_ne (by omega))))
                    have w765 : 0 ≤ Xi U67 890 2 ∧ Xi U67 890 2 ≤ 20 := hHU67.c _ _
                    exact ⟨hHT70, hFT70, _, rfl, ⟨by omega, by omega⟩, (by first | assumption | omega)⟩
                · refine l_aload_n rfl rfl ?_
                  refine l_bipush rfl rfl ?_
                  have w766 : Xi T69 876 7 = Xi S 876 7 := (show Xi T69 876 7 = Xi U68 876 7 from w748.x _ _ rfl).trans ( (show Xi U68 876 7 = Xi U67 876 7 from by rw [eU68]; exact Xi_ne (by omega)).trans ( (show Xi U67 876 7 = Xi T2 876 7 from by rw [eU67]; exact Xi_ne (by omega)).trans ( (show Xi T2 876 7 = Xi T1 876 7 from w23.x _ _ rfl).trans ((show Xi T1 876 7 = Xi S 876 7 from w12.x _ _ rfl)))))
                  have w768 : 0 ≤ Xi T69 890 1 ∧ Xi T69 890 1 ≤ 5126 := hHT69.c _ _
                  refine l_callV rfl rfl rfl (t_gr_take hHT69 11 ⟨by omega, by omega⟩ (by first | assumption | omega) (by first | assumption | omega) (by first | assumption | omega) _) ?_
                  rintro _ T71 ⟨hHT71, w774, z773, rfl, w773, w769, w770, w771, w772⟩
                  have hFT71 : FR md_gr_checkBe S T71 := FR.tr hFT69 w774 rfl
                  show Rl _ _ _ _ _ [iv z773] _ _
                  refine l_if_eq rfl rfl (by unfold rg; omega) (fun w775 => ?_) (fun w776 => ?_)
                  · refine l_iconst rfl ?_
                    refine l_ireturn rfl rfl ?_
                    have w777 : Xi T71 890 2 = Xi U67 890 2 := (show Xi T71 890 2 = Xi T69 890 2 from w774.x _ _ rfl).trans ( (show Xi T69 890 2 = Xi U68 890 2 from w748.x _ _ rfl).trans ((show Xi U68 890 2 = Xi U67 890 2 from by rw [eU68]; exact Xi_ne (by omega))))
                    have w778 : 0 ≤ Xi U67 890 2 ∧ Xi U67 890 2 ≤ 20 := hHU67.c _ _
                    exact ⟨hHT71, hFT71, _, rfl, ⟨by omega, by omega⟩, (by first | assumption | omega)⟩
                  · refine l_aload_n rfl rfl ?_
                    refine l_bipush rfl rfl ?_
                    have w779 : Xi T71 876 7 = Xi S 876 7 := (show Xi T71 876 7 = Xi T69 876 7 from w774.x _ _ rfl).trans ( (show Xi T69 876 7 = Xi U68 876 7 from w748.x _ _ rfl).trans ( (show Xi U68 876 7 = Xi U67 876 7 from by rw [eU68]; exact Xi_ne (by omega)).trans ( (show Xi U67 876 7 = Xi T2 876 7 from by rw [eU67]; exact Xi_ne (by omega)).trans ( (show Xi T2 876 7 = Xi T1 876 7 from w23.x _ _ rfl).trans ((show Xi T1 876 7 = Xi S 876 7 from w12.x _ _ rfl))))))
                    have w781 : 0 ≤ Xi T71 890 1 ∧ Xi T71 890 1 ≤ 5126 := hHT71.c _ _
                    refine l_callV rfl rfl rfl (t_gr_take hHT71 22 ⟨by omega, by omega⟩ (by first | assumption | omega) (by first | assumption | omega) (by first | assumption | omega) _) ?_
                    rintro _ T72 ⟨hHT72, w787, z786, rfl, w786, w782, w783, w784, w785⟩
                    have hFT72 : FR md_gr_checkBe S T72 := FR.tr hFT71 w787 rfl
                    show Rl _ _ _ _ _ [iv z786] _ _
                    refine l_if_eq rfl rfl (by unfold rg; omega) (fun w788 => ?_) (fun w789 => ?_)
                    · refine l_iconst rfl ?_
                      refine l_ireturn rfl rfl ?_
                      have w790 : Xi T72 890 2 = Xi U67 890 2 := (show Xi T72 890 2 = Xi T71 890 2 from w787.x _ _ rfl).trans ( (show Xi T71 890 2 = Xi T69 890 2 from w774.x _ _ rfl).trans ( (show Xi T69 890 2 = Xi U68 890 2 from w748.x _ _ rfl).trans ((show Xi U68 890 2 = Xi U67 890 2 from by rw [eU68]; exact Xi_ne (by omega)))))
                      have w791 : 0 ≤ Xi U67 890 2 ∧ Xi U67 890 2 ≤ 20 := hHU67.c _ _
                      exact ⟨hHT72, hFT72, _, rfl, ⟨by omega, by omega⟩, (by first | assumption | omega)⟩
                    · refine l_aload_n rfl rfl ?_
                      have w792 : Xi T72 876 7 = Xi S 876 7 := (show Xi T72 876 7 = Xi T71 876 7 from w787.x _ _ rfl).trans ( (show Xi T71 876 7 = Xi T69 876 7 from w774.x _ _ rfl).trans ( (show Xi T69 876 7 = Xi U68 876 7 from w748.x _ _ rfl).trans ( (show Xi U68 876 7 = Xi U67 876 7 from by rw [eU68]; exact Xi_ne (by omega)).trans ( (show Xi U67 876 7 = Xi T2 876 7 from by rw [eU67]; exact Xi_ne (by omega)).trans ( (show Xi T2 876 7 = Xi T1 876 7 from w23.x _ _ rfl).trans ((show Xi T1 876 7 = Xi S 876 7 from w12.x _ _ rfl)))))))
                      have w794 : 0 ≤ Xi T72 890 1 ∧ Xi T72 890 1 ≤ 5126 := hHT72.c _ _
                      refine l_callV rfl rfl rfl (t_gr_takeRun hHT72 (by first | assumption | omega) (by first | assumption | omega) _) ?_
                      rintro _ T73 ⟨hHT73, w799, z798, rfl, w798, w795, w796, w797⟩
                      have hFT73 : FR md_gr_checkBe S T73 := FR.tr hFT72 w799 rfl
                      show Rl _ _ _ _ _ [iv z798] _ _
                      refine l_if_eq rfl rfl (by unfold rg; omega) (fun w800 => ?_) (fun w801 => ?_)
                      · refine l_iconst rfl ?_
                        refine l_ireturn rfl rfl ?_
                        have w802 : Xi T73 890 2 = Xi U67 890 2 := (show Xi T73 890 2 = Xi T72 890 2 from w799.x _ _ rfl).trans ( (show Xi T72 890 2 = Xi T71 890 2 from w787.x _ _ rfl).trans ( (show Xi T71 890 2 = Xi T69 890 2 from w774.x _ _ rfl).trans ( (show Xi T69 890 2 = Xi U68 890 2 from w748.x _ _ rfl).trans ((show Xi U68 890 2 = Xi U67 890 2 from by rw [eU68]; exact Xi_ne (by omega))))))
                        have w803 : 0 ≤ Xi U67 890 2 ∧ Xi U67 890 2 ≤ 20 := hHU67.c _ _
                        exact ⟨hHT73, hFT73, _, rfl, ⟨by omega, by omega⟩, (by first | assumption | omega)⟩
                      · refine l_aload_n rfl rfl ?_
                        refine l_bipush rfl rfl ?_
                        have w804 : Xi T73 876 7 = Xi S 876 7 := (show Xi T73 876 7 = Xi T72 876 7 from w799.x _ _ rfl).trans ( (show Xi T72 876 7 = Xi T71 876 7 from w787.x _ _ rfl).trans ( (show Xi T71 876 7 = Xi T69 876 7 from w774.x _ _ rfl).trans ( (show Xi T69 876 7 = Xi U68 876 7 from w748.x _ _ rfl).trans ( (show Xi U68 876 7 = Xi U67 876 7 from by rw [eU68]; exact Xi_ne (by omega)).trans ( (show Xi U67 876 7 = Xi T2 876 7 from by rw [eU67]; exact Xi_ne (by omega)).trans ( (show Xi T2 876 7 = Xi T1 876 7 from w23.x _ _ rfl).trans ((show Xi T1 876 7 = Xi S 876 7 from w12.x _ _ rfl))))))))
                        have w806 : 0 ≤ Xi T73 890 1 ∧ Xi T73 890 1 ≤ 5126 := hHT73.c _ _
                        refine l_callV rfl rfl rfl (t_gr_take hHT73 103 ⟨by omega, by omega⟩ (by first | assumption | omega) (by first | assumption | omega) (by first | assumption | omega) _) ?_
                        rintro _ T74 ⟨hHT74, w812, z811, rfl, w811, w807, w808, w809, w810⟩
                        have hFT74 : FR md_gr_checkBe S T74 := FR.tr hFT73 w812 rfl
                        show Rl _ _ _ _ _ [iv z811] _ _
                        refine l_if_eq rfl rfl (by unfold rg; omega) (fun w813 => ?_) (fun w814 => ?_)
                        · refine l_iconst rfl ?_
                          refine l_ireturn rfl rfl ?_
                          have w815 : Xi T74 890 2 = Xi U67 890 2 := (show Xi T74 890 2 = Xi T73 890 2 from w812.x _ _ rfl).trans ( (show Xi T73 890 2 = Xi T72 890 2 from w799.x _ _ rfl).trans ( (show Xi T72 890 2 = Xi T71 890 2 from w787.x _ _ rfl).trans ( (show Xi T71 890 2 = Xi T69 890 2 from w774.x _ _ rfl).trans ( (show Xi T69 890 2 = Xi U68 890 2 from w748.x _ _ rfl).trans ((show Xi U68 890 2 = Xi U67 890 2 from by rw [eU68]; exact Xi_ne (by omega)))))))
                          have w816 : 0 ≤ Xi U67 890 2 ∧ Xi U67 890 2 ≤ 20 := hHU67.c _ _
                          exact ⟨hHT74, hFT74, _, rfl, ⟨by omega, by omega⟩, (by first | assumption | omega)⟩
                        · refine l_iconst rfl ?_
                          refine l_goto rfl rfl ?_
                          refine l_ireturn rfl rfl ?_
                          have w817 : Xi T74 890 2 = Xi U67 890 2 := (show Xi T74 890 2 = Xi T73 890 2 from w812.x _ _ rfl).trans ( (show Xi T73 890 2 = Xi T72 890 2 from w799.x _ _ rfl).trans ( (show Xi T72 890 2 = Xi T71 890 2 from w787.x _ _ rfl).trans ( (show Xi T71 890 2 = Xi T69 890 2 from w774.x _ _ rfl).trans ( (show Xi T69 890 2 = Xi U68 890 2 from w748.x _ _ rfl).trans ((show Xi U68 890 2 = Xi U67 890 2 from by rw [eU68]; exact Xi_ne (by omega)))))))
                          have w818 : 0 ≤ Xi U67 890 2 ∧ Xi U67 890 2 ≤ 20 := hHU67.c _ _
                          exact ⟨hHT74, hFT74, _, rfl, ⟨by omega, by omega⟩, (by first | assumption | omega)⟩
          · refine l_aload_n rfl rfl ?_
            refine l_bipush rfl rfl ?_
            refine l_pfi rfl rfl rfl rfl ?_
            obtain ⟨U75, eU75⟩ : ∃ T : sS, T = uI T2 890 2 (Int32.ofInt 10) := ⟨_, rfl⟩
            rw [← eU75]
            have hHU75 : HI U75 := by rw [eU75]; exact HI_w hHT2 (show 0 ≤ 10 by omega) (show 10 ≤ 20 by omega)
            have hFU75 : FR md_gr_checkBe S U75 := by rw [eU75]; exact FR.wI hFT2 (mdf_i (r := (890, 891, 2, 3)) (List.mem_of_getElem? (i := 1) rfl) (inR_i (by omega) (by omega) (by omega) (by omega)))
            have w819 : Xi U75 890 2 = 10 := by rw [eU75]; exact Xi_same (by unfold rg; omega)
            have hso122 : SAY U75 (Xi U75 890 1) := SAY_sort eU75 (by assumption) (by decide)
            refine l_aload_n rfl rfl ?_
            refine l_dup rfl rfl ?_
            refine l_gfi rfl rfl rfl rfl rfl ?_
            have w820 : (Xi U75 890 1) = (Xi T2 890 1) := (show Xi U75 890 1 = Xi T2 890 1 from by rw [eU75]; exact Xi_ne (by omega))
            rw [w820]
            refine l_iconst rfl ?_
            refine l_iadd rfl ?_
            refine l_pfi rfl rfl rfl rfl ?_
            obtain ⟨U76, eU76⟩ : ∃ T : sS, T = uI U75 890 1 (Int32.ofInt ((Xi T2 890 1) + 2)) := ⟨_, rfl⟩
            rw [← eU76]
            have hHU76 : HI U76 := by rw [eU76]; exact HI_w hHU75 (show 0 ≤ ((Xi T2 890 1) + 2) by omega) (show ((Xi T2 890 1) + 2) ≤ 5126 by omega)
            have hFU76 : FR md_gr_checkBe S U76 := by rw [eU76]; exact FR.wI hFU75 (mdf_i (r := (890, 891, 1, 2)) (List.mem_of_getElem? (i := 0) rfl) (inR_i (by omega) (by omega) (by omega) (by omega)))
            have w821 : Xi U76 890 1 = ((Xi T2 890 1) + 2) := by rw [eU76]; exact Xi_same (by unfold rg; omega)
            have hs132 : SAY U76 (Xi U76 890 1) := SAY_2x eU75 eU76 (by omega) (by assumption) (by omega) (by omega) (by omega) (by omega)
            refine l_aload_n rfl rfl ?_
            refine l_bipush rfl rfl ?_
            have w822 : Xi U76 876 7 = Xi S 876 7 := (show Xi U76 876 7 = Xi U75 876 7 from by rw [eU76]; exact Xi_ne (by omega)).trans ( (show Xi U75 876 7 = Xi T2 876 7 from by rw [eU75]; exact Xi_ne (by omega)).trans ( (show Xi T2 876 7 = Xi T1 876 7 from w23.x _ _ rfl).trans ((show Xi T1 876 7 = Xi S 876 7 from w12.x _ _ rfl))))
            have w824 : 0 ≤ Xi U76 890 1 ∧ Xi U76 890 1 ≤ 5126 := hHU76.c _ _
            refine l_callV rfl rfl rfl (t_gr_take hHU76 7 ⟨by omega, by omega⟩ (by first | assumption | omega) (by first | assumption | omega) (by first | assumption | omega) _) ?_
            rintro _ T77 ⟨hHT77, w830, z829, rfl, w829, w825, w826, w827, w828⟩
            have hFT77 : FR md_gr_checkBe S T77 := FR.tr hFU76 w830 rfl
            show Rl _ _ _ _ _ [iv z829] _ _
            refine l_if_eq rfl rfl (by unfold rg; omega) (fun w831 => ?_) (fun w832 => ?_)
            · refine l_aload_n rfl rfl ?_
              refine l_bipush rfl rfl ?_
              have w833 : Xi T77 876 7 = Xi S 876 7 := (show Xi T77 876 7 = Xi U76 876 7 from w830.x _ _ rfl).trans ( (show Xi U76 876 7 = Xi U75 876 7 from by rw [eU76]; exact Xi_ne (by omega)).trans ( (show Xi U75 876 7 = Xi T2 876 7 from by rw [eU75]; exact Xi_ne (by omega)).trans ( (show Xi T2 876 7 = Xi T1 876 7 from w23.x _ _ rfl).trans ((show Xi T1 876 7 = Xi S 876 7 from w12.x _ _ rfl)))))
              have w835 : 0 ≤ Xi T77 890 1 ∧ Xi T77 890 1 ≤ 5126 := hHT77.c _ _
              refine l_callV rfl rfl rfl (t_gr_take hHT77 103 ⟨by omega, by omega⟩ (by first | assumption | omega) (by first | assumption | omega) (by first | assumption | omega) _) ?_
              rintro _ T78 ⟨hHT78, w841, z840, rfl, w840, w836, w837, w838, w839⟩
              have hFT78 : FR md_gr_checkBe S T78 := FR.tr hFT77 w841 rfl
              show Rl _ _ _ _ _ [iv z840] _ _
              refine l_if_eq rfl rfl (by unfold rg; omega) (fun w842 => ?_) (fun w843 => ?_)
              · refine l_iconst rfl ?_
                refine l_ireturn rfl rfl ?_
                have w844 : Xi T78 890 2 = Xi U75 890 2 := (show Xi T78 890 2 = Xi T77 890 2 from w841.x _ _ rfl).trans ( (show Xi T77 890 2 = Xi U76 890 2 from w830.x _ _ rfl).trans ((show Xi U76 890 2 = Xi U75 890 2 from by rw [eU76]; exact Xi_ne (by omega))))
                have w845 : 0 ≤ Xi U75 890 2 ∧ Xi U75 890 2 ≤ 20 := hHU75.c _ _
                exact ⟨hHT78, hFT78, _, rfl, ⟨by omega, by omega⟩, (by first | assumption | omega)⟩
              · refine l_iconst rfl ?_
                refine l_goto rfl rfl ?_
                refine l_ireturn rfl rfl ?_
                have w846 : Xi T78 890 2 = Xi U75 890 2 := (show Xi T78 890 2 = Xi T77 890 2 from w841.x _ _ rfl).trans ( (show Xi T77 890 2 = Xi U76 890 2 from w830.x _ _ rfl).trans ((show Xi U76 890 2 = Xi U75 890 2 from by rw [eU76]; exact Xi_ne (by omega))))
                have w847 : 0 ≤ Xi U75 890 2 ∧ Xi U75 890 2 ≤ 20 := hHU75.c _ _
                exact ⟨hHT78, hFT78, _, rfl, ⟨by omega, by omega⟩, (by first | assumption | omega)⟩
            · refine l_aload_n rfl rfl ?_
              refine l_bipush rfl rfl ?_
              have w848 : Xi T77 876 7 = Xi S 876 7 := (show Xi T77 876 7 = Xi U76 876 7 from w830.x _ _ rfl).trans ( (show Xi U76 876 7 = Xi U75 876 7 from by rw [eU76]; exact Xi_ne (by omega)).trans ( (show Xi U75 876 7 = Xi T2 876 7 from by rw [eU75]; exact Xi_ne (by omega)).trans ( (show Xi T2 876 7 = Xi T1 876 7 from w23.x _ _ rfl).trans ((show Xi T1 876 7 = Xi S 876 7 from w12.x _ _ rfl)))))
              have w850 : 0 ≤ Xi T77 890 1 ∧ Xi T77 890 1 ≤ 5126 := hHT77.c _ _
              refine l_callV rfl rfl rfl (t_gr_take hHT77 20 ⟨by omega, by omega⟩ (by first | assumption | omega) (by first | assumption | omega) (by first | assumption | omega) _) ?_
              rintro _ T79 ⟨hHT79, w856, z855, rfl, w855, w851, w852, w853, w854⟩
              have hFT79 : FR md_gr_checkBe S T79 := FR.tr hFT77 w856 rfl
              show Rl _ _ _ _ _ [iv z855] _ _
              refine l_if_ne rfl rfl (by unfold rg; omega) (fun w857 => ?_) (fun w858 => ?_)
              · refine l_aload_n rfl rfl ?_
                refine l_bipush rfl rfl ?_
                have w859 : Xi T79 876 7 = Xi S 876 7 := (show Xi T79 876 7 = Xi T77 876 7 from w856.x _ _ rfl).trans ( (show Xi T77 876 7 = Xi U76 876 7 from w830.x _ _ rfl).trans ( (show Xi U76 876 7 = Xi U75 876 7 from by rw [eU76]; exact Xi_ne (by omega)).trans ( (show Xi U75 876 7 = Xi T2 876 7 from by rw [eU75]; exact Xi_ne (by omega)).trans ( (show Xi T2 876 7 = Xi T1 876 7 from w23.x _ _ rfl).trans ((show Xi T1 876 7 = Xi S 876 7 from w12.x _ _ rfl))))))
                have w861 : 0 ≤ Xi T79 890 1 ∧ Xi T79 890 1 ≤ 5126 := hHT79.c _ _
                refine l_callV rfl rfl rfl (t_gr_take hHT79 103 ⟨by omega, by omega⟩ (by first | assumption | omega) (by first | assumption | omega) (by first | assumption | omega) _) ?_
                rintro _ T80 ⟨hHT80, w867, z866, rfl, w866, w862, w863, w864, w865⟩
                have hFT80 : FR md_gr_checkBe S T80 := FR.tr hFT79 w867 rfl
                show Rl _ _ _ _ _ [iv z866] _ _
                refine l_if_eq rfl rfl (by unfold rg; omega) (fun w868 => ?_) (fun w869 => ?_)
                · refine l_iconst rfl ?_
                  refine l_ireturn rfl rfl ?_
                  have w870 : Xi T80 890 2 = Xi U75 890 2 := (show Xi T80 890 2 = Xi T79 890 2 from w867.x _ _ rfl).trans ( (show Xi T79 890 2 = Xi T77 890 2 from w856.x _ _ rfl).trans ( (show Xi T77 890 2 = Xi U76 890 2 from w830.x _ _ rfl).trans ((show Xi U76 890 2 = Xi U75 890 2 from by rw [eU76]; exact Xi_ne (by omega)))))
                  have w871 : 0 ≤ Xi U75 890 2 ∧ Xi U75 890 2 ≤ 20 := hHU75.c _ _
                  exact ⟨hHT80, hFT80, _, rfl, ⟨by omega, by omega⟩, (by first | assumption | omega)⟩
                · refine l_iconst rfl ?_
                  refine l_goto rfl rfl ?_
                  refine l_ireturn rfl rfl ?_
                  have w872 : Xi T80 890 2 = Xi U75 890 2 := (show Xi T80 890 2 = Xi T79 890 2 from w867.x _ _ rfl).trans ( (show Xi T79 890 2 = Xi T77 890 2 from w856.x _ _ rfl).trans ( (show Xi T77 890 2 = Xi U76 890 2 from w830.x _ _ rfl).trans ((show Xi U76 890 2 = Xi U75 890 2 from by rw [eU76]; exact Xi_ne (by omega)))))
                  have w873 : 0 ≤ Xi U75 890 2 ∧ Xi U75 890 2 ≤ 20 := hHU75.c _ _
                  exact ⟨hHT80, hFT80, _, rfl, ⟨by omega, by omega⟩, (by first | assumption | omega)⟩
              · refine l_aload_n rfl rfl ?_
                have w874 : Xi T79 876 7 = Xi S 876 7 := (show Xi T79 876 7 = Xi T77 876 7 from w856.x _ _ rfl).trans ( (show Xi T77 876 7 = Xi U76 876 7 from w830.x _ _ rfl).trans ( (show Xi U76 876 7 = Xi U75 876 7 from by rw [eU76]; exact Xi_ne (by omega)).trans ( (show Xi U75 876 7 = Xi T2 876 7 from by rw [eU75]; exact Xi_ne (by omega)).trans ( (show Xi T2 876 7 = Xi T1 876 7 from w23.x _ _ rfl).trans ((show Xi T1 876 7 = Xi S 876 7 from w12.x _ _ rfl))))))
                have w876 : 0 ≤ Xi T79 890 1 ∧ Xi T79 890 1 ≤ 5126 := hHT79.c _ _
                refine l_callV rfl rfl rfl (t_gr_takeName hHT79 (by first | assumption | omega) (by first | assumption | omega) _) ?_
                rintro _ T81 ⟨hHT81, w880, z879, rfl, w879, w877, w878⟩
                have hFT81 : FR md_gr_checkBe S T81 := FR.tr hFT79 w880 rfl
                show Rl _ _ _ _ _ [iv z879] _ _
                refine l_if_eq rfl rfl (by unfold rg; omega) (fun w881 => ?_) (fun w882 => ?_)
                · refine l_iconst rfl ?_
                  refine l_ireturn rfl rfl ?_
                  have w883 : Xi T81 890 2 = Xi U75 890 2 := (show Xi T81 890 2 = Xi T79 890 2 from w880.x _ _ rfl).trans ( (show Xi T79 890 2 = Xi T77 890 2 from w856.x _ _ rfl).trans ( (show Xi T77 890 2 = Xi U76 890 2 from w830.x _ _ rfl).trans ((show Xi U76 890 2 = Xi U75 890 2 from by rw [eU76]; exact Xi_ne (by omega)))))
                  have w884 : 0 ≤ Xi U75 890 2 ∧ Xi U75 890 2 ≤ 20 := hHU75.c _ _
                  exact ⟨hHT81, hFT81, _, rfl, ⟨by omega, by omega⟩, (by first | assumption | omega)⟩
                · refine l_aload_n rfl rfl ?_
                  refine l_bipush rfl rfl ?_
                  have w885 : Xi T81 876 7 = Xi S 876 7 := (show Xi T81 876 7 = Xi T79 876 7 from w880.x _ _ rfl).trans ( (show Xi T79 876 7 = Xi T77 876 7 from w856.x _ _ rfl).trans ( (show Xi T77 876 7 = Xi U76 876 7 from w830.x _ _ rfl).trans ( (show Xi U76 876 7 = Xi U75 876 7 from by rw [eU76]; exact Xi_ne (by omega)).trans ( (show Xi U75 876 7 = Xi T2 876 7 from by rw [eU75]; exact Xi_ne (by omega)).trans ( (show Xi T2 876 7 = Xi T1 876 7 from w23.x _ _ rfl).trans ((show Xi T1 876 7 = Xi S 876 7 from w12.x _ _ rfl)))))))
                  have w887 : 0 ≤ Xi T81 890 1 ∧ Xi T81 890 1 ≤ 5126 := hHT81.c _ _
                  refine l_callV rfl rfl rfl (t_gr_take hHT81 103 ⟨by omega, by omega⟩ (by first | assumption | omega) (by first | assumption | omega) (by first | assumption | omega) _) ?_
                  rintro _ T82 ⟨hHT82, w893, z892, rfl, w892, w888, w889, w890, w891⟩
                  have hFT82 : FR md_gr_checkBe S T82 := FR.tr hFT81 w893 rfl
                  show Rl _ _ _ _ _ [iv z892] _ _
                  refine l_if_eq rfl rfl (by unfold rg; omega) (fun w894 => ?_) (fun w895 => ?_)
                  · refine l_iconst rfl ?_
                    refine l_ireturn rfl rfl ?_
                    have w896 : Xi T82 890 2 = Xi U75 890 2 := (show Xi T82 890 2 = Xi T81 890 2 from w893.x _ _ rfl).trans ( (show Xi T81 890 2 = Xi T79 890 2 from w880.x _ _ rfl).trans ( (show Xi T79 890 2 = Xi T77 890 2 from w856.x _ _ rfl).trans ( (show Xi T77 890 2 = Xi U76 890 2 from w830.x _ _ rfl).trans ((show Xi U76 890 2 = Xi U75 890 2 from by rw [eU76]; exact Xi_ne (by omega))))))
                    have w897 : 0 ≤ Xi U75 890 2 ∧ Xi U75 890 2 ≤ 20 := hHU75.c _ _
                    exact ⟨hHT82, hFT82, _, rfl, ⟨by omega, by omega⟩, (by first | assumption | omega)⟩
                  · refine l_iconst rfl ?_
                    refine l_goto rfl rfl ?_
                    refine l_ireturn rfl rfl ?_
                    have w898 : Xi T82 890 2 = Xi U75 890 2 := (show Xi T82 890 2 = Xi T81 890 2 from w893.x _ _ rfl).trans ( (show Xi T81 890 2 = Xi T79 890 2 from w880.x _ _ rfl).trans ( (show Xi T79 890 2 = Xi T77 890 2 from w856.x _ _ rfl).trans ( (show Xi T77 890 2 = Xi U76 890 2 from w830.x _ _ rfl).trans ((show Xi U76 890 2 = Xi U75 890 2 from by rw [eU76]; exact Xi_ne (by omega))))))
                    have w899 : 0 ≤ Xi U75 890 2 ∧ Xi U75 890 2 ≤ 20 := hHU75.c _ _
                    exact ⟨hHT82, hFT82, _, rfl, ⟨by omega, by omega⟩, (by first | assumption | omega)⟩
      · refine l_iconst rfl ?_
        refine l_ireturn rfl rfl ?_
        have w900 : Xi T2 890 2 = Xi S 890 2 := (show Xi T2 890 2 = Xi T1 890 2 from w23.x _ _ rfl).trans ((show Xi T1 890 2 = Xi S 890 2 from w12.x _ _ rfl))
        have w901 : 0 ≤ Xi S 890 2 ∧ Xi S 890 2 ≤ 20 := hH.c _ _
        exact ⟨hHT2, hFT2, _, rfl, ⟨by omega, by omega⟩, (by first | assumption | omega)⟩
  · refine l_aload_n rfl rfl ?_
    have hp0 : PROP S 0 := by apply_assumption; omega
    refine l_bipush rfl rfl ?_
    refine l_pfi rfl rfl rfl rfl ?_
    obtain ⟨U83, eU83⟩ : ∃ T : sS, T = uI S 890 2 (Int32.ofInt 9) := ⟨_, rfl⟩
    rw [← eU83]
    have hHU83 : HI U83 := by rw [eU83]; exact HI_w hH (show 0 ≤ 9 by omega) (show 9 ≤ 20 by omega)
    have hFU83 : FR md_gr_checkBe S U83 := by rw [eU83]; exact FR.wI hF (mdf_i (r := (890, 891, 2, 3)) (List.mem_of_getElem? (i := 1) rfl) (inR_i (by omega) (by omega) (by omega) (by omega)))
    have w902 : Xi U83 890 2 = 9 := by rw [eU83]; exact Xi_same (by unfold rg; omega)
    have hso14 : SAY U83 (Xi U83 890 1) := SAY_sort eU83 (by assumption) (by decide)
    refine l_aload_n rfl rfl ?_
    refine l_aload_n rfl rfl ?_
    refine l_gfr rfl rfl rfl rfl rfl (hHU83.r 890 0 876 rfl) ?_
    refine l_iconst rfl ?_
    have w903 : Xi U83 876 7 = Xi S 876 7 := (show Xi U83 876 7 = Xi S 876 7 from by rw [eU83]; exact Xi_ne (by omega))
    refine l_callV rfl rfl rfl (t_to_runEnd hHU83 1 ⟨by omega, by omega⟩ _) ?_
    rintro _ _ ⟨rfl, z912, rfl, w912, w905, w906, w907, w908, w909, w910, w911⟩
    show Rl _ _ _ _ _ [iv z912, .ref 890] _ _
    have hfe : ∀ r : Nat, (0 : Int) + 1 ≤ r → (r : Int) < z912 → Xi U83 877 r = 100 := by intro r h1 h2; apply_assumption <;> omega
    have hpe := prop_end (z := z912) (PROP_fr (m877 hFU83 rfl) (by omega) hp0) (by omega) hfe (by assumption)
    refine l_iconst rfl ?_
    refine l_iadd rfl ?_
    refine l_pfi rfl rfl rfl rfl ?_
    obtain ⟨U84, eU84⟩ : ∃ T : sS, T = uI U83 890 1 (Int32.ofInt (z912 + 1)) := ⟨_, rfl⟩
    rw [← eU84]
    have hHU84 : HI U84 := by rw [eU84]; exact HI_w hHU83 (show 0 ≤ (z912 + 1) by omega) (show (z912 + 1) ≤ 5126 by omega)
    have hFU84 : FR md_gr_checkBe S U84 := by rw [eU84]; exact FR.wI hFU83 (mdf_i (r := (890, 891, 1, 2)) (List.mem_of_getElem? (i := 0) rfl) (inR_i (by omega) (by omega) (by omega) (by omega)))
    have w913 : Xi U84 890 1 = (z912 + 1) := by rw [eU84]; exact Xi_same (by unfold rg; omega)
    have hs28 : SAY U84 (Xi U84 890 1) := SAY_prop eU84 (by assumption) SAY_0 hpe hfe (by omega)
    refine l_aload_n rfl rfl ?_
    have w914 : Xi U84 876 7 = Xi S 876 7 := (show Xi U84 876 7 = Xi U83 876 7 from by rw [eU84]; exact Xi_ne (by omega)).trans ((show Xi U83 876 7 = Xi S 876 7 from by rw [eU83]; exact Xi_ne (by omega)))
    have w916 : 0 ≤ Xi U84 890 1 ∧ Xi U84 890 1 ≤ 5126 := hHU84.c _ _
    refine l_callV rfl rfl rfl (t_gr_takeName hHU84 (by first | assumption | omega) (by first | assumption | omega) _) ?_
    rintro _ T85 ⟨hHT85, w920, z919, rfl, w919, w917, w918⟩
    have hFT85 : FR md_gr_checkBe S T85 := FR.tr hFU84 w920 rfl
    show Rl _ _ _ _ _ [iv z919] _ _
    refine l_if_eq rfl rfl (by unfold rg; omega) (fun w921 => ?_) (fun w922 => ?_)
    · refine l_iconst rfl ?_
      refine l_ireturn rfl rfl ?_
      have w923 : Xi T85 890 2 = Xi U83 890 2 := (show Xi T85 890 2 = Xi U84 890 2 from w920.x _ _ rfl).trans ((show Xi U84 890 2 = Xi U83 890 2 from by rw [eU84]; exact Xi_ne (by omega)))
      have w924 : 0 ≤ Xi U83 890 2 ∧ Xi U83 890 2 ≤ 20 := hHU83.c _ _
      exact ⟨hHT85, hFT85, _, rfl, ⟨by omega, by omega⟩, (by first | assumption | omega)⟩
    · refine l_aload_n rfl rfl ?_
      have w925 : Xi T85 876 7 = Xi S 876 7 := (show Xi T85 876 7 = Xi U84 876 7 from w920.x _ _ rfl).trans ( (show Xi U84 876 7 = Xi U83 876 7 from by rw [eU84]; exact Xi_ne (by omega)).trans ((show Xi U83 876 7 = Xi S 876 7 from by rw [eU83]; exact Xi_ne (by omega))))
      have w927 : 0 ≤ Xi T85 890 1 ∧ Xi T85 890 1 ≤ 5126 := hHT85.c _ _
      refine l_callV rfl rfl rfl (t_gr_takeBe hHT85 (by first | assumption | omega) (by first | assumption | omega) _) ?_
      rintro _ T86 ⟨hHT86, w931, z930, rfl, w930, w928, w929⟩
      have hFT86 : FR md_gr_checkBe S T86 := FR.tr hFT85 w931 rfl
      show Rl _ _ _ _ _ [iv z930] _ _
      refine l_if_eq rfl rfl (by unfold rg; omega) (fun w932 => ?_) (fun w933 => ?_)
      · refine l_iconst rfl ?_
        refine l_ireturn rfl rfl ?_
        have w934 : Xi T86 890 2 = Xi U83 890 2 := (show Xi T86 890 2 = Xi T85 890 2 from w931.x _ _ rfl).trans ( (show Xi T85 890 2 = Xi U84 890 2 from w920.x _ _ rfl).trans ((show Xi U84 890 2 = Xi U83 890 2 from by rw [eU84]; exact Xi_ne (by omega))))
        have w935 : 0 ≤ Xi U83 890 2 ∧ Xi U83 890 2 ≤ 20 := hHU83.c _ _
        exact ⟨hHT86, hFT86, _, rfl, ⟨by omega, by omega⟩, (by first | assumption | omega)⟩
      · refine l_aload_n rfl rfl ?_
        have w936 : Xi T86 876 7 = Xi S 876 7 := (show Xi T86 876 7 = Xi T85 876 7 from w931.x _ _ rfl).trans ( (show Xi T85 876 7 = Xi U84 876 7 from w920.x _ _ rfl).trans ( (show Xi U84 876 7 = Xi U83 876 7 from by rw [eU84]; exact Xi_ne (by omega)).trans ((show Xi U83 876 7 = Xi S 876 7 from by rw [eU83]; exact Xi_ne (by omega)))))
        have w938 : 0 ≤ Xi T86 890 1 ∧ Xi T86 890 1 ≤ 5126 := hHT86.c _ _
        refine l_callV rfl rfl rfl (t_gr_takeWhat hHT86 (by first | assumption | omega) (by first | assumption | omega) _) ?_
        rintro _ T87 ⟨hHT87, w942, z941, rfl, w941, w939, w940⟩
        have hFT87 : FR md_gr_checkBe S T87 := FR.tr hFT86 w942 rfl
        show Rl _ _ _ _ _ [iv z941] _ _
        refine l_if_eq rfl rfl (by unfold rg; omega) (fun w943 => ?_) (fun w944 => ?_)
        · refine l_iconst rfl ?_
          refine l_ireturn rfl rfl ?_
          have w945 : Xi T87 890 2 = Xi U83 890 2 := (show Xi T87 890 2 = Xi T86 890 2 from w942.x _ _ rfl).trans ( (show Xi T86 890 2 = Xi T85 890 2 from w931.x _ _ rfl).trans ( (show Xi T85 890 2 = Xi U84 890 2 from w920.x _ _ rfl).trans ((show Xi U84 890 2 = Xi U83 890 2 from by rw [eU84]; exact Xi_ne (by omega)))))
          have w946 : 0 ≤ Xi U83 890 2 ∧ Xi U83 890 2 ≤ 20 := hHU83.c _ _
          exact ⟨hHT87, hFT87, _, rfl, ⟨by omega, by omega⟩, (by first | assumption | omega)⟩
        · refine l_aload_n rfl rfl ?_
          refine l_bipush rfl rfl ?_
          have w947 : Xi T87 876 7 = Xi S 876 7 := (show Xi T87 876 7 = Xi T86 876 7 from w942.x _ _ rfl).trans ( (show Xi T86 876 7 = Xi T85 876 7 from w931.x _ _ rfl).trans ( (show Xi T85 876 7 = Xi U84 876 7 from w920.x _ _ rfl).trans ( (show Xi U84 876 7 = Xi U83 876 7 from by rw [eU84]; exact Xi_ne (by omega)).trans ((show Xi U83 876 7 = Xi S 876 7 from by rw [eU83]; exact Xi_ne (by omega))))))
          have w949 : 0 ≤ Xi T87 890 1 ∧ Xi T87 890 1 ≤ 5126 := hHT87.c _ _
          refine l_callV rfl rfl rfl (t_gr_take hHT87 103 ⟨by omega, by omega⟩ (by first | assumption | omega) (by first | assumption | omega) (by first | assumption | omega) _) ?_
          rintro _ T88 ⟨hHT88, w955, z954, rfl, w954, w950, w951, w952, w953⟩
          have hFT88 : FR md_gr_checkBe S T88 := FR.tr hFT87 w955 rfl
          show Rl _ _ _ _ _ [iv z954] _ _
          refine l_if_eq rfl rfl (by unfold rg; omega) (fun w956 => ?_) (fun w957 => ?_)
          · refine l_iconst rfl ?_
            refine l_ireturn rfl rfl ?_
            have w958 : Xi T88 890 2 = Xi U83 890 2 := (show Xi T88 890 2 = Xi T87 890 2 from w955.x _ _ rfl).trans ( (show Xi T87 890 2 = Xi T86 890 2 from w942.x _ _ rfl).trans ( (show Xi T86 890 2 = Xi T85 890 2 from w931.x _ _ rfl).trans ( (show Xi T85 890 2 = Xi U84 890 2 from w920.x _ _ rfl).trans ((show Xi U84 890 2 = Xi U83 890 2 from by rw [eU84]; exact Xi_ne (by omega))))))
            have w959 : 0 ≤ Xi U83 890 2 ∧ Xi U83 890 2 ≤ 20 := hHU83.c _ _
            exact ⟨hHT88, hFT88, _, rfl, ⟨by omega, by omega⟩, (by first | assumption | omega)⟩
          · refine l_iconst rfl ?_
            refine l_goto rfl rfl ?_
            refine l_ireturn rfl rfl ?_
            have w960 : Xi T88 890 2 = Xi U83 890 2 := (show Xi T88 890 2 = Xi T87 890 2 from w955.x _ _ rfl).trans ( (show Xi T87 890 2 = Xi T86 890 2 from w942.x _ _ rfl).trans ( (show Xi T86 890 2 = Xi T85 890 2 from w931.x _ _ rfl).trans ( (show Xi T85 890 2 = Xi U84 890 2 from w920.x _ _ rfl).trans ((show Xi U84 890 2 = Xi U83 890 2 from by rw [eU84]; exact Xi_ne (by omega))))))
            have w961 : 0 ≤ Xi U83 890 2 ∧ Xi U83 890 2 ≤ 20 := hHU83.c _ _
            exact ⟨hHT88, hFT88, _, rfl, ⟨by omega, by omega⟩, (by first | assumption | omega)⟩
