section
def md_tu_doAction__w : List rec := [(22, 23, 0, 100000), (23, 24, 0, 100000), (25, 65, 0, 100000), (66, 106, 0, 100000), (107, 147, 0, 100000), (148, 188, 0, 100000), (189, 195, 0, 100000), (900, 901, 4, 5), (900, 901, 5, 6), (900, 901, 6, 7), (901, 902, 0, 100000), (997, 1005, 0, 100000), (1006, 1014, 0, 100000)]
abbrev Q_tu_doAction__w (S : sS) (action : Int) (noun : Int) (dd : Int) : pst := fun r S1 => HI S1 ∧ FR md_tu_doAction__w S S1 ∧ (∃ z : Int, r = some (iv z) ∧ (0 ≤ z ∧ z ≤ 5) ∧ (TX S1) ∧ (Xi S1 900 6 = 0 → Xi S1 900 5 ≤ 300) ∧ ((S1, z) = doC (trC (8 - dd).toNat) S action noun))
def md_tu_perform__w : List rec := [(22, 23, 0, 100000), (23, 24, 0, 100000), (25, 65, 0, 100000), (66, 106, 0, 100000), (107, 147, 0, 100000), (148, 188, 0, 100000), (189, 195, 0, 100000), (900, 901, 4, 5), (900, 901, 5, 6), (900, 901, 6, 7), (901, 902, 0, 100000), (997, 1005, 0, 100000), (1006, 1014, 0, 100000)]
abbrev Q_tu_perform__w (S : sS) (cl : Nat) (noun : Int) (dq : Int) : pst := fun r S1 => HI S1 ∧ FR md_tu_perform__w S S1 ∧ (r = none ∧ (TX S1) ∧ (Xi S1 900 6 = 0 → Xi S1 900 5 ≤ 300) ∧ (S1 = pfF (trC (8 - dq).toNat) S cl noun))
set_option maxRecDepth 100000 in
theorem u_tu_perform__w {S : sS} (hH : HI S) (cl : Nat) (noun : Int) (dq : Int) (hcl : cl < 600) (hnoun : -1 ≤ noun ∧ noun ≤ 23) (hdq : 0 ≤ dq ∧ dq ≤ 8) (hk : CLok S (0 ≤ noun) cl) (hX : TX S) (hD : DEF S) (hR : RUL S) (hO : ORD S) (hA : AK S) (hE : Xi S 900 6 = 0 → Xi S 900 5 ≤ 300) (cw : CW S) (d : Nat) (hrec : ∀ {S : sS} (_ : HI S) (action : Int) (noun : Int) (dd : Int) (haction : 0 ≤ action ∧ action ≤ 11) (hnoun : -1 ≤ noun ∧ noun ≤ 23) (hdd : 0 ≤ dd ∧ dd ≤ 8) (hn : Xi S 19 action.toNat ≠ -1 → 0 ≤ noun) (hg : Xi S 19 action.toNat = -2 → noun ≤ 5) (hX : TX S) (hD : DEF S) (hR : RUL S) (hO : ORD S) (hA : AK S) (hE : Xi S 900 6 = 0 → Xi S 900 5 ≤ 300) (cw : CW S), (dq < 8 ∧ dd = dq + 1) → Mt lay0 (d + 29) m_tu_doAction [.ref 900, iv action, iv noun, iv dd] S (Q_tu_doAction__w S action noun dd)) : Mt lay0 (d + 30) m_tu_perform [.ref 900, .ref (276 + cl), iv noun, iv dq] S (Q_tu_perform__w S cl noun dq) := by
  refine Mt_R rfl rfl ?_
  have hF : FR md_tu_perform__w S S := FR.rf
  have w1 : 0 ≤ Xi S 900 5 ∧ Xi S 900 5 ≤ 301 := hH.c _ _
  have w2 : 0 ≤ Xi S 900 6 ∧ Xi S 900 6 ≤ 1 := hH.c _ _
  have hc8 : 0 ≤ Xi S 5 8 ∧ Xi S 5 8 ≤ 12 := hH.c _ _
  have hc3 : 0 ≤ Xi S 5 3 ∧ Xi S 5 3 ≤ 24 := hH.c _ _
  refine l_aload_n rfl rfl ?_
  refine l_gfi rfl rfl rfl (layCl (by omega)) rfl ?_
  have w3 : -2 ≤ (Xi S (276 + cl) 2) ∧ (Xi S (276 + cl) 2) ≤ 23 := clc2 hH (by omega)
  refine l_iload_n rfl rfl ?_
  refine l_callS rfl rfl (by decide) rfl (t_tu_whoIs hH (Xi S (276 + cl) 2) noun ⟨by omega, by omega⟩ ⟨by omega, by omega⟩ _) ?_
  rintro _ _ ⟨rfl, z4, rfl, w4, p5⟩
  show Rl _ _ _ _ _ [iv z4] _ _
  have W5 : whU noun (Xi S (276 + cl) 2) = z4 := whU_i p5
  refine l_istore rfl rfl rfl ?_
  refine l_aload_n rfl rfl ?_
  refine l_gfi rfl rfl rfl (layCl (by omega)) rfl ?_
  have w5 : -2 ≤ (Xi S (276 + cl) 6) ∧ (Xi S (276 + cl) 6) ≤ 23 := clc6 hH (by omega)
  refine l_iload_n rfl rfl ?_
  refine l_callS rfl rfl (by decide) rfl (t_tu_whoIs hH (Xi S (276 + cl) 6) noun ⟨by omega, by omega⟩ ⟨by omega, by omega⟩ _) ?_
  rintro _ _ ⟨rfl, z6, rfl, w6, p15⟩
  show Rl _ _ _ _ _ [iv z6] _ _
  have W15 : whU noun (Xi S (276 + cl) 6) = z6 := whU_i p15
  refine l_istore rfl rfl rfl ?_
  refine l_aload_n rfl rfl ?_
  refine l_gfi rfl rfl rfl (layCl (by omega)) rfl ?_
  have w7 : 0 ≤ (Xi S (276 + cl) 0) ∧ (Xi S (276 + cl) 0) ≤ 11 := clc0 hH (by omega)
  refine l_tsw rfl rfl rfl rfl (by unfold rg; omega) (fun w8 => ?_) (fun ii tt hii w8 => ?_)
  · refine l_return rfl rfl ?_
    exact ⟨hH, hF, rfl, (by first | assumption | exact TX_FR hF rfl hX | exact TX_FR (by assumption : FR md_wo_setAdjective__w S S) rfl hX | exact TX_FR (by assumption : FR md_wo_relateNow__w S S) rfl hX | exact TX_FR (by assumption : FR md_tu_move__w S S) rfl hX | (apply_assumption; exact hX; first | exact hkt | exact Or.inl (by omega))), (by first | assumption | omega), (by first | exact pf_0 (by omega) W5 (by omega) e106 | exact pf_1 (by omega) W5 e130 | exact pf_6 (by omega) W5 W15 e148 | exact pf_8 (by omega) W5 W15 e159 | (have t := K208; exact pf_9 (by omega) W5 q175 (by assumption) e208) | (have t := K264; exact pf_10 (by omega) W5 (tr_1 (by omega) (by first | exact Or.inl (by omega) | exact Or.inr (by rw [← q248]; omega)) f264)) | exact pf_n (by omega) | exact pf_10 (by omega) W5 (tr_0 (by first | exact Or.inl (by omega) | exact Or.inr ⟨by omega, by rw [← q248]; omega⟩)))⟩
  · match ii, hii with
    | 0, hii =>
      cases hii
      have w11 : (Xi S (276 + cl) 0) = 0 := by simpa using w8
      refine l_aload_n rfl rfl ?_
      have hk0 : (0 ≤ Xi S (276 + cl) 2 ∨ (Xi S (276 + cl) 2 = -2 ∧ 0 ≤ noun)) ∧ 0 ≤ Xi S (276 + cl) 3 ∧ Xi S (276 + cl) 3 < Xi S 5 3 := hk.1 (by omega)
      refine l_gfr rfl rfl rfl rfl rfl (hH.r 900 1 20 rfl) ?_
      refine l_iload rfl rfl ?_
      refine l_aload_n rfl rfl ?_
      refine l_gfi rfl rfl rfl (layCl (by omega)) rfl ?_
      have w12 : -1 ≤ (Xi S (276 + cl) 3) ∧ (Xi S (276 + cl) 3) ≤ 1666 := clc3 hH (by omega)
      refine l_aload_n rfl rfl ?_
      refine l_gfi rfl rfl rfl (layCl (by omega)) rfl ?_
      have w13 : 0 ≤ (Xi S (276 + cl) 1) ∧ (Xi S (276 + cl) 1) ≤ 1 := clc1 hH (by omega)
      refine l_if_ne rfl rfl (by unfold rg; omega) (fun w14 => ?_) (fun w15 => ?_)
      · refine l_iconst rfl ?_
        refine l_callV rfl rfl rfl (t_wo_setAdjective__w hH z4 (Xi S (276 + cl) 3) 0 ⟨by omega, by omega⟩ ⟨by omega, by omega⟩ ⟨by omega, by omega⟩ _) ?_
        rintro _ T1 ⟨hHT1, w17, rfl, e106⟩
        have hFT1 : FR md_tu_perform__w S T1 := FR.tr hF w17 rfl
        show Rl _ _ _ _ _ [] _ _
        refine l_goto rfl rfl ?_
        refine l_return rfl rfl ?_
        have w18 : Xi T1 900 5 = Xi S 900 5 := (show Xi T1 900 5 = Xi S 900 5 from w17.x _ _ rfl)
        have w20 : Xi T1 900 6 = Xi S 900 6 := (show Xi T1 900 6 = Xi S 900 6 from w17.x _ _ rfl)
        exact ⟨hHT1, hFT1, rfl, (by first | assumption | exact TX_FR hFT1 rfl hX | exact TX_FR (by assumption : FR md_wo_setAdjective__w S T1) rfl hX | exact TX_FR (by assumption : FR md_wo_relateNow__w S T1) rfl hX | exact TX_FR (by assumption : FR md_tu_move__w S T1) rfl hX | (apply_assumption; exact hX; first | exact hkt | exact Or.inl (by omega))), (by first | assumption | omega), (by first | exact pf_0 (by omega) W5 (by omega) e106 | exact pf_1 (by omega) W5 e130 | exact pf_6 (by omega) W5 W15 e148 | exact pf_8 (by omega) W5 W15 e159 | (have t := K208; exact pf_9 (by omega) W5 q175 (by assumption) e208) | (have t := K264; exact pf_10 (by omega) W5 (tr_1 (by omega) (by first | exact Or.inl (by omega) | exact Or.inr (by rw [← q248]; omega)) f264)) | exact pf_n (by omega) | exact pf_10 (by omega) W5 (tr_0 (by first | exact Or.inl (by omega) | exact Or.inr ⟨by omega, by rw [← q248]; omega⟩)))⟩
      · refine l_iconst rfl ?_
        refine l_goto rfl rfl ?_
        refine l_callV rfl rfl rfl (t_wo_setAdjective__w hH z4 (Xi S (276 + cl) 3) 1 ⟨by omega, by omega⟩ ⟨by omega, by omega⟩ ⟨by omega, by omega⟩ _) ?_
        rintro _ T2 ⟨hHT2, w23, rfl, e106⟩
        have hFT2 : FR md_tu_perform__w S T2 := FR.tr hF w23 rfl
        show Rl _ _ _ _ _ [] _ _
        refine l_goto rfl rfl ?_
        refine l_return rfl rfl ?_
        have w24 : Xi T2 900 5 = Xi S 900 5 := (show Xi T2 900 5 = Xi S 900 5 from w23.x _ _ rfl)
        have w26 : Xi T2 900 6 = Xi S 900 6 := (show Xi T2 900 6 = Xi S 900 6 from w23.x _ _ rfl)
        exact ⟨hHT2, hFT2, rfl, (by first | assumption | exact TX_FR hFT2 rfl hX | exact TX_FR (by assumption : FR md_wo_setAdjective__w S T2) rfl hX | exact TX_FR (by assumption : FR md_wo_relateNow__w S T2) rfl hX | exact TX_FR (by assumption : FR md_tu_move__w S T2) rfl hX | (apply_assumption; exact hX; first | exact hkt | exact Or.inl (by omega))), (by first | assumption | omega), (by first | exact pf_0 (by omega) W5 (by omega) e106 | exact pf_1 (by omega) W5 e130 | exact pf_6 (by omega) W5 W15 e148 | exact pf_8 (by omega) W5 W15 e159 | (have t := K208; exact pf_9 (by omega) W5 q175 (by assumption) e208) | (have t := K264; exact pf_10 (by omega) W5 (tr_1 (by omega) (by first | exact Or.inl (by omega) | exact Or.inr (by rw [← q248]; omega)) f264)) | exact pf_n (by omega) | exact pf_10 (by omega) W5 (tr_0 (by first | exact Or.inl (by omega) | exact Or.inr ⟨by omega, by rw [← q248]; omega⟩)))⟩
    | 1, hii =>
      cases hii
      have w28 : (Xi S (276 + cl) 0) = 1 := by simpa using w8
      refine l_aload_n rfl rfl ?_
      have hk1 : (0 ≤ Xi S (276 + cl) 2 ∨ (Xi S (276 + cl) 2 = -2 ∧ 0 ≤ noun)) ∧ 0 ≤ Xi S (276 + cl) 3 ∧ Xi S (276 + cl) 3 ≤ 11 := (hk.2.1 (by omega)).1
      have hkt := (hk.2.1 (by omega)).2
      refine l_gfr rfl rfl rfl rfl rfl (hH.r 900 1 20 rfl) ?_
      refine l_iload rfl rfl ?_
      refine l_aload_n rfl rfl ?_
      refine l_gfi rfl rfl rfl (layCl (by omega)) rfl ?_
      have w29 : -1 ≤ (Xi S (276 + cl) 3) ∧ (Xi S (276 + cl) 3) ≤ 1666 := clc3 hH (by omega)
      refine l_aload_n rfl rfl ?_
      refine l_gfi rfl rfl rfl (layCl (by omega)) rfl ?_
      have w30 : -2147483648 ≤ (Xi S (276 + cl) 4) ∧ (Xi S (276 + cl) 4) ≤ 2147483647 := Xi_rgI
      refine l_aload_n rfl rfl ?_
      refine l_gfi rfl rfl rfl (layCl (by omega)) rfl ?_
      have w31 : -2147483648 ≤ (Xi S (276 + cl) 5) ∧ (Xi S (276 + cl) 5) ≤ 2147483647 := Xi_rgI
      refine l_callV rfl rfl rfl (t_wo_setProperty__w hH z4 (Xi S (276 + cl) 3) (Xi S (276 + cl) 4) (Xi S (276 + cl) 5) ⟨by omega, by omega⟩ ⟨by omega, by omega⟩ ⟨by omega, by omega⟩ ⟨by omega, by omega⟩ _) ?_
      rintro _ T3 ⟨hHT3, w34, rfl, w32, e130⟩
      have hFT3 : FR md_tu_perform__w S T3 := FR.tr hF w34 rfl
      show Rl _ _ _ _ _ [] _ _
      refine l_goto rfl rfl ?_
      refine l_return rfl rfl ?_
      have w35 : Xi T3 900 5 = Xi S 900 5 := (show Xi T3 900 5 = Xi S 900 5 from w34.x _ _ rfl)
      have w37 : Xi T3 900 6 = Xi S 900 6 := (show Xi T3 900 6 = Xi S 900 6 from w34.x _ _ rfl)
      exact ⟨hHT3, hFT3, rfl, (by first | assumption | exact TX_FR hFT3 rfl hX | exact TX_FR (by assumption : FR md_wo_setAdjective__w S T3) rfl hX | exact TX_FR (by assumption : FR md_wo_relateNow__w S T3) rfl hX | exact TX_FR (by assumption : FR md_tu_move__w S T3) rfl hX | (apply_assumption; exact hX; first | exact hkt | exact Or.inl (by omega))), (by first | assumption | omega), (by first | exact pf_0 (by omega) W5 (by omega) e106 | exact pf_1 (by omega) W5 e130 | exact pf_6 (by omega) W5 W15 e148 | exact pf_8 (by omega) W5 W15 e159 | (have t := K208; exact pf_9 (by omega) W5 q175 (by assumption) e208) | (have t := K264; exact pf_10 (by omega) W5 (tr_1 (by omega) (by first | exact Or.inl (by omega) | exact Or.inr (by rw [← q248]; omega)) f264)) | exact pf_n (by omega) | exact pf_10 (by omega) W5 (tr_0 (by first | exact Or.inl (by omega) | exact Or.inr ⟨by omega, by rw [← q248]; omega⟩)))⟩
    | 2, hii =>
      cases hii
      have w39 : (Xi S (276 + cl) 0) = 2 := by simpa using w8
      refine l_return rfl rfl ?_
      exact ⟨hH, hF, rfl, (by first | assumption | exact TX_FR hF rfl hX | exact TX_FR (by assumption : FR md_wo_setAdjective__w S S) rfl hX | exact TX_FR (by assumption : FR md_wo_relateNow__w S S) rfl hX | exact TX_FR (by assumption : FR md_tu_move__w S S) rfl hX | (apply_assumption; exact hX; first | exact hkt | exact Or.inl (by omega))), (by first | assumption | omega), (by first | exact pf_0 (by omega) W5 (by omega) e106 | exact pf_1 (by omega) W5 e130 | exact pf_6 (by omega) W5 W15 e148 | exact pf_8 (by omega) W5 W15 e159 | (have t := K208; exact pf_9 (by omega) W5 q175 (by assumption) e208) | (have t := K264; exact pf_10 (by omega) W5 (tr_1 (by omega) (by first | exact Or.inl (by omega) | exact Or.inr (by rw [← q248]; omega)) f264)) | exact pf_n (by omega) | exact pf_10 (by omega) W5 (tr_0 (by first | exact Or.inl (by omega) | exact Or.inr ⟨by omega, by rw [← q248]; omega⟩)))⟩
    | 3, hii =>
      cases hii
      have w42 : (Xi S (276 + cl) 0) = 3 := by simpa using w8
      refine l_return rfl rfl ?_
      exact ⟨hH, hF, rfl, (by first | assumption | exact TX_FR hF rfl hX | exact TX_FR (by assumption : FR md_wo_setAdjective__w S S) rfl hX | exact TX_FR (by assumption : FR md_wo_relateNow__w S S) rfl hX | exact TX_FR (by assumption : FR md_tu_move__w S S) rfl hX | (apply_assumption; exact hX; first | exact hkt | exact Or.inl (by omega))), (by first | assumption | omega), (by first | exact pf_0 (by omega) W5 (by omega) e106 | exact pf_1 (by omega) W5 e130 | exact pf_6 (by omega) W5 W15 e148 | exact pf_8 (by omega) W5 W15 e159 | (have t := K208; exact pf_9 (by omega) W5 q175 (by assumption) e208) | (have t := K264; exact pf_10 (by omega) W5 (tr_1 (by omega) (by first | exact Or.inl (by omega) | exact Or.inr (by rw [← q248]; omega)) f264)) | exact pf_n (by omega) | exact pf_10 (by omega) W5 (tr_0 (by first | exact Or.inl (by omega) | exact Or.inr ⟨by omega, by rw [← q248]; omega⟩)))⟩
    | 4, hii =>
      cases hii
      have w45 : (Xi S (276 + cl) 0) = 4 := by simpa using w8
      refine l_aload_n rfl rfl ?_
      have hk1 : (0 ≤ Xi S (276 + cl) 2 ∨ (Xi S (276 + cl) 2 = -2 ∧ 0 ≤ noun)) ∧ 0 ≤ Xi S (276 + cl) 3 ∧ Xi S (276 + cl) 3 ≤ 11 := (hk.2.1 (by omega)).1
      have hkt := (hk.2.1 (by omega)).2
      refine l_gfr rfl rfl rfl rfl rfl (hH.r 900 1 20 rfl) ?_
      refine l_iload rfl rfl ?_
      refine l_aload_n rfl rfl ?_
      refine l_gfi rfl rfl rfl (layCl (by omega)) rfl ?_
      have w46 : -1 ≤ (Xi S (276 + cl) 3) ∧ (Xi S (276 + cl) 3) ≤ 1666 := clc3 hH (by omega)
      refine l_aload_n rfl rfl ?_
      refine l_gfi rfl rfl rfl (layCl (by omega)) rfl ?_
      have w47 : -2147483648 ≤ (Xi S (276 + cl) 4) ∧ (Xi S (276 + cl) 4) ≤ 2147483647 := Xi_rgI
      refine l_aload_n rfl rfl ?_
      refine l_gfi rfl rfl rfl (layCl (by omega)) rfl ?_
      have w48 : -2147483648 ≤ (Xi S (276 + cl) 5) ∧ (Xi S (276 + cl) 5) ≤ 2147483647 := Xi_rgI
      refine l_callV rfl rfl rfl (t_wo_setProperty__w hH z4 (Xi S (276 + cl) 3) (Xi S (276 + cl) 4) (Xi S (276 + cl) 5) ⟨by omega, by omega⟩ ⟨by omega, by omega⟩ ⟨by omega, by omega⟩ ⟨by omega, by omega⟩ _) ?_
      rintro _ T4 ⟨hHT4, w51, rfl, w49, e130⟩
      have hFT4 : FR md_tu_perform__w S T4 := FR.tr hF w51 rfl
      show Rl _ _ _ _ _ [] _ _
      refine l_goto rfl rfl ?_
      refine l_return rfl rfl ?_
      have w52 : Xi T4 900 5 = Xi S 900 5 := (show Xi T4 900 5 = Xi S 900 5 from w51.x _ _ rfl)
      have w54 : Xi T4 900 6 = Xi S 900 6 := (show Xi T4 900 6 = Xi S 900 6 from w51.x _ _ rfl)
      exact ⟨hHT4, hFT4, rfl, (by first | assumption | exact TX_FR hFT4 rfl hX | exact TX_FR (by assumption : FR md_wo_setAdjective__w S T4) rfl hX | exact TX_FR (by assumption : FR md_wo_relateNow__w S T4) rfl hX | exact TX_FR (by assumption : FR md_tu_move__w S T4) rfl hX | (apply_assumption; exact hX; first | exact hkt | exact Or.inl (by omega))), (by first | assumption | omega), (by first | exact pf_0 (by omega) W5 (by omega) e106 | exact pf_1 (by omega) W5 e130 | exact pf_6 (by omega) W5 W15 e148 | exact pf_8 (by omega) W5 W15 e159 | (have t := K208; exact pf_9 (by omega) W5 q175 (by assumption) e208) | (have t := K264; exact pf_10 (by omega) W5 (tr_1 (by omega) (by first | exact Or.inl (by omega) | exact Or.inr (by rw [← q248]; omega)) f264)) | exact pf_n (by omega) | exact pf_10 (by omega) W5 (tr_0 (by first | exact Or.inl (by omega) | exact Or.inr ⟨by omega, by rw [← q248]; omega⟩)))⟩
    | 5, hii =>
      cases hii
      have w56 : (Xi S (276 + cl) 0) = 5 := by simpa using w8
      refine l_return rfl rfl ?_
      exact ⟨hH, hF, rfl, (by first | assumption | exact TX_FR hF rfl hX | exact TX_FR (by assumption : FR md_wo_setAdjective__w S S) rfl hX | exact TX_FR (by assumption : FR md_wo_relateNow__w S S) rfl hX | exact TX_FR (by assumption : FR md_tu_move__w S S) rfl hX | (apply_assumption; exact hX; first | exact hkt | exact Or.inl (by omega))), (by first | assumption | omega), (by first | exact pf_0 (by omega) W5 (by omega) e106 | exact pf_1 (by omega) W5 e130 | exact pf_6 (by omega) W5 W15 e148 | exact pf_8 (by omega) W5 W15 e159 | (have t := K208; exact pf_9 (by omega) W5 q175 (by assumption) e208) | (have t := K264; exact pf_10 (by omega) W5 (tr_1 (by omega) (by first | exact Or.inl (by omega) | exact Or.inr (by rw [← q248]; omega)) f264)) | exact pf_n (by omega) | exact pf_10 (by omega) W5 (tr_0 (by first | exact Or.inl (by omega) | exact Or.inr ⟨by omega, by rw [← q248]; omega⟩)))⟩
    | 6, hii =>
      cases hii
      have w59 : (Xi S (276 + cl) 0) = 6 := by simpa using w8
      refine l_aload_n rfl rfl ?_
      have hk6 : (0 ≤ Xi S (276 + cl) 2 ∨ (Xi S (276 + cl) 2 = -2 ∧ 0 ≤ noun)) ∧ (0 ≤ Xi S (276 + cl) 6 ∨ (Xi S (276 + cl) 6 = -2 ∧ 0 ≤ noun)) ∧ 0 ≤ Xi S (276 + cl) 3 ∧ Xi S (276 + cl) 3 ≤ 5 := hk.2.2.2.2.1 (by omega)
      refine l_gfr rfl rfl rfl rfl rfl (hH.r 900 1 20 rfl) ?_
      refine l_aload_n rfl rfl ?_
      refine l_gfi rfl rfl rfl (layCl (by omega)) rfl ?_
      have w60 : -1 ≤ (Xi S (276 + cl) 3) ∧ (Xi S (276 + cl) 3) ≤ 1666 := clc3 hH (by omega)
      refine l_iload rfl rfl ?_
      refine l_iload rfl rfl ?_
      refine l_callV rfl rfl rfl (t_wo_relateNow__w hH (Xi S (276 + cl) 3) z4 z6 ⟨by omega, by omega⟩ ⟨by omega, by omega⟩ ⟨by omega, by omega⟩ _) ?_
      rintro _ T5 ⟨hHT5, w62, rfl, e148⟩
      have hFT5 : FR md_tu_perform__w S T5 := FR.tr hF w62 rfl
      show Rl _ _ _ _ _ [] _ _
      refine l_goto rfl rfl ?_
      refine l_return rfl rfl ?_
      have w63 : Xi T5 900 5 = Xi S 900 5 := (show Xi T5 900 5 = Xi S 900 5 from w62.x _ _ rfl)
      have w65 : Xi T5 900 6 = Xi S 900 6 := (show Xi T5 900 6 = Xi S 900 6 from w62.x _ _ rfl)
      exact ⟨hHT5, hFT5, rfl, (by first | assumption | exact TX_FR hFT5 rfl hX | exact TX_FR (by assumption : FR md_wo_setAdjective__w S T5) rfl hX | exact TX_FR (by assumption : FR md_wo_relateNow__w S T5) rfl hX | exact TX_FR (by assumption : FR md_tu_move__w S T5) rfl hX | (apply_assumption; exact hX; first | exact hkt | exact Or.inl (by omega))), (by first | assumption | omega), (by first | exact pf_0 (by omega) W5 (by omega) e106 | exact pf_1 (by omega) W5 e130 | exact pf_6 (by omega) W5 W15 e148 | exact pf_8 (by omega) W5 W15 e159 | (have t := K208; exact pf_9 (by omega) W5 q175 (by assumption) e208) | (have t := K264; exact pf_10 (by omega) W5 (tr_1 (by omega) (by first | exact Or.inl (by omega) | exact Or.inr (by rw [← q248]; omega)) f264)) | exact pf_n (by omega) | exact pf_10 (by omega) W5 (tr_0 (by first | exact Or.inl (by omega) | exact Or.inr ⟨by omega, by rw [← q248]; omega⟩)))⟩
    | 7, hii =>
      cases hii
      have w67 : (Xi S (276 + cl) 0) = 7 := by simpa using w8
      refine l_return rfl rfl ?_
      exact ⟨hH, hF, rfl, (by first | assumption | exact TX_FR hF rfl hX | exact TX_FR (by assumption : FR md_wo_setAdjective__w S S) rfl hX | exact TX_FR (by assumption : FR md_wo_relateNow__w S S) rfl hX | exact TX_FR (by assumption : FR md_tu_move__w S S) rfl hX | (apply_assumption; exact hX; first | exact hkt | exact Or.inl (by omega))), (by first | assumption | omega), (by first | exact pf_0 (by omega) W5 (by omega) e106 | exact pf_1 (by omega) W5 e130 | exact pf_6 (by omega) W5 W15 e148 | exact pf_8 (by omega) W5 W15 e159 | (have t := K208; exact pf_9 (by omega) W5 q175 (by assumption) e208) | (have t := K264; exact pf_10 (by omega) W5 (tr_1 (by omega) (by first | exact Or.inl (by omega) | exact Or.inr (by rw [← q248]; omega)) f264)) | exact pf_n (by omega) | exact pf_10 (by omega) W5 (tr_0 (by first | exact Or.inl (by omega) | exact Or.inr ⟨by omega, by rw [← q248]; omega⟩)))⟩
    | 8, hii =>
      cases hii
      have w70 : (Xi S (276 + cl) 0) = 8 := by simpa using w8
      refine l_aload_n rfl rfl ?_
      have hk8 : (0 ≤ Xi S (276 + cl) 2 ∨ (Xi S (276 + cl) 2 = -2 ∧ 0 ≤ noun)) ∧ (0 ≤ Xi S (276 + cl) 6 ∨ (Xi S (276 + cl) 6 = -2 ∧ 0 ≤ noun)) := hk.2.2.2.2.2.2.1 (by omega)
      refine l_iload rfl rfl ?_
      refine l_iload rfl rfl ?_
      refine l_callV rfl rfl rfl (t_tu_move__w hH z4 z6 ⟨by omega, by omega⟩ ⟨by omega, by omega⟩ _) ?_
      rintro _ T6 ⟨hHT6, w72, rfl, e159⟩
      have hFT6 : FR md_tu_perform__w S T6 := FR.tr hF w72 rfl
      show Rl _ _ _ _ _ [] _ _
      refine l_goto rfl rfl ?_
      refine l_return rfl rfl ?_
      have w73 : Xi T6 900 5 = Xi S 900 5 := (show Xi T6 900 5 = Xi S 900 5 from w72.x _ _ rfl)
      have w75 : Xi T6 900 6 = Xi S 900 6 := (show Xi T6 900 6 = Xi S 900 6 from w72.x _ _ rfl)
      exact ⟨hHT6, hFT6, rfl, (by first | assumption | exact TX_FR hFT6 rfl hX | exact TX_FR (by assumption : FR md_wo_setAdjective__w S T6) rfl hX | exact TX_FR (by assumption : FR md_wo_relateNow__w S T6) rfl hX | exact TX_FR (by assumption : FR md_tu_move__w S T6) rfl hX | (apply_assumption; exact hX; first | exact hkt | exact Or.inl (by omega))), (by first | assumption | omega), (by first | exact pf_0 (by omega) W5 (by omega) e106 | exact pf_1 (by omega) W5 e130 | exact pf_6 (by omega) W5 W15 e148 | exact pf_8 (by omega) W5 W15 e159 | (have t := K208; exact pf_9 (by omega) W5 q175 (by assumption) e208) | (have t := K264; exact pf_10 (by omega) W5 (tr_1 (by omega) (by first | exact Or.inl (by omega) | exact Or.inr (by rw [← q248]; omega)) f264)) | exact pf_n (by omega) | exact pf_10 (by omega) W5 (tr_0 (by first | exact Or.inl (by omega) | exact Or.inr ⟨by omega, by rw [← q248]; omega⟩)))⟩
    | 9, hii =>
      cases hii
      have w77 : (Xi S (276 + cl) 0) = 9 := by simpa using w8
      refine l_aload_n rfl rfl ?_
      have hk9 : (0 ≤ Xi S (276 + cl) 2 ∨ (Xi S (276 + cl) 2 = -2 ∧ 0 ≤ noun)) ∧ 0 ≤ Xi S (276 + cl) 3 ∧ Xi S (276 + cl) 3 ≤ 11 := hk.2.2.1 (by omega)
      refine l_gfr rfl rfl rfl rfl rfl (hH.r 900 1 20 rfl) ?_
      refine l_iload rfl rfl ?_
      refine l_aload_n rfl rfl ?_
      refine l_gfi rfl rfl rfl (layCl (by omega)) rfl ?_
      have w78 : -1 ≤ (Xi S (276 + cl) 3) ∧ (Xi S (276 + cl) 3) ≤ 1666 := clc3 hH (by omega)
      refine l_callV rfl rfl rfl (t_wo_valueOf hH z4 (Xi S (276 + cl) 3) ⟨by omega, by omega⟩ ⟨by omega, by omega⟩ _) ?_
      rintro _ _ ⟨rfl, z79, rfl, w79, q175⟩
      show Rl _ _ _ _ _ [iv z79] _ _
      refine l_aload_n rfl rfl ?_
      refine l_gfi rfl rfl rfl (layCl (by omega)) rfl ?_
      have w80 : -2147483648 ≤ (Xi S (276 + cl) 4) ∧ (Xi S (276 + cl) 4) ≤ 2147483647 := Xi_rgI
      refine l_iaddG rfl (fun c81 w81 w81d => ?_)
      refine l_istore rfl rfl rfl ?_
      refine l_aload_n rfl rfl ?_
      refine l_gfr rfl rfl rfl rfl rfl (hH.r 900 1 20 rfl) ?_
      refine l_iload rfl rfl ?_
      refine l_aload_n rfl rfl ?_
      refine l_gfi rfl rfl rfl (layCl (by omega)) rfl ?_
      refine l_ldc (z := (-999999)) rfl rfl ?_
      refine l_ldc (z := 999999) rfl rfl ?_
      refine l_iload rfl rfl ?_
      refine l_min rfl rfl rfl (by unfold rg; omega) (by unfold rg; omega) ?_
      refine l_max rfl rfl rfl (by unfold rg; omega) (by unfold rg; omega) ?_
      refine l_iconst rfl ?_
      refine l_callV rfl rfl rfl (t_wo_setProperty__w hH z4 (Xi S (276 + cl) 3) (if (-999999) < (if c81 < 999999 then c81 else 999999) then (if c81 < 999999 then c81 else 999999) else (-999999)) 0 ⟨by omega, by omega⟩ ⟨by omega, by omega⟩ ⟨by omega, by omega⟩ ⟨by omega, by omega⟩ _) ?_
      rintro _ T7 ⟨hHT7, w84, rfl, w82, e208⟩
      have hFT7 : FR md_tu_perform__w S T7 := FR.tr hF w84 rfl
      show Rl _ _ _ _ _ [] _ _
      have K208 : True := trivial
      refine l_goto rfl rfl ?_
      refine l_return rfl rfl ?_
      have w85 : Xi T7 900 5 = Xi S 900 5 := (show Xi T7 900 5 = Xi S 900 5 from w84.x _ _ rfl)
      have w87 : Xi T7 900 6 = Xi S 900 6 := (show Xi T7 900 6 = Xi S 900 6 from w84.x _ _ rfl)
      exact ⟨hHT7, hFT7, rfl, (by first | assumption | exact TX_FR hFT7 rfl hX | exact TX_FR (by assumption : FR md_wo_setAdjective__w S T7) rfl hX | exact TX_FR (by assumption : FR md_wo_relateNow__w S T7) rfl hX | exact TX_FR (by assumption : FR md_tu_move__w S T7) rfl hX | (apply_assumption; exact hX; first | exact hkt | exact Or.inl (by omega))), (by first | assumption | omega), (by first | exact pf_0 (by omega) W5 (by omega) e106 | exact pf_1 (by omega) W5 e130 | exact pf_6 (by omega) W5 W15 e148 | exact pf_8 (by omega) W5 W15 e159 | (have t := K208; exact pf_9 (by omega) W5 q175 (by assumption) e208) | (have t := K264; exact pf_10 (by omega) W5 (tr_1 (by omega) (by first | exact Or.inl (by omega) | exact Or.inr (by rw [← q248]; omega)) f264)) | exact pf_n (by omega) | exact pf_10 (by omega) W5 (tr_0 (by first | exact Or.inl (by omega) | exact Or.inr ⟨by omega, by rw [← q248]; omega⟩)))⟩
    | 10, hii =>
      cases hii
      have w89 : (Xi S (276 + cl) 0) = 10 := by simpa using w8
      refine l_aload_n rfl rfl ?_
      have hk10 : 0 ≤ Xi S (276 + cl) 3 ∧ Xi S (276 + cl) 3 < Xi S 5 8 ∧ (0 ≤ Xi S 19 (Xi S (276 + cl) 3).toNat → (0 ≤ Xi S (276 + cl) 2 ∨ (Xi S (276 + cl) 2 = -2 ∧ 0 ≤ noun))) ∧ Xi S 19 (Xi S (276 + cl) 3).toNat ≠ -2 := hk.2.2.2.2.2.2.2 (by omega)
      refine l_gfr rfl rfl rfl rfl rfl (hH.r 900 0 1 rfl) ?_
      refine l_gfr rfl rfl rfl rfl rfl (hH.r 1 18 19 rfl) ?_
      refine l_aload_n rfl rfl ?_
      refine l_gfi rfl rfl rfl (layCl (by omega)) rfl ?_
      have w90 : -1 ≤ (Xi S (276 + cl) 3) ∧ (Xi S (276 + cl) 3) ≤ 1666 := clc3 hH (by omega)
      refine l_iaload (n := 12) rfl rfl (by omega) (by omega) (by unfold rg; omega) ?_
      have w91 : -2 ≤ (Xi S 19 (((Xi S (276 + cl) 3)).toNat)) ∧ (Xi S 19 (((Xi S (276 + cl) 3)).toNat)) ≤ 15 := hH.c _ _
      refine l_istore rfl rfl rfl ?_
      refine l_iload_n rfl rfl ?_
      refine l_bipush rfl rfl ?_
      refine l_icmp_ge rfl rfl (by unfold rg; omega) (by unfold rg; omega) (fun w92 => ?_) (fun w93 => ?_)
      · refine l_return rfl rfl ?_
        exact ⟨hH, hF, rfl, (by first | assumption | exact TX_FR hF rfl hX | exact TX_FR (by assumption : FR md_wo_setAdjective__w S S) rfl hX | exact TX_FR (by assumption : FR md_wo_relateNow__w S S) rfl hX | exact TX_FR (by assumption : FR md_tu_move__w S S) rfl hX | (apply_assumption; exact hX; first | exact hkt | exact Or.inl (by omega))), (by first | assumption | omega), (by first | exact pf_0 (by omega) W5 (by omega) e106 | exact pf_1 (by omega) W5 e130 | exact pf_6 (by omega) W5 W15 e148 | exact pf_8 (by omega) W5 W15 e159 | (have t := K208; exact pf_9 (by omega) W5 q175 (by assumption) e208) | (have t := K264; exact pf_10 (by omega) W5 (tr_1 (by omega) (by first | exact Or.inl (by omega) | exact Or.inr (by rw [← q248]; omega)) f264)) | exact pf_n (by omega) | exact pf_10 (by omega) W5 (tr_0 (by first | exact Or.inl (by omega) | exact Or.inr ⟨by omega, by rw [← q248]; omega⟩)))⟩
      · refine l_iload rfl rfl ?_
        refine l_iconst rfl ?_
        refine l_icmp_eq rfl rfl (by unfold rg; omega) (by unfold rg; omega) (fun w96 => ?_) (fun w97 => ?_)
        · refine l_aload_n rfl rfl ?_
          refine l_aload_n rfl rfl ?_
          refine l_gfi rfl rfl rfl (layCl (by omega)) rfl ?_
          refine l_iload rfl rfl ?_
          refine l_iload_n rfl rfl ?_
          refine l_iconst rfl ?_
          refine l_iadd rfl ?_
          refine l_callV rfl rfl rfl (hrec hH (Xi S (276 + cl) 3) z4 (dq + 1) ⟨by omega, by omega⟩ ⟨by omega, by omega⟩ ⟨by omega, by omega⟩ (by first | assumption | omega) (by first | assumption | omega) (by first | assumption | exact TX_FR hF rfl hX) (by first | assumption | exact DEF_FR hH hF rfl rfl hD) (by first | assumption | exact RUL_FR hH hF rfl rfl hR) (by first | assumption | exact ORD_FR hF rfl hO) (by first | assumption | exact AK_FR hF rfl hA) (by first | assumption | omega) (CW_FR hF rfl rfl cw) (by omega)) ?_
          rintro _ T8 ⟨hHT8, w103, z102, rfl, w102, w100, w101, f264⟩
          have hFT8 : FR md_tu_perform__w S T8 := FR.tr hF w103 rfl
          show Rl _ _ _ _ _ [iv z102] _ _
          have K264 : True := trivial
          refine l_pop rfl rfl ?_
          refine l_goto rfl rfl ?_
          refine l_return rfl rfl ?_
          have w104 : 0 ≤ Xi T8 900 5 ∧ Xi T8 900 5 ≤ 301 := hHT8.c _ _
          have w105 : 0 ≤ Xi T8 900 6 ∧ Xi T8 900 6 ≤ 1 := hHT8.c _ _
          exact ⟨hHT8, hFT8, rfl, (by first | assumption | exact TX_FR hFT8 rfl hX | exact TX_FR (by assumption : FR md_wo_setAdjective__w S T8) rfl hX | exact TX_FR (by assumption : FR md_wo_relateNow__w S T8) rfl hX | exact TX_FR (by assumption : FR md_tu_move__w S T8) rfl hX | (apply_assumption; exact hX; first | exact hkt | exact Or.inl (by omega))), (by first | assumption | omega), (by first | exact pf_0 (by omega) W5 (by omega) e106 | exact pf_1 (by omega) W5 e130 | exact pf_6 (by omega) W5 W15 e148 | exact pf_8 (by omega) W5 W15 e159 | (have t := K208; exact pf_9 (by omega) W5 q175 (by assumption) e208) | (have t := K264; exact pf_10 (by omega) W5 (tr_1 (by omega) (by first | exact Or.inl (by omega) | exact Or.inr (by rw [← q248]; omega)) f264)) | exact pf_n (by omega) | exact pf_10 (by omega) W5 (tr_0 (by first | exact Or.inl (by omega) | exact Or.inr ⟨by omega, by rw [← q248]; omega⟩)))⟩
        · refine l_aload_n rfl rfl ?_
          refine l_gfr rfl rfl rfl rfl rfl (hH.r 900 1 20 rfl) ?_
          refine l_iload rfl rfl ?_
          refine l_iload rfl rfl ?_
          refine l_callV rfl rfl rfl (t_wo_isA hH z4 (Xi S 19 (((Xi S (276 + cl) 3)).toNat)) ⟨by omega, by omega⟩ ⟨by omega, by omega⟩ _) ?_
          rintro _ _ ⟨rfl, z106, rfl, w106, q248⟩
          show Rl _ _ _ _ _ [iv z106] _ _
          refine l_if_eq rfl rfl (by unfold rg; omega) (fun w107 => ?_) (fun w108 => ?_)
          · refine l_return rfl rfl ?_
            exact ⟨hH, hF, rfl, (by first | assumption | exact TX_FR hF rfl hX | exact TX_FR (by assumption : FR md_wo_setAdjective__w S S) rfl hX | exact TX_FR (by assumption : FR md_wo_relateNow__w S S) rfl hX | exact TX_FR (by assumption : FR md_tu_move__w S S) rfl hX | (apply_assumption; exact hX; first | exact hkt | exact Or.inl (by omega))), (by first | assumption | omega), (by first | exact pf_0 (by omega) W5 (by omega) e106 | exact pf_1 (by omega) W5 e130 | exact pf_6 (by omega) W5 W15 e148 | exact pf_8 (by omega) W5 W15 e159 | (have t := K208; exact pf_9 (by omega) W5 q175 (by assumption) e208) | (have t := K264; exact pf_10 (by omega) W5 (tr_1 (by omega) (by first | exact Or.inl (by omega) | exact Or.inr (by rw [← q248]; omega)) f264)) | exact pf_n (by omega) | exact pf_10 (by omega) W5 (tr_0 (by first | exact Or.inl (by omega) | exact Or.inr ⟨by omega, by rw [← q248]; omega⟩)))⟩
          · refine l_aload_n rfl rfl ?_
            refine l_aload_n rfl rfl ?_
            refine l_gfi rfl rfl rfl (layCl (by omega)) rfl ?_
            refine l_iload rfl rfl ?_
            refine l_iload_n rfl rfl ?_
            refine l_iconst rfl ?_
            refine l_iadd rfl ?_
            refine l_callV rfl rfl rfl (hrec hH (Xi S (276 + cl) 3) z4 (dq + 1) ⟨by omega, by omega⟩ ⟨by omega, by omega⟩ ⟨by omega, by omega⟩ (by first | assumption | omega) (by first | assumption | omega) (by first | assumption | exact TX_FR hF rfl hX) (by first | assumption | exact DEF_FR hH hF rfl rfl hD) (by first | assumption | exact RUL_FR hH hF rfl rfl hR) (by first | assumption | exact ORD_FR hF rfl hO) (by first | assumption | exact AK_FR hF rfl hA) (by first | assumption | omega) (CW_FR hF rfl rfl cw) (by omega)) ?_
            rintro _ T9 ⟨hHT9, w116, z115, rfl, w115, w113, w114, f264⟩
            have hFT9 : FR md_tu_perform__w S T9 := FR.tr hF w116 rfl
            show Rl _ _ _ _ _ [iv z115] _ _
            have K264 : True := trivial
            refine l_pop rfl rfl ?_
            refine l_goto rfl rfl ?_
            refine l_return rfl rfl ?_
            have w117 : 0 ≤ Xi T9 900 5 ∧ Xi T9 900 5 ≤ 301 := hHT9.c _ _
            have w118 : 0 ≤ Xi T9 900 6 ∧ Xi T9 900 6 ≤ 1 := hHT9.c _ _
            exact ⟨hHT9, hFT9, rfl, (by first | assumption | exact TX_FR hFT9 rfl hX | exact TX_FR (by assumption : FR md_wo_setAdjective__w S T9) rfl hX | exact TX_FR (by assumption : FR md_wo_relateNow__w S T9) rfl hX | exact TX_FR (by assumption : FR md_tu_move__w S T9) rfl hX | (apply_assumption; exact hX; first | exact hkt | exact Or.inl (by omega))), (by first | assumption | omega), (by first | exact pf_0 (by omega) W5 (by omega) e106 | exact pf_1 (by omega) W5 e130 | exact pf_6 (by omega) W5 W15 e148 | exact pf_8 (by omega) W5 W15 e159 | (have t := K208; exact pf_9 (by omega) W5 q175 (by assumption) e208) | (have t := K264; exact pf_10 (by omega) W5 (tr_1 (by omega) (by first | exact Or.inl (by omega) | exact Or.inr (by rw [← q248]; omega)) f264)) | exact pf_n (by omega) | exact pf_10 (by omega) W5 (tr_0 (by first | exact Or.inl (by omega) | exact Or.inr ⟨by omega, by rw [← q248]; omega⟩)))⟩
    | n + 11, hii => exact absurd hii (by simp)
def md_tu_runRules__w : List rec := [(22, 23, 0, 100000), (23, 24, 0, 100000), (25, 65, 0, 100000), (66, 106, 0, 100000), (107, 147, 0, 100000), (148, 188, 0, 100000), (189, 195, 0, 100000), (900, 901, 4, 5), (900, 901, 5, 6), (900, 901, 6, 7), (901, 902, 0, 100000), (997, 1005, 0, 100000), (1006, 1014, 0, 100000)]
abbrev Q_tu_runRules__w (S : sS) (sort : Int) (action : Int) (noun : Int) (dr : Int) : pst := fun r S1 => HI S1 ∧ FR md_tu_runRules__w S S1 ∧ (∃ z : Int, r = some (iv z) ∧ (0 ≤ z ∧ z ≤ 1) ∧ (TX S1) ∧ (Xi S1 900 6 = 0 → Xi S1 900 5 ≤ 300) ∧ ((S1, z) = rrA (trC (8 - dr).toNat) sort action noun S))
set_option maxRecDepth 100000 in
theorem u_tu_runRules__w {S : sS} (hH : HI S) (sort : Int) (action : Int) (noun : Int) (dr : Int) (hsort : 0 ≤ sort ∧ sort ≤ 3) (haction : -1 ≤ action ∧ action ≤ 11) (hnoun : -1 ≤ noun ∧ noun ≤ 23) (hdr : 0 ≤ dr ∧ dr ≤ 8) (hn : 0 ≤ action → Xi S 19 action.toNat ≠ -1 → 0 ≤ noun) (hX : TX S) (hD : DEF S) (hR : RUL S) (hO : ORD S) (hA : AK S) (hE : Xi S 900 6 = 0 → Xi S 900 5 ≤ 300) (cw : CW S) (d : Nat) (hrec : ∀ {S : sS} (_ : HI S) (cl : Nat) (noun : Int) (dq : Int) (hcl : cl < 600) (hnoun : -1 ≤ noun ∧ noun ≤ 23) (hdq : 0 ≤ dq ∧ dq ≤ 8) (hk : CLok S (0 ≤ noun) cl) (hX : TX S) (hD : DEF S) (hR : RUL S) (hO : ORD S) (hA : AK S) (hE : Xi S 900 6 = 0 → Xi S 900 5 ≤ 300) (cw : CW S), (dq = dr) → Mt lay0 (d + 30) m_tu_perform [.ref 900, .ref (276 + cl), iv noun, iv dq] S (Q_tu_perform__w S cl noun dq)) : Mt lay0 (d + 31) m_tu_runRules [.ref 900, iv sort, iv action, iv noun, iv dr] S (Q_tu_runRules__w S sort action noun dr) := by
  refine Mt_R rfl rfl ?_
  have hF : FR md_tu_runRules__w S S := FR.rf
  have w1 : 0 ≤ Xi S 246 2 ∧ Xi S 246 2 ≤ 24 := hH.c _ _
  have w2 : 0 ≤ Xi S 900 5 ∧ Xi S 900 5 ≤ 301 := hH.c _ _
  have w3 : 0 ≤ Xi S 900 6 ∧ Xi S 900 6 ≤ 1 := hH.c _ _
  have C3 : ∀ (n3 : Nat) (T1 : sS) (_ : HI T1) (_ : FR md_tu_runRules__w S T1) (v5 : Int), (0 ≤ v5 ∧ v5 ≤ 24) → (TX T1) → (Xi T1 900 6 = 0 → Xi T1 900 5 ≤ 300) → (rrA (trC (8 - dr).toNat) sort action noun S = rrC (trC (8 - dr).toNat) sort action noun (Xi S 246 2 - v5).toNat v5.toNat T1) → n3 = (25 - v5).toNat → Rl lay0 (d + 30) m_tu_runRules 3 [(0, .ref 900), (1, iv sort), (2, iv action), (3, iv noun), (4, iv dr), (5, iv v5)] [] T1 (Q_tu_runRules__w S sort action noun dr) := by
    intro n3
    induction n3 using Nat.strongRecOn with
    | ind n3 ih3 =>
      intro T1 hHT1 hFT1 v5 w4 hX3 w5 t3 hm3
      have w6 : Xi T1 246 2 = Xi S 246 2 := hFT1.x _ _ rfl
      have w7 : 0 ≤ Xi T1 900 5 ∧ Xi T1 900 5 ≤ 301 := hHT1.c _ _
      have w8 : 0 ≤ Xi T1 900 6 ∧ Xi T1 900 6 ≤ 1 := hHT1.c _ _
      have C87 : ∀ (n87 : Nat) (T2 : sS) (_ : HI T2) (_ : FR md_tu_runRules__w S T2) (v5 : Int) (rr : Nat) (v7 : Int) (v8 : Int) (v9 : Int), (0 ≤ v5 ∧ v5 ≤ 23) → (rr < 24) → (0 ≤ v7 ∧ v7 ≤ 1) → (0 ≤ v8 ∧ v8 ≤ 600) → (0 ≤ v9 ∧ v9 ≤ 8) → (TX T2) → (Xi T2 900 6 = 0 → Xi T2 900 5 ≤ 300) → ((rr : Int) < Xi S 246 2) → (Xi S (248 + rr) 1 = action) → (v8 = Xi S (248 + rr) 7 + Xi S (248 + rr) 4 + Xi S (248 + rr) 5) → (0 ≤ v9) → (rrA (trC (8 - dr).toNat) sort action noun S = rrD (trC (8 - dr).toNat) sort action noun (Xi S 246 2 - (v5 + 1)).toNat (v5 + 1).toNat (phC (trC (8 - dr).toNat) noun (Xi S (248 + rr) 6 - v9).toNat (v8 + v9).toNat T2 v7)) → ((25 - v5).toNat ≤ n3) → n87 = (9 - v9).toNat → Rl lay0 (d + 30) m_tu_runRules 87 [(0, .ref 900), (1, iv sort), (2, iv action), (3, iv noun), (4, iv dr), (5, iv v5), (6, .ref (248 + rr)), (7, iv v7), (8, iv v8), (9, iv v9)] [] T2 (Q_tu_runRules__w S sort action noun dr) := by
        intro n87
        induction n87 using Nat.strongRecOn with
        | ind n87 ih87 =>
          intro T2 hHT2 hFT2 v5 rr v7 v8 v9 w9 w10 w11 w12 w13 hX87 w14 w15 w16 w17 w18 t87 w19 hm87
          have w20 : Xi T2 246 2 = Xi S 246 2 := hFT2.x _ _ rfl
          have w21 : 0 ≤ Xi T2 900 5 ∧ Xi T2 900 5 ≤ 301 := hHT2.c _ _
          have w22 : 0 ≤ Xi T2 900 6 ∧ Xi T2 900 6 ≤ 1 := hHT2.c _ _
          have C212 : ∀  (T3 : sS) (_ : HI T3) (_ : FR md_tu_runRules__w S T3) (v5 : Int) (rr : Nat) (v7 : Int) (v8 : Int) (v9 : Int), (0 ≤ v5 ∧ v5 ≤ 23) → (rr < 24) → (0 ≤ v7 ∧ v7 ≤ 1) → (0 ≤ v8 ∧ v8 ≤ 600) → (0 ≤ v9 ∧ v9 ≤ 7) → (TX T3) → (Xi T3 900 6 = 0 → Xi T3 900 5 ≤ 300) → ((rr : Int) < Xi S 246 2) → (Xi S (248 + rr) 1 = action) → (v8 = Xi S (248 + rr) 7 + Xi S (248 + rr) 4 + Xi S (248 + rr) 5) → (0 ≤ v9 ∧ v9 < Xi S (248 + rr) 6) → (rrA (trC (8 - dr).toNat) sort action noun S = rrD (trC (8 - dr).toNat) sort action noun (Xi S 246 2 - (v5 + 1)).toNat (v5 + 1).toNat (phC (trC (8 - dr).toNat) noun (Xi S (248 + rr) 6 - (v9 + 1)).toNat (v8 + (v9 + 1)).toNat T3 v7)) → ((25 - v5).toNat ≤ n3) → ((9 - v9).toNat ≤ n87) → Rl lay0 (d + 30) m_tu_runRules 212 [(0, .ref 900), (1, iv sort), (2, iv action), (3, iv noun), (4, iv dr), (5, iv v5), (6, .ref (248 + rr)), (7, iv v7), (8, iv v8), (9, iv v9)] [] T3 (Q_tu_runRules__w S sort action noun dr) := by
            intro T3 hHT3 hFT3 v5 rr v7 v8 v9 w23 w24 w25 w26 w27 hX212 w28 w29 w30 w31 w32 t212 w33 w34
            have w35 : Xi T3 246 2 = Xi S 246 2 := hFT3.x _ _ rfl
            have w36 : 0 ≤ Xi T3 900 5 ∧ Xi T3 900 5 ≤ 301 := hHT3.c _ _
            have w37 : 0 ≤ Xi T3 900 6 ∧ Xi T3 900 6 ≤ 1 := hHT3.c _ _
            refine l_iinc rfl rfl rfl rfl ?_
            refine l_goto rfl rfl ?_
            have w38 : 0 ≤ Xi T3 900 5 ∧ Xi T3 900 5 ≤ 301 := hHT3.c _ _
            have w39 : 0 ≤ Xi T3 900 6 ∧ Xi T3 900 6 ≤ 1 := hHT3.c _ _
            exact Rl_weak (ih87 _ (by omega) T3 hHT3 hFT3 (v5) (rr) (v7) (v8) ((v9 + 1)) (by omega) (by omega) (by omega) (by omega) (by omega) (by first | assumption | exact (by first | assumption | exact (by assumption : WI T3).2.1 : TX T3)) (by omega) (by omega) (by omega) (by omega) (by omega) (by first | exact t212 | (have t := f55; rw [t3, rr_g (by omega) (by omega) rfl (by omega) (by rw [← f55]; omega) s55, hq6]; rfl)) (by omega) rfl) (And.intro rfl (And.intro rfl (And.intro rfl (And.intro rfl (And.intro rfl (And.intro rfl (And.intro rfl (And.intro rfl (And.intro rfl (And.intro rfl (True.intro)))))))))))
          have C218 : ∀  (T4 : sS) (_ : HI T4) (_ : FR md_tu_runRules__w S T4) (v5 : Int) (v7 : Int), (0 ≤ v5 ∧ v5 ≤ 23) → (0 ≤ v7 ∧ v7 ≤ 1) → (TX T4) → (Xi T4 900 6 = 0 → Xi T4 900 5 ≤ 300) → (rrA (trC (8 - dr).toNat) sort action noun S = rrD (trC (8 - dr).toNat) sort action noun (Xi S 246 2 - (v5 + 1)).toNat (v5 + 1).toNat (T4, v7)) → ((25 - v5).toNat ≤ n3) → Rl lay0 (d + 30) m_tu_runRules 218 [(0, .ref 900), (1, iv sort), (2, iv action), (3, iv noun), (4, iv dr), (5, iv v5), (7, iv v7)] [] T4 (Q_tu_runRules__w S sort action noun dr) := by
            intro T4 hHT4 hFT4 v5 v7 w40 w41 hX218 w42 t218 w43
            have w44 : Xi T4 246 2 = Xi S 246 2 := hFT4.x _ _ rfl
            have w45 : 0 ≤ Xi T4 900 5 ∧ Xi T4 900 5 ≤ 301 := hHT4.c _ _
            have w46 : 0 ≤ Xi T4 900 6 ∧ Xi T4 900 6 ≤ 1 := hHT4.c _ _
            refine l_aload_n rfl rfl ?_
            refine l_gfi rfl rfl rfl rfl rfl ?_
            refine l_if_ne rfl rfl (by unfold rg; omega) (fun w47 => ?_) (fun w48 => ?_)
            · refine l_iinc rfl rfl rfl rfl ?_
              refine l_goto rfl rfl ?_
              have w49 : 0 ≤ Xi T4 900 5 ∧ Xi T4 900 5 ≤ 301 := hHT4.c _ _
              have w50 : 0 ≤ Xi T4 900 6 ∧ Xi T4 900 6 ≤ 1 := hHT4.c _ _
              exact Rl_weak (ih3 _ (by omega) T4 hHT4 hFT4 ((v5 + 1)) (by omega) (by first | assumption | exact (by first | assumption | exact (by assumption : WI T4).2.1 : TX T4)) (by omega) (by first | (have t := t218; exact t218.trans (rd_n (by omega))) | (have t := f55; exact t3.trans (rr_na (by omega) (by omega) (by omega) (by rw [← f55]; omega) s55)) | (have t := t3; exact t3.trans (rr_j (by omega) (by omega) (by omega))) | rfl) rfl) (And.intro rfl (And.intro rfl (And.intro rfl (And.intro rfl (And.intro rfl (And.intro rfl (True.intro)))))))
            · refine l_iload_n rfl rfl ?_
              refine l_iconst rfl ?_
              refine l_icmp_eq rfl rfl (by unfold rg; omega) (by unfold rg; omega) (fun w51 => ?_) (fun w52 => ?_)
              · refine l_iconst rfl ?_
                refine l_ireturn rfl rfl ?_
                have w53 : 0 ≤ Xi T4 900 5 ∧ Xi T4 900 5 ≤ 301 := hHT4.c _ _
                have w54 : 0 ≤ Xi T4 900 6 ∧ Xi T4 900 6 ≤ 1 := hHT4.c _ _
                exact ⟨hHT4, hFT4, _, rfl, ⟨by omega, by omega⟩, (by first | assumption | exact TX_FR hFT4 rfl hX), (by first | assumption | omega), (by first | (have t := t218; exact (t218.trans (rd_y (by omega) (by omega))).symm) | exact (t3.trans (rr_e (by omega))).symm)⟩
              · refine l_iload rfl rfl ?_
                refine l_if_eq rfl rfl (by unfold rg; omega) (fun w55 => ?_) (fun w56 => ?_)
                · refine l_iinc rfl rfl rfl rfl ?_
                  refine l_goto rfl rfl ?_
                  have w57 : 0 ≤ Xi T4 900 5 ∧ Xi T4 900 5 ≤ 301 := hHT4.c _ _
                  have w58 : 0 ≤ Xi T4 900 6 ∧ Xi T4 900 6 ≤ 1 := hHT4.c _ _
                  exact Rl_weak (ih3 _ (by omega) T4 hHT4 hFT4 ((v5 + 1)) (by omega) (by first | assumption | exact (by first | assumption | exact (by assumption : WI T4).2.1 : TX T4)) (by omega) (by first | (have t := t218; exact t218.trans (rd_n (by omega))) | (have t := f55; exact t3.trans (rr_na (by omega) (by omega) (by omega) (by rw [← f55]; omega) s55)) | (have t := t3; exact t3.trans (rr_j (by omega) (by omega) (by omega))) | rfl) rfl) (And.intro rfl (And.intro rfl (And.intro rfl (And.intro rfl (And.intro rfl (And.intro rfl (True.intro)))))))
                · refine l_iload_n rfl rfl ?_
                  refine l_iconst rfl ?_
                  refine l_icmp_eq rfl rfl (by unfold rg; omega) (by unfold rg; omega) (fun w59 => ?_) (fun w60 => ?_)
                  · refine l_iinc rfl rfl rfl rfl ?_
                    refine l_goto rfl rfl ?_
                    have w61 : 0 ≤ Xi T4 900 5 ∧ Xi T4 900 5 ≤ 301 := hHT4.c _ _
                    have w62 : 0 ≤ Xi T4 900 6 ∧ Xi T4 900 6 ≤ 1 := hHT4.c _ _
                    exact Rl_weak (ih3 _ (by omega) T4 hHT4 hFT4 ((v5 + 1)) (by omega) (by first | assumption | exact (by first | assumption | exact (by assumption : WI T4).2.1 : TX T4)) (by omega) (by first | (have t := t218; exact t218.trans (rd_n (by omega))) | (have t := f55; exact t3.trans (rr_na (by omega) (by omega) (by omega) (by rw [← f55]; omega) s55)) | (have t := t3; exact t3.trans (rr_j (by omega) (by omega) (by omega))) | rfl) rfl) (And.intro rfl (And.intro rfl (And.intro rfl (And.intro rfl (And.intro rfl (And.intro rfl (True.intro)))))))
                  · refine l_iconst rfl ?_
                    refine l_ireturn rfl rfl ?_
                    have w63 : 0 ≤ Xi T4 900 5 ∧ Xi T4 900 5 ≤ 301 := hHT4.c _ _
                    have w64 : 0 ≤ Xi T4 900 6 ∧ Xi T4 900 6 ≤ 1 := hHT4.c _ _
                    exact ⟨hHT4, hFT4, _, rfl, ⟨by omega, by omega⟩, (by first | assumption | exact TX_FR hFT4 rfl hX), (by first | assumption | omega), (by first | (have t := t218; exact (t218.trans (rd_y (by omega) (by omega))).symm) | exact (t3.trans (rr_e (by omega))).symm)⟩
          refine l_iload rfl rfl ?_
          refine l_aload rfl rfl ?_
          have hs6 : Xi T2 (248 + rr) 6 = Xi S (248 + rr) 6 := FR_ru hFT2 rfl (by omega)
          have hrb := RUL_b hR (i := rr) (by omega)
          have hrc := RUL_c hR (i := rr) (by omega)
          have p4 := ruc4 hH (i := rr) (by omega)
          have p5 := ruc5 hH (i := rr) (by omega)
          have e4 : Xi S (248 + rr) (4 : Int).toNat = Xi S (248 + rr) 4 := rfl
          have e5 : Xi S (248 + rr) (5 : Int).toNat = Xi S (248 + rr) 5 := rfl
          refine l_bipush rfl rfl ?_
          refine l_iaload (n := 8) rfl (lay_248 (by omega)) (by omega) (by omega) (by unfold rg; omega) ?_
          have w65 : 0 ≤ (Xi T2 (248 + rr) ((6 : Int).toNat)) ∧ (Xi T2 (248 + rr) ((6 : Int).toNat)) ≤ 8 := ruc6 hHT2 (by omega)
          have w66 : (Xi T2 (248 + rr) ((6 : Int).toNat)) = Xi T2 (248 + rr) 6 := rfl
          refine l_icmp_ge rfl rfl (by unfold rg; omega) (by unfold rg; omega) (fun w67 => ?_) (fun w68 => ?_)
          · have w69 : 0 ≤ Xi T2 900 5 ∧ Xi T2 900 5 ≤ 301 := hHT2.c _ _
            have w70 : 0 ≤ Xi T2 900 6 ∧ Xi T2 900 6 ≤ 1 := hHT2.c _ _
            exact Rl_weak (C218 T2 hHT2 hFT2 (v5) (v7) (by omega) (by omega) (by first | assumption | exact (by first | assumption | exact (by assumption : WI T2).2.1 : TX T2)) (by omega) (t87.trans (congrArg (rrD (trC (8 - dr).toNat) sort action noun (Xi S 246 2 - (v5 + 1)).toNat (v5 + 1).toNat) (ph_e (by omega)))) (by omega)) (And.intro rfl (And.intro rfl (And.intro rfl (And.intro rfl (And.intro rfl (And.intro rfl (And.intro rfl (True.intro))))))))
          · refine l_iload rfl rfl ?_
            refine l_if_ne rfl rfl (by unfold rg; omega) (fun w71 => ?_) (fun w72 => ?_)
            · have w73 : 0 ≤ Xi T2 900 5 ∧ Xi T2 900 5 ≤ 301 := hHT2.c _ _
              have w74 : 0 ≤ Xi T2 900 6 ∧ Xi T2 900 6 ≤ 1 := hHT2.c _ _
              exact Rl_weak (C218 T2 hHT2 hFT2 (v5) (v7) (by omega) (by omega) (by first | assumption | exact (by first | assumption | exact (by assumption : WI T2).2.1 : TX T2)) (by omega) (t87.trans (congrArg (rrD (trC (8 - dr).toNat) sort action noun (Xi S 246 2 - (v5 + 1)).toNat (v5 + 1).toNat) (ph_e (by omega)))) (by omega)) (And.intro rfl (And.intro rfl (And.intro rfl (And.intro rfl (And.intro rfl (And.intro rfl (And.intro rfl (True.intro))))))))
            · refine l_aload_n rfl rfl ?_
              refine l_gfi rfl rfl rfl rfl rfl ?_
              refine l_if_ne rfl rfl (by unfold rg; omega) (fun w75 => ?_) (fun w76 => ?_)
              · have w77 : 0 ≤ Xi T2 900 5 ∧ Xi T2 900 5 ≤ 301 := hHT2.c _ _
                have w78 : 0 ≤ Xi T2 900 6 ∧ Xi T2 900 6 ≤ 1 := hHT2.c _ _
                exact Rl_weak (C218 T2 hHT2 hFT2 (v5) (v7) (by omega) (by omega) (by first | assumption | exact (by first | assumption | exact (by assumption : WI T2).2.1 : TX T2)) (by omega) (t87.trans (congrArg (rrD (trC (8 - dr).toNat) sort action noun (Xi S 246 2 - (v5 + 1)).toNat (v5 + 1).toNat) (ph_e (by omega)))) (by omega)) (And.intro rfl (And.intro rfl (And.intro rfl (And.intro rfl (And.intro rfl (And.intro rfl (And.intro rfl (True.intro))))))))
              · refine l_aload_n rfl rfl ?_
                refine l_dup rfl rfl ?_
                refine l_gfi rfl rfl rfl rfl rfl ?_
                refine l_iconst rfl ?_
                refine l_iadd rfl ?_
                refine l_pfi rfl rfl rfl rfl ?_
                obtain ⟨U5, eU5⟩ : ∃ T : sS, T = uI T2 900 5 (Int32.ofInt ((Xi T2 900 5) + 1)) := ⟨_, rfl⟩
                rw [← eU5]
                have hHU5 : HI U5 := by rw [eU5]; exact HI_w hHT2 (show 0 ≤ ((Xi T2 900 5) + 1) by omega) (show ((Xi T2 900 5) + 1) ≤ 301 by omega)
                have hFU5 : FR md_tu_runRules__w S U5 := by rw [eU5]; exact FR.wI hFT2 (mdf_i (r := (900, 901, 5, 6)) (List.mem_of_getElem? (i := 8) rfl) (inR_i (by omega) (by omega) (by omega) (by omega)))
                have w79 : Xi U5 900 5 = ((Xi T2 900 5) + 1) := by rw [eU5]; exact Xi_same (by unfold rg; omega)
                have hXw1 : TX U5 := TX_w eU5 rfl (by assumption)
                refine l_aload_n rfl rfl ?_
                refine l_aload_n rfl rfl ?_
                refine l_gfi rfl rfl rfl rfl rfl ?_
                refine l_sipush rfl rfl ?_
                refine l_icmp_le rfl rfl (by unfold rg; omega) (by unfold rg; omega) (fun w80 => ?_) (fun w81 => ?_)
                · refine l_iconst rfl ?_
                  refine l_pfz rfl rfl rfl rfl (by omega) ?_
                  obtain ⟨U6, eU6⟩ : ∃ T : sS, T = uI U5 900 6 (Int32.ofInt 0) := ⟨_, rfl⟩
                  rw [← eU6]
                  have hHU6 : HI U6 := by rw [eU6]; exact HI_w hHU5 (show 0 ≤ 0 by omega) (show 0 ≤ 1 by omega)
                  have hFU6 : FR md_tu_runRules__w S U6 := by rw [eU6]; exact FR.wI hFU5 (mdf_i (r := (900, 901, 6, 7)) (List.mem_of_getElem? (i := 9) rfl) (inR_i (by omega) (by omega) (by omega) (by omega)))
                  have w82 : Xi U6 900 6 = 0 := by rw [eU6]; exact Xi_same (by unfold rg; omega)
                  have hXw2 : TX U6 := TX_w eU6 rfl (by assumption)
                  have I135 : U6 = phI T2 := phi_i eU5 eU6 (by omega)
                  refine l_aload_n rfl rfl ?_
                  refine l_gfr rfl rfl rfl rfl rfl (hHU6.r 900 2 246 rfl) ?_
                  refine l_iload rfl rfl ?_
                  refine l_iload rfl rfl ?_
                  refine l_iadd rfl ?_
                  refine l_callV rfl rfl rfl (t_bo_clauseAt hHU6 (v8 + v9) ⟨by omega, by omega⟩ _) ?_
                  rintro _ _ ⟨rfl, z83, rfl, w83, q147⟩
                  show Rl _ _ _ _ _ [.ref (276 + z83)] _ _
                  refine l_astore rfl rfl rfl ?_
                  refine l_aload rfl rfl ?_
                  refine l_gfi rfl rfl rfl (layCl (by omega)) rfl ?_
                  have w84 : 0 ≤ (Xi U6 (276 + z83) 0) ∧ (Xi U6 (276 + z83) 0) ≤ 11 := clc0 hHU6 (by omega)
                  refine l_bipush rfl rfl ?_
                  refine l_icmp_ne rfl rfl (by unfold rg; omega) (by unfold rg; omega) (fun w85 => ?_) (fun w86 => ?_)
                  · refine l_iconst rfl ?_
                    refine l_istore rfl rfl rfl ?_
                    refine l_aload_n rfl rfl ?_
                    refine l_gfi rfl rfl rfl rfl rfl ?_
                    refine l_if_ne rfl rfl (by unfold rg; omega) (fun w87 => ?_) (fun w88 => ?_)
                    · refine l_aload_n rfl rfl ?_
                      refine l_gfi rfl rfl rfl rfl rfl ?_
                      refine l_if_ne rfl rfl (by unfold rg; omega) (fun w89 => ?_) (fun w90 => ?_)
                      · have w91 : Xi U6 900 5 = Xi U5 900 5 := (show Xi U6 900 5 = Xi U5 900 5 from by rw [eU6]; exact Xi_ne (by omega))
                        have w92 : 0 ≤ Xi U5 900 5 ∧ Xi U5 900 5 ≤ 301 := hHU5.c _ _
                        have w93 : 0 ≤ Xi U6 900 6 ∧ Xi U6 900 6 ≤ 1 := hHU6.c _ _
                        exact Rl_weak (C212 U6 hHU6 hFU6 (v5) (rr) (0) (v8) (v9) (by omega) (by omega) (by omega) (by omega) (by omega) (by first | assumption | exact (TX_FR (FR_e eU6) rfl (TX_FR (FR_e eU5) rfl (by first | assumption | exact (by assumption : WI T2).2.1 : TX T2)))) (by omega) (by omega) (by omega) (by omega) (by omega) (t87.trans (congrArg (rrD (trC (8 - dr).toNat) sort action noun (Xi S 246 2 - (v5 + 1)).toNat (v5 + 1).toNat) (ph_s (by omega) (by omega) (by omega) (by omega) (q147 (by omega) (by omega)) (by first | (have t := K190; exact ps_2 I135 (by omega) (by omega) e190) | (have t := K209; exact ps_3 I135 (by omega) (by omega) f209) | exact ps_1 I135 (by omega)) (by rw [← I135]; omega)))) (by omega) (by omega)) (And.intro rfl (And.intro rfl (And.intro rfl (And.intro rfl (And.intro rfl (And.intro rfl (And.intro rfl (And.intro rfl (And.intro rfl (And.intro rfl (True.intro)))))))))))
                      · refine l_aload_n rfl rfl ?_
                        refine l_aload rfl rfl ?_
                        refine l_iload_n rfl rfl ?_
                        refine l_iload rfl rfl ?_
                        have w94 : Xi U6 900 5 = Xi U5 900 5 := (show Xi U6 900 5 = Xi U5 900 5 from by rw [eU6]; exact Xi_ne (by omega))
                        have w95 : 0 ≤ Xi U5 900 5 ∧ Xi U5 900 5 ≤ 301 := hHU5.c _ _
                        have w96 : 0 ≤ Xi U6 900 6 ∧ Xi U6 900 6 ≤ 1 := hHU6.c _ _
                        refine l_callV rfl rfl rfl (hrec hHU6 z83 noun dr (by omega) ⟨by omega, by omega⟩ ⟨by omega, by omega⟩ (CLok_sG hH (FR_sC hH hFU6 rfl rfl) (by omega) (by omega) (RUL_ph (i := rr) (k := Xi S (248 + rr) 4 + Xi S (248 + rr) 5 + v9) hR (by omega) (rN_n hn (by omega)) (by omega) (by omega) (by omega))) (by first | assumption | exact TX_FR hFU6 rfl hX) (by first | assumption | exact DEF_FR hH hFU6 rfl rfl hD) (by first | assumption | exact RUL_FR hH hFU6 rfl rfl hR) (by first | assumption | exact ORD_FR hFU6 rfl hO) (by first | assumption | exact AK_FR hFU6 rfl hA) (by first | assumption | omega) (CW_FR hFU6 rfl rfl cw) (by omega)) ?_
                        rintro _ T7 ⟨hHT7, w100, rfl, w97, w98, f209⟩
                        have hFT7 : FR md_tu_runRules__w S T7 := FR.tr hFU6 w100 rfl
                        show Rl _ _ _ _ _ [] _ _
                        have K209 : True := trivial
                        have w101 : 0 ≤ Xi T7 900 5 ∧ Xi T7 900 5 ≤ 301 := hHT7.c _ _
                        have w102 : 0 ≤ Xi T7 900 6 ∧ Xi T7 900 6 ≤ 1 := hHT7.c _ _
                        exact Rl_weak (C212 T7 hHT7 hFT7 (v5) (rr) (0) (v8) (v9) (by omega) (by omega) (by omega) (by omega) (by omega) (by first | assumption | exact (by first | assumption | exact (by assumption : WI T7).2.1 : TX T7)) (by omega) (by omega) (by omega) (by omega) (by omega) (t87.trans (congrArg (rrD (trC (8 - dr).toNat) sort action noun (Xi S 246 2 - (v5 + 1)).toNat (v5 + 1).toNat) (ph_s (by omega) (by omega) (by omega) (by omega) (q147 (by omega) (by omega)) (by first | (have t := K190; exact ps_2 I135 (by omega) (by omega) e190) | (have t := K209; exact ps_3 I135 (by omega) (by omega) f209) | exact ps_1 I135 (by omega)) (by rw [← I135]; omega)))) (by omega) (by omega)) (And.intro rfl (And.intro rfl (And.intro rfl (And.intro rfl (And.intro rfl (And.intro rfl (And.intro rfl (And.intro rfl (And.intro rfl (And.intro rfl (True.intro)))))))))))
                    · refine l_aload rfl rfl ?_
                      refine l_gfi rfl rfl rfl (layCl (by omega)) rfl ?_
                      refine l_bipush rfl rfl ?_
                      refine l_icmp_ne rfl rfl (by unfold rg; omega) (by unfold rg; omega) (fun w103 => ?_) (fun w104 => ?_)
                      · refine l_aload_n rfl rfl ?_
                        refine l_gfi rfl rfl rfl rfl rfl ?_
                        refine l_if_ne rfl rfl (by unfold rg; omega) (fun w105 => ?_) (fun w106 => ?_)
                        · have w107 : Xi U6 900 5 = Xi U5 900 5 := (show Xi U6 900 5 = Xi U5 900 5 from by rw [eU6]; exact Xi_ne (by omega))
                          have w108 : 0 ≤ Xi U5 900 5 ∧ Xi U5 900 5 ≤ 301 := hHU5.c _ _
                          have w109 : 0 ≤ Xi U6 900 6 ∧ Xi U6 900 6 ≤ 1 := hHU6.c _ _
                          exact Rl_weak (C212 U6 hHU6 hFU6 (v5) (rr) (0) (v8) (v9) (by omega) (by omega) (by omega) (by omega) (by omega) (by first | assumption | exact (TX_FR (FR_e eU6) rfl (TX_FR (FR_e eU5) rfl (by first | assumption | exact (by assumption : WI T2).2.1 : TX T2)))) (by omega) (by omega) (by omega) (by omega) (by omega) (t87.trans (congrArg (rrD (trC (8 - dr).toNat) sort action noun (Xi S 246 2 - (v5 + 1)).toNat (v5 + 1).toNat) (ph_s (by omega) (by omega) (by omega) (by omega) (q147 (by omega) (by omega)) (by first | (have t := K190; exact ps_2 I135 (by omega) (by omega) e190) | (have t := K209; exact ps_3 I135 (by omega) (by omega) f209) | exact ps_1 I135 (by omega)) (by rw [← I135]; omega)))) (by omega) (by omega)) (And.intro rfl (And.intro rfl (And.intro rfl (And.intro rfl (And.intro rfl (And.intro rfl (And.intro rfl (And.intro rfl (And.intro rfl (And.intro rfl (True.intro)))))))))))
                        · refine l_aload_n rfl rfl ?_
                          refine l_aload rfl rfl ?_
                          refine l_iload_n rfl rfl ?_
                          refine l_iload rfl rfl ?_
                          have w110 : Xi U6 900 5 = Xi U5 900 5 := (show Xi U6 900 5 = Xi U5 900 5 from by rw [eU6]; exact Xi_ne (by omega))
                          have w111 : 0 ≤ Xi U5 900 5 ∧ Xi U5 900 5 ≤ 301 := hHU5.c _ _
                          have w112 : 0 ≤ Xi U6 900 6 ∧ Xi U6 900 6 ≤ 1 := hHU6.c _ _
                          refine l_callV rfl rfl rfl (hrec hHU6 z83 noun dr (by omega) ⟨by omega, by omega⟩ ⟨by omega, by omega⟩ (CLok_sG hH (FR_sC hH hFU6 rfl rfl) (by omega) (by omega) (RUL_ph (i := rr) (k := Xi S (248 + rr) 4 + Xi S (248 + rr) 5 + v9) hR (by omega) (rN_n hn (by omega)) (by omega) (by omega) (by omega))) (by first | assumption | exact TX_FR hFU6 rfl hX) (by first | assumption | exact DEF_FR hH hFU6 rfl rfl hD) (by first | assumption | exact RUL_FR hH hFU6 rfl rfl hR) (by first | assumption | exact ORD_FR hFU6 rfl hO) (by first | assumption | exact AK_FR hFU6 rfl hA) (by first | assumption | omega) (CW_FR hFU6 rfl rfl cw) (by omega)) ?_
                          rintro _ T8 ⟨hHT8, w116, rfl, w113, w114, f209⟩
                          have hFT8 : FR md_tu_runRules__w S T8 := FR.tr hFU6 w116 rfl
                          show Rl _ _ _ _ _ [] _ _
                          have K209 : True := trivial
                          have w117 : 0 ≤ Xi T8 900 5 ∧ Xi T8 900 5 ≤ 301 := hHT8.c _ _
                          have w118 : 0 ≤ Xi T8 900 6 ∧ Xi T8 900 6 ≤ 1 := hHT8.c _ _
                          exact Rl_weak (C212 T8 hHT8 hFT8 (v5) (rr) (0) (v8) (v9) (by omega) (by omega) (by omega) (by omega) (by omega) (by first | assumption | exact (by first | assumption | exact (by assumption : WI T8).2.1 : TX T8)) (by omega) (by omega) (by omega) (by omega) (by omega) (t87.trans (congrArg (rrD (trC (8 - dr).toNat) sort action noun (Xi S 246 2 - (v5 + 1)).toNat (v5 + 1).toNat) (ph_s (by omega) (by omega) (by omega) (by omega) (q147 (by omega) (by omega)) (by first | (have t := K190; exact ps_2 I135 (by omega) (by omega) e190) | (have t := K209; exact ps_3 I135 (by omega) (by omega) f209) | exact ps_1 I135 (by omega)) (by rw [← I135]; omega)))) (by omega) (by omega)) (And.intro rfl (And.intro rfl (And.intro rfl (And.intro rfl (And.intro rfl (And.intro rfl (And.intro rfl (And.intro rfl (And.intro rfl (And.intro rfl (True.intro)))))))))))
                      · refine l_aload_n rfl rfl ?_
                        refine l_aload rfl rfl ?_
                        refine l_iload_n rfl rfl ?_
                        refine l_callV rfl rfl rfl (t_tu_sayText__w hHU6 z83 noun (by omega) ⟨by omega, by omega⟩ (CLok_sG hH (FR_sC hH hFU6 rfl rfl) (by omega) (by omega) (RUL_ph (i := rr) (k := Xi S (248 + rr) 4 + Xi S (248 + rr) 5 + v9) hR (by omega) (rN_n hn (by omega)) (by omega) (by omega) (by omega))) (by first | assumption | omega) (by first | assumption | exact TX_FR hFU6 rfl hX) (CW_FR hFU6 rfl rfl cw) _) ?_
                        rintro _ T9 ⟨hHT9, w121, rfl, w119, e190⟩
                        have hFT9 : FR md_tu_runRules__w S T9 := FR.tr hFU6 w121 rfl
                        show Rl _ _ _ _ _ [] _ _
                        have K190 : True := trivial
                        refine l_goto rfl rfl ?_
                        have w122 : Xi T9 900 5 = Xi U5 900 5 := (show Xi T9 900 5 = Xi U6 900 5 from w121.x _ _ rfl).trans ((show Xi U6 900 5 = Xi U5 900 5 from by rw [eU6]; exact Xi_ne (by omega)))
                        have w123 : 0 ≤ Xi U5 900 5 ∧ Xi U5 900 5 ≤ 301 := hHU5.c _ _
                        have w124 : Xi T9 900 6 = Xi U6 900 6 := (show Xi T9 900 6 = Xi U6 900 6 from w121.x _ _ rfl)
                        have w125 : 0 ≤ Xi U6 900 6 ∧ Xi U6 900 6 ≤ 1 := hHU6.c _ _
                        exact Rl_weak (C212 T9 hHT9 hFT9 (v5) (rr) (0) (v8) (v9) (by omega) (by omega) (by omega) (by omega) (by omega) (by first | assumption | exact (TX_FR w121 rfl (TX_FR (FR_e eU6) rfl (TX_FR (FR_e eU5) rfl (by first | assumption | exact (by assumption : WI T2).2.1 : TX T2))))) (by omega) (by omega) (by omega) (by omega) (by omega) (t87.trans (congrArg (rrD (trC (8 - dr).toNat) sort action noun (Xi S 246 2 - (v5 + 1)).toNat (v5 + 1).toNat) (ph_s (by omega) (by omega) (by omega) (by omega) (q147 (by omega) (by omega)) (by first | (have t := K190; exact ps_2 I135 (by omega) (by omega) e190) | (have t := K209; exact ps_3 I135 (by omega) (by omega) f209) | exact ps_1 I135 (by omega)) (by rw [← I135]; omega)))) (by omega) (by omega)) (And.intro rfl (And.intro rfl (And.intro rfl (And.intro rfl (And.intro rfl (And.intro rfl (And.intro rfl (And.intro rfl (And.intro rfl (And.intro rfl (True.intro)))))))))))
                  · refine l_iconst rfl ?_
                    refine l_goto rfl rfl ?_
                    refine l_istore rfl rfl rfl ?_
                    refine l_aload_n rfl rfl ?_
                    refine l_gfi rfl rfl rfl rfl rfl ?_
                    refine l_if_ne rfl rfl (by unfold rg; omega) (fun w126 => ?_) (fun w127 => ?_)
                    · refine l_aload_n rfl rfl ?_
                      refine l_gfi rfl rfl rfl rfl rfl ?_
                      refine l_if_ne rfl rfl (by unfold rg; omega) (fun w128 => ?_) (fun w129 => ?_)
                      · have w130 : Xi U6 900 5 = Xi U5 900 5 := (show Xi U6 900 5 = Xi U5 900 5 from by rw [eU6]; exact Xi_ne (by omega))
                        have w131 : 0 ≤ Xi U5 900 5 ∧ Xi U5 900 5 ≤ 301 := hHU5.c _ _
                        have w132 : 0 ≤ Xi U6 900 6 ∧ Xi U6 900 6 ≤ 1 := hHU6.c _ _
                        exact Rl_weak (C212 U6 hHU6 hFU6 (v5) (rr) (1) (v8) (v9) (by omega) (by omega) (by omega) (by omega) (by omega) (by first | assumption | exact (TX_FR (FR_e eU6) rfl (TX_FR (FR_e eU5) rfl (by first | assumption | exact (by assumption : WI T2).2.1 : TX T2)))) (by omega) (by omega) (by omega) (by omega) (by omega) (t87.trans (congrArg (rrD (trC (8 - dr).toNat) sort action noun (Xi S 246 2 - (v5 + 1)).toNat (v5 + 1).toNat) (ph_s (by omega) (by omega) (by omega) (by omega) (q147 (by omega) (by omega)) (by first | (have t := K190; exact ps_2 I135 (by omega) (by omega) e190) | (have t := K209; exact ps_3 I135 (by omega) (by omega) f209) | exact ps_1 I135 (by omega)) (by rw [← I135]; omega)))) (by omega) (by omega)) (And.intro rfl (And.intro rfl (And.intro rfl (And.intro rfl (And.intro rfl (And.intro rfl (And.intro rfl (And.intro rfl (And.intro rfl (And.intro rfl (True.intro)))))))))))
                      · refine l_aload_n rfl rfl ?_
                        refine l_aload rfl rfl ?_
                        refine l_iload_n rfl rfl ?_
                        refine l_iload rfl rfl ?_
                        have w133 : Xi U6 900 5 = Xi U5 900 5 := (show Xi U6 900 5 = Xi U5 900 5 from by rw [eU6]; exact Xi_ne (by omega))
                        have w134 : 0 ≤ Xi U5 900 5 ∧ Xi U5 900 5 ≤ 301 := hHU5.c _ _
                        have w135 : 0 ≤ Xi U6 900 6 ∧ Xi U6 900 6 ≤ 1 := hHU6.c _ _
                        refine l_callV rfl rfl rfl (hrec hHU6 z83 noun dr (by omega) ⟨by omega, by omega⟩ ⟨by omega, by omega⟩ (CLok_sG hH (FR_sC hH hFU6 rfl rfl) (by omega) (by omega) (RUL_ph (i := rr) (k := Xi S (248 + rr) 4 + Xi S (248 + rr) 5 + v9) hR (by omega) (rN_n hn (by omega)) (by omega) (by omega) (by omega))) (by first | assumption | exact TX_FR hFU6 rfl hX) (by first | assumption | exact DEF_FR hH hFU6 rfl rfl hD) (by first | assumption | exact RUL_FR hH hFU6 rfl rfl hR) (by first | assumption | exact ORD_FR hFU6 rfl hO) (by first | assumption | exact AK_FR hFU6 rfl hA) (by first | assumption | omega) (CW_FR hFU6 rfl rfl cw) (by omega)) ?_
                        rintro _ T10 ⟨hHT10, w139, rfl, w136, w137, f209⟩
                        have hFT10 : FR md_tu_runRules__w S T10 := FR.tr hFU6 w139 rfl
                        show Rl _ _ _ _ _ [] _ _
                        have K209 : True := trivial
                        have w140 : 0 ≤ Xi T10 900 5 ∧ Xi T10 900 5 ≤ 301 := hHT10.c _ _
                        have w141 : 0 ≤ Xi T10 900 6 ∧ Xi T10 900 6 ≤ 1 := hHT10.c _ _
                        exact Rl_weak (C212 T10 hHT10 hFT10 (v5) (rr) (1) (v8) (v9) (by omega) (by omega) (by omega) (by omega) (by omega) (by first | assumption | exact (by first | assumption | exact (by assumption : WI T10).2.1 : TX T10)) (by omega) (by omega) (by omega) (by omega) (by omega) (t87.trans (congrArg (rrD (trC (8 - dr).toNat) sort action noun (Xi S 246 2 - (v5 + 1)).toNat (v5 + 1).toNat) (ph_s (by omega) (by omega) (by omega) (by omega) (q147 (by omega) (by omega)) (by first | (have t := K190; exact ps_2 I135 (by omega) (by omega) e190) | (have t := K209; exact ps_3 I135 (by omega) (by omega) f209) | exact ps_1 I135 (by omega)) (by rw [← I135]; omega)))) (by omega) (by omega)) (And.intro rfl (And.intro rfl (And.intro rfl (And.intro rfl (And.intro rfl (And.intro rfl (And.intro rfl (And.intro rfl (And.intro rfl (And.intro rfl (True.intro)))))))))))
                    · refine l_aload rfl rfl ?_
                      refine l_gfi rfl rfl rfl (layCl (by omega)) rfl ?_
                      refine l_bipush rfl rfl ?_
                      refine l_icmp_ne rfl rfl (by unfold rg; omega) (by unfold rg; omega) (fun w142 => ?_) (fun w143 => ?_)
                      · refine l_aload_n rfl rfl ?_
                        refine l_gfi rfl rfl rfl rfl rfl ?_
                        refine l_if_ne rfl rfl (by unfold rg; omega) (fun w144 => ?_) (fun w145 => ?_)
                        · have w146 : Xi U6 900 5 = Xi U5 900 5 := (show Xi U6 900 5 = Xi U5 900 5 from by rw [eU6]; exact Xi_ne (by omega))
                          have w147 : 0 ≤ Xi U5 900 5 ∧ Xi U5 900 5 ≤ 301 := hHU5.c _ _
                          have w148 : 0 ≤ Xi U6 900 6 ∧ Xi U6 900 6 ≤ 1 := hHU6.c _ _
                          exact Rl_weak (C212 U6 hHU6 hFU6 (v5) (rr) (1) (v8) (v9) (by omega) (by omega) (by omega) (by omega) (by omega) (by first | assumption | exact (TX_FR (FR_e eU6) rfl (TX_FR (FR_e eU5) rfl (by first | assumption | exact (by assumption : WI T2).2.1 : TX T2)))) (by omega) (by omega) (by omega) (by omega) (by omega) (t87.trans (congrArg (rrD (trC (8 - dr).toNat) sort action noun (Xi S 246 2 - (v5 + 1)).toNat (v5 + 1).toNat) (ph_s (by omega) (by omega) (by omega) (by omega) (q147 (by omega) (by omega)) (by first | (have t := K190; exact ps_2 I135 (by omega) (by omega) e190) | (have t := K209; exact ps_3 I135 (by omega) (by omega) f209) | exact ps_1 I135 (by omega)) (by rw [← I135]; omega)))) (by omega) (by omega)) (And.intro rfl (And.intro rfl (And.intro rfl (And.intro rfl (And.intro rfl (And.intro rfl (And.intro rfl (And.intro rfl (And.intro rfl (And.intro rfl (True.intro)))))))))))
                        · refine l_aload_n rfl rfl ?_
                          refine l_aload rfl rfl ?_
                          refine l_iload_n rfl rfl ?_
                          refine l_iload rfl rfl ?_
                          have w149 : Xi U6 900 5 = Xi U5 900 5 := (show Xi U6 900 5 = Xi U5 900 5 from by rw [eU6]; exact Xi_ne (by omega))
                          have w150 : 0 ≤ Xi U5 900 5 ∧ Xi U5 900 5 ≤ 301 := hHU5.c _ _
                          have w151 : 0 ≤ Xi U6 900 6 ∧ Xi U6 900 6 ≤ 1 := hHU6.c _ _
                          refine l_callV rfl rfl rfl (hrec hHU6 z83 noun dr (by omega) ⟨by omega, by omega⟩ ⟨by omega, by omega⟩ (CLok_sG hH (FR_sC hH hFU6 rfl rfl) (by omega) (by omega) (RUL_ph (i := rr) (k := Xi S (248 + rr) 4 + Xi S (248 + rr) 5 + v9) hR (by omega) (rN_n hn (by omega)) (by omega) (by omega) (by omega))) (by first | assumption | exact TX_FR hFU6 rfl hX) (by first | assumption | exact DEF_FR hH hFU6 rfl rfl hD) (by first | assumption | exact RUL_FR hH hFU6 rfl rfl hR) (by first | assumption | exact ORD_FR hFU6 rfl hO) (by first | assumption | exact AK_FR hFU6 rfl hA) (by first | assumption | omega) (CW_FR hFU6 rfl rfl cw) (by omega)) ?_
                          rintro _ T11 ⟨hHT11, w155, rfl, w152, w153, f209⟩
                          have hFT11 : FR md_tu_runRules__w S T11 := FR.tr hFU6 w155 rfl
                          show Rl _ _ _ _ _ [] _ _
                          have K209 : True := trivial
                          have w156 : 0 ≤ Xi T11 900 5 ∧ Xi T11 900 5 ≤ 301 := hHT11.c _ _
                          have w157 : 0 ≤ Xi T11 900 6 ∧ Xi T11 900 6 ≤ 1 := hHT11.c _ _
                          exact Rl_weak (C212 T11 hHT11 hFT11 (v5) (rr) (1) (v8) (v9) (by omega) (by omega) (by omega) (by omega) (by omega) (by first | assumption | exact (by first | assumption | exact (by assumption : WI T11).2.1 : TX T11)) (by omega) (by omega) (by omega) (by omega) (by omega) (t87.trans (congrArg (rrD (trC (8 - dr).toNat) sort action noun (Xi S 246 2 - (v5 + 1)).toNat (v5 + 1).toNat) (ph_s (by omega) (by omega) (by omega) (by omega) (q147 (by omega) (by omega)) (by first | (have t := K190; exact ps_2 I135 (by omega) (by omega) e190) | (have t := K209; exact ps_3 I135 (by omega) (by omega) f209) | exact ps_1 I135 (by omega)) (by rw [← I135]; omega)))) (by omega) (by omega)) (And.intro rfl (And.intro rfl (And.intro rfl (And.intro rfl (And.intro rfl (And.intro rfl (And.intro rfl (And.intro rfl (And.intro rfl (And.intro rfl (True.intro)))))))))))
                      · refine l_aload_n rfl rfl ?_
                        refine l_aload rfl rfl ?_
                        refine l_iload_n rfl rfl ?_
                        refine l_callV rfl rfl rfl (t_tu_sayText__w hHU6 z83 noun (by omega) ⟨by omega, by omega⟩ (CLok_sG hH (FR_sC hH hFU6 rfl rfl) (by omega) (by omega) (RUL_ph (i := rr) (k := Xi S (248 + rr) 4 + Xi S (248 + rr) 5 + v9) hR (by omega) (rN_n hn (by omega)) (by omega) (by omega) (by omega))) (by first | assumption | omega) (by first | assumption | exact TX_FR hFU6 rfl hX) (CW_FR hFU6 rfl rfl cw) _) ?_
                        rintro _ T12 ⟨hHT12, w160, rfl, w158, e190⟩
                        have hFT12 : FR md_tu_runRules__w S T12 := FR.tr hFU6 w160 rfl
                        show Rl _ _ _ _ _ [] _ _
                        have K190 : True := trivial
                        refine l_goto rfl rfl ?_
                        have w161 : Xi T12 900 5 = Xi U5 900 5 := (show Xi T12 900 5 = Xi U6 900 5 from w160.x _ _ rfl).trans ((show Xi U6 900 5 = Xi U5 900 5 from by rw [eU6]; exact Xi_ne (by omega)))
                        have w162 : 0 ≤ Xi U5 900 5 ∧ Xi U5 900 5 ≤ 301 := hHU5.c _ _
                        have w163 : Xi T12 900 6 = Xi U6 900 6 := (show Xi T12 900 6 = Xi U6 900 6 from w160.x _ _ rfl)
                        have w164 : 0 ≤ Xi U6 900 6 ∧ Xi U6 900 6 ≤ 1 := hHU6.c _ _
                        exact Rl_weak (C212 T12 hHT12 hFT12 (v5) (rr) (1) (v8) (v9) (by omega) (by omega) (by omega) (by omega) (by omega) (by first | assumption | exact (TX_FR w160 rfl (TX_FR (FR_e eU6) rfl (TX_FR (FR_e eU5) rfl (by first | assumption | exact (by assumption : WI T2).2.1 : TX T2))))) (by omega) (by omega) (by omega) (by omega) (by omega) (t87.trans (congrArg (rrD (trC (8 - dr).toNat) sort action noun (Xi S 246 2 - (v5 + 1)).toNat (v5 + 1).toNat) (ph_s (by omega) (by omega) (by omega) (by omega) (q147 (by omega) (by omega)) (by first | (have t := K190; exact ps_2 I135 (by omega) (by omega) e190) | (have t := K209; exact ps_3 I135 (by omega) (by omega) f209) | exact ps_1 I135 (by omega)) (by rw [← I135]; omega)))) (by omega) (by omega)) (And.intro rfl (And.intro rfl (And.intro rfl (And.intro rfl (And.intro rfl (And.intro rfl (And.intro rfl (And.intro rfl (And.intro rfl (And.intro rfl (True.intro)))))))))))
                · refine l_iconst rfl ?_
                  refine l_goto rfl rfl ?_
                  refine l_pfz rfl rfl rfl rfl (by omega) ?_
                  obtain ⟨U13, eU13⟩ : ∃ T : sS, T = uI U5 900 6 (Int32.ofInt 1) := ⟨_, rfl⟩
                  rw [← eU13]
                  have hHU13 : HI U13 := by rw [eU13]; exact HI_w hHU5 (show 0 ≤ 1 by omega) (show 1 ≤ 1 by omega)
                  have hFU13 : FR md_tu_runRules__w S U13 := by rw [eU13]; exact FR.wI hFU5 (mdf_i (r := (900, 901, 6, 7)) (List.mem_of_getElem? (i := 9) rfl) (inR_i (by omega) (by omega) (by omega) (by omega)))
                  have w165 : Xi U13 900 6 = 1 := by rw [eU13]; exact Xi_same (by unfold rg; omega)
                  have hXw2 : TX U13 := TX_w eU13 rfl (by assumption)
                  have I135 : U13 = phI T2 := phi_i eU5 eU13 (by omega)
                  refine l_aload_n rfl rfl ?_
                  refine l_gfr rfl rfl rfl rfl rfl (hHU13.r 900 2 246 rfl) ?_
                  refine l_iload rfl rfl ?_
                  refine l_iload rfl rfl ?_
                  refine l_iadd rfl ?_
                  refine l_callV rfl rfl rfl (t_bo_clauseAt hHU13 (v8 + v9) ⟨by omega, by omega⟩ _) ?_
                  rintro _ _ ⟨rfl, z166, rfl, w166, q147⟩
                  show Rl _ _ _ _ _ [.ref (276 + z166)] _ _
                  refine l_astore rfl rfl rfl ?_
                  refine l_aload rfl rfl ?_
                  refine l_gfi rfl rfl rfl (layCl (by omega)) rfl ?_
                  have w167 : 0 ≤ (Xi U13 (276 + z166) 0) ∧ (Xi U13 (276 + z166) 0) ≤ 11 := clc0 hHU13 (by omega)
                  refine l_bipush rfl rfl ?_
                  refine l_icmp_ne rfl rfl (by unfold rg; omega) (by unfold rg; omega) (fun w168 => ?_) (fun w169 => ?_)
                  · refine l_iconst rfl ?_
                    refine l_istore rfl rfl rfl ?_
                    refine l_aload_n rfl rfl ?_
                    refine l_gfi rfl rfl rfl rfl rfl ?_
                    refine l_if_ne rfl rfl (by unfold rg; omega) (fun w170 => ?_) (fun w171 => ?_)
                    · refine l_aload_n rfl rfl ?_
                      refine l_gfi rfl rfl rfl rfl rfl ?_
                      refine l_if_ne rfl rfl (by unfold rg; omega) (fun w172 => ?_) (fun w173 => ?_)
                      · have w174 : Xi U13 900 5 = Xi U5 900 5 := (show Xi U13 900 5 = Xi U5 900 5 from by rw [eU13]; exact Xi_ne (by omega))
                        have w175 : 0 ≤ Xi U5 900 5 ∧ Xi U5 900 5 ≤ 301 := hHU5.c _ _
                        have w176 : 0 ≤ Xi U13 900 6 ∧ Xi U13 900 6 ≤ 1 := hHU13.c _ _
                        exact Rl_weak (C212 U13 hHU13 hFU13 (v5) (rr) (0) (v8) (v9) (by omega) (by omega) (by omega) (by omega) (by omega) (by first | assumption | exact (TX_FR (FR_e eU13) rfl (TX_FR (FR_e eU5) rfl (by first | assumption | exact (by assumption : WI T2).2.1 : TX T2)))) (by omega) (by omega) (by omega) (by omega) (by omega) (t87.trans (congrArg (rrD (trC (8 - dr).toNat) sort action noun (Xi S 246 2 - (v5 + 1)).toNat (v5 + 1).toNat) (ph_s (by omega) (by omega) (by omega) (by omega) (q147 (by omega) (by omega)) (by first | (have t := K190; exact ps_2 I135 (by omega) (by omega) e190) | (have t := K209; exact ps_3 I135 (by omega) (by omega) f209) | exact ps_1 I135 (by omega)) (by rw [← I135]; omega)))) (by omega) (by omega)) (And.intro rfl (And.intro rfl (And.intro rfl (And.intro rfl (And.intro rfl (And.intro rfl (And.intro rfl (And.intro rfl (And.intro rfl (And.intro rfl (True.intro)))))))))))
                      · refine l_aload_n rfl rfl ?_
                        refine l_aload rfl rfl ?_
                        refine l_iload_n rfl rfl ?_
                        refine l_iload rfl rfl ?_
                        have w177 : Xi U13 900 5 = Xi U5 900 5 := (show Xi U13 900 5 = Xi U5 900 5 from by rw [eU13]; exact Xi_ne (by omega))
                        have w178 : 0 ≤ Xi U5 900 5 ∧ Xi U5 900 5 ≤ 301 := hHU5.c _ _
                        have w179 : 0 ≤ Xi U13 900 6 ∧ Xi U13 900 6 ≤ 1 := hHU13.c _ _
                        refine l_callV rfl rfl rfl (hrec hHU13 z166 noun dr (by omega) ⟨by omega, by omega⟩ ⟨by omega, by omega⟩ (CLok_sG hH (FR_sC hH hFU13 rfl rfl) (by omega) (by omega) (RUL_ph (i := rr) (k := Xi S (248 + rr) 4 + Xi S (248 + rr) 5 + v9) hR (by omega) (rN_n hn (by omega)) (by omega) (by omega) (by omega))) (by first | assumption | exact TX_FR hFU13 rfl hX) (by first | assumption | exact DEF_FR hH hFU13 rfl rfl hD) (by first | assumption | exact RUL_FR hH hFU13 rfl rfl hR) (by first | assumption | exact ORD_FR hFU13 rfl hO) (by first | assumption | exact AK_FR hFU13 rfl hA) (by first | assumption | omega) (CW_FR hFU13 rfl rfl cw) (by omega)) ?_
                        rintro _ T14 ⟨hHT14, w183, rfl, w180, w181, f209⟩
                        have hFT14 : FR md_tu_runRules__w S T14 := FR.tr hFU13 w183 rfl
                        show Rl _ _ _ _ _ [] _ _
                        have K209 : True := trivial
                        have w184 : 0 ≤ Xi T14 900 5 ∧ Xi T14 900 5 ≤ 301 := hHT14.c _ _
                        have w185 : 0 ≤ Xi T14 900 6 ∧ Xi T14 900 6 ≤ 1 := hHT14.c _ _
                        exact Rl_weak (C212 T14 hHT14 hFT14 (v5) (rr) (0) (v8) (v9) (by omega) (by omega) (by omega) (by omega) (by omega) (by first | assumption | exact (by first | assumption | exact (by assumption : WI T14).2.1 : TX T14)) (by omega) (by omega) (by omega) (by omega) (by omega) (t87.trans (congrArg (rrD (trC (8 - dr).toNat) sort action noun (Xi S 246 2 - (v5 + 1)).toNat (v5 + 1).toNat) (ph_s (by omega) (by omega) (by omega) (by omega) (q147 (by omega) (by omega)) (by first | (have t := K190; exact ps_2 I135 (by omega) (by omega) e190) | (have t := K209; exact ps_3 I135 (by omega) (by omega) f209) | exact ps_1 I135 (by omega)) (by rw [← I135]; omega)))) (by omega) (by omega)) (And.intro rfl (And.intro rfl (And.intro rfl (And.intro rfl (And.intro rfl (And.intro rfl (And.intro rfl (And.intro rfl (And.intro rfl (And.intro rfl (True.intro)))))))))))
                    · refine l_aload rfl rfl ?_
                      refine l_gfi rfl rfl rfl (layCl (by omega)) rfl ?_
                      refine l_bipush rfl rfl ?_
                      refine l_icmp_ne rfl rfl (by unfold rg; omega) (by unfold rg; omega) (fun w186 => ?_) (fun w187 => ?_)
                      · refine l_aload_n rfl rfl ?_
                        refine l_gfi rfl rfl rfl rfl rfl ?_
                        refine l_if_ne rfl rfl (by unfold rg; omega) (fun w188 => ?_) (fun w189 => ?_)
                        · have w190 : Xi U13 900 5 = Xi U5 900 5 := (show Xi U13 900 5 = Xi U5 900 5 from by rw [eU13]; exact Xi_ne (by omega))
                          have w191 : 0 ≤ Xi U5 900 5 ∧ Xi U5 900 5 ≤ 301 := hHU5.c _ _
                          have w192 : 0 ≤ Xi U13 900 6 ∧ Xi U13 900 6 ≤ 1 := hHU13.c _ _
                          exact Rl_weak (C212 U13 hHU13 hFU13 (v5) (rr) (0) (v8) (v9) (by omega) (by omega) (by omega) (by omega) (by omega) (by first | assumption | exact (TX_FR (FR_e eU13) rfl (TX_FR (FR_e eU5) rfl (by first | assumption | exact (by assumption : WI T2).2.1 : TX T2)))) (by omega) (by omega) (by omega) (by omega) (by omega) (t87.trans (congrArg (rrD (trC (8 - dr).toNat) sort action noun (Xi S 246 2 - (v5 + 1)).toNat (v5 + 1).toNat) (ph_s (by omega) (by omega) (by omega) (by omega) (q147 (by omega) (by omega)) (by first | (have t := K190; exact ps_2 I135 (by omega) (by omega) e190) | (have t := K209; exact ps_3 I135 (by omega) (by omega) f209) | exact ps_1 I135 (by omega)) (by rw [← I135]; omega)))) (by omega) (by omega)) (And.intro rfl (And.intro rfl (And.intro rfl (And.intro rfl (And.intro rfl (And.intro rfl (And.intro rfl (And.intro rfl (And.intro rfl (And.intro rfl (True.intro)))))))))))
                        · refine l_aload_n rfl rfl ?_
                          refine l_aload rfl rfl ?_
                          refine l_iload_n rfl rfl ?_
                          refine l_iload rfl rfl ?_
                          have w193 : Xi U13 900 5 = Xi U5 900 5 := (show Xi U13 900 5 = Xi U5 900 5 from by rw [eU13]; exact Xi_ne (by omega))
                          have w194 : 0 ≤ Xi U5 900 5 ∧ Xi U5 900 5 ≤ 301 := hHU5.c _ _
                          have w195 : 0 ≤ Xi U13 900 6 ∧ Xi U13 900 6 ≤ 1 := hHU13.c _ _
                          refine l_callV rfl rfl rfl (hrec hHU13 z166 noun dr (by omega) ⟨by omega, by omega⟩ ⟨by omega, by omega⟩ (CLok_sG hH (FR_sC hH hFU13 rfl rfl) (by omega) (by omega) (RUL_ph (i := rr) (k := Xi S (248 + rr) 4 + Xi S (248 + rr) 5 + v9) hR (by omega) (rN_n hn (by omega)) (by omega) (by omega) (by omega))) (by first | assumption | exact TX_FR hFU13 rfl hX) (by first | assumption | exact DEF_FR hH hFU13 rfl rfl hD) (by first | assumption | exact RUL_FR hH hFU13 rfl rfl hR) (by first | assumption | exact ORD_FR hFU13 rfl hO) (by first | assumption | exact AK_FR hFU13 rfl hA) (by first | assumption | omega) (CW_FR hFU13 rfl rfl cw) (by omega)) ?_
                          rintro _ T15 ⟨hHT15, w199, rfl, w196, w197, f209⟩
                          have hFT15 : FR md_tu_runRules__w S T15 := FR.tr hFU13 w199 rfl
                          show Rl _ _ _ _ _ [] _ _
                          have K209 : True := trivial
                          have w200 : 0 ≤ Xi T15 900 5 ∧ Xi T15 900 5 ≤ 301 := hHT15.c _ _
                          have w201 : 0 ≤ Xi T15 900 6 ∧ Xi T15 900 6 ≤ 1 := hHT15.c _ _
                          exact Rl_weak (C212 T15 hHT15 hFT15 (v5) (rr) (0) (v8) (v9) (by omega) (by omega) (by omega) (by omega) (by omega) (by first | assumption | exact (by first | assumption | exact (by assumption : WI T15).2.1 : TX T15)) (by omega) (by omega) (by omega) (by omega) (by omega) (t87.trans (congrArg (rrD (trC (8 - dr).toNat) sort action noun (Xi S 246 2 - (v5 + 1)).toNat (v5 + 1).toNat) (ph_s (by omega) (by omega) (by omega) (by omega) (q147 (by omega) (by omega)) (by first | (have t := K190; exact ps_2 I135 (by omega) (by omega) e190) | (have t := K209; exact ps_3 I135 (by omega) (by omega) f209) | exact ps_1 I135 (by omega)) (by rw [← I135]; omega)))) (by omega) (by omega)) (And.intro rfl (And.intro rfl (And.intro rfl (And.intro rfl (And.intro rfl (And.intro rfl (And.intro rfl (And.intro rfl (And.intro rfl (And.intro rfl (True.intro)))))))))))
                      · refine l_aload_n rfl rfl ?_
                        refine l_aload rfl rfl ?_
                        refine l_iload_n rfl rfl ?_
                        refine l_callV rfl rfl rfl (t_tu_sayText__w hHU13 z166 noun (by omega) ⟨by omega, by omega⟩ (CLok_sG hH (FR_sC hH hFU13 rfl rfl) (by omega) (by omega) (RUL_ph (i := rr) (k := Xi S (248 + rr) 4 + Xi S (248 + rr) 5 + v9) hR (by omega) (rN_n hn (by omega)) (by omega) (by omega) (by omega))) (by first | assumption | omega) (by first | assumption | exact TX_FR hFU13 rfl hX) (CW_FR hFU13 rfl rfl cw) _) ?_
                        rintro _ T16 ⟨hHT16, w204, rfl, w202, e190⟩
                        have hFT16 : FR md_tu_runRules__w S T16 := FR.tr hFU13 w204 rfl
                        show Rl _ _ _ _ _ [] _ _
                        have K190 : True := trivial
                        refine l_goto rfl rfl ?_
                        have w205 : Xi T16 900 5 = Xi U5 900 5 := (show Xi T16 900 5 = Xi U13 900 5 from w204.x _ _ rfl).trans ((show Xi U13 900 5 = Xi U5 900 5 from by rw [eU13]; exact Xi_ne (by omega)))
                        have w206 : 0 ≤ Xi U5 900 5 ∧ Xi U5 900 5 ≤ 301 := hHU5.c _ _
                        have w207 : Xi T16 900 6 = Xi U13 900 6 := (show Xi T16 900 6 = Xi U13 900 6 from w204.x _ _ rfl)
                        have w208 : 0 ≤ Xi U13 900 6 ∧ Xi U13 900 6 ≤ 1 := hHU13.c _ _
                        exact Rl_weak (C212 T16 hHT16 hFT16 (v5) (rr) (0) (v8) (v9) (by omega) (by omega) (by omega) (by omega) (by omega) (by first | assumption | exact (TX_FR w204 rfl (TX_FR (FR_e eU13) rfl (TX_FR (FR_e eU5) rfl (by first | assumption | exact (by assumption : WI T2).2.1 : TX T2))))) (by omega) (by omega) (by omega) (by omega) (by omega) (t87.trans (congrArg (rrD (trC (8 - dr).toNat) sort action noun (Xi S 246 2 - (v5 + 1)).toNat (v5 + 1).toNat) (ph_s (by omega) (by omega) (by omega) (by omega) (q147 (by omega) (by omega)) (by first | (have t := K190; exact ps_2 I135 (by omega) (by omega) e190) | (have t := K209; exact ps_3 I135 (by omega) (by omega) f209) | exact ps_1 I135 (by omega)) (by rw [← I135]; omega)))) (by omega) (by omega)) (And.intro rfl (And.intro rfl (And.intro rfl (And.intro rfl (And.intro rfl (And.intro rfl (And.intro rfl (And.intro rfl (And.intro rfl (And.intro rfl (True.intro)))))))))))
                  · refine l_iconst rfl ?_
                    refine l_goto rfl rfl ?_
                    refine l_istore rfl rfl rfl ?_
                    refine l_aload_n rfl rfl ?_
                    refine l_gfi rfl rfl rfl rfl rfl ?_
                    refine l_if_ne rfl rfl (by unfold rg; omega) (fun w209 => ?_) (fun w210 => ?_)
                    · refine l_aload_n rfl rfl ?_
                      refine l_gfi rfl rfl rfl rfl rfl ?_
                      refine l_if_ne rfl rfl (by unfold rg; omega) (fun w211 => ?_) (fun w212 => ?_)
                      · have w213 : Xi U13 900 5 = Xi U5 900 5 := (show Xi U13 900 5 = Xi U5 900 5 from by rw [eU13]; exact Xi_ne (by omega))
                        have w214 : 0 ≤ Xi U5 900 5 ∧ Xi U5 900 5 ≤ 301 := hHU5.c _ _
                        have w215 : 0 ≤ Xi U13 900 6 ∧ Xi U13 900 6 ≤ 1 := hHU13.c _ _
                        exact Rl_weak (C212 U13 hHU13 hFU13 (v5) (rr) (1) (v8) (v9) (by omega) (by omega) (by omega) (by omega) (by omega) (by first | assumption | exact (TX_FR (FR_e eU13) rfl (TX_FR (FR_e eU5) rfl (by first | assumption | exact (by assumption : WI T2).2.1 : TX T2)))) (by omega) (by omega) (by omega) (by omega) (by omega) (t87.trans (congrArg (rrD (trC (8 - dr).toNat) sort action noun (Xi S 246 2 - (v5 + 1)).toNat (v5 + 1).toNat) (ph_s (by omega) (by omega) (by omega) (by omega) (q147 (by omega) (by omega)) (by first | (have t := K190; exact ps_2 I135 (by omega) (by omega) e190) | (have t := K209; exact ps_3 I135 (by omega) (by omega) f209) | exact ps_1 I135 (by omega)) (by rw [← I135]; omega)))) (by omega) (by omega)) (And.intro rfl (And.intro rfl (And.intro rfl (And.intro rfl (And.intro rfl (And.intro rfl (And.intro rfl (And.intro rfl (And.intro rfl (And.intro rfl (True.intro)))))))))))
                      · refine l_aload_n rfl rfl ?_
                        refine l_aload rfl rfl ?_
                        refine l_iload_n rfl rfl ?_
                        refine l_iload rfl rfl ?_
                        have w216 : Xi U13 900 5 = Xi U5 900 5 := (show Xi U13 900 5 = Xi U5 900 5 from by rw [eU13]; exact Xi_ne (by omega))
                        have w217 : 0 ≤ Xi U5 900 5 ∧ Xi U5 900 5 ≤ 301 := hHU5.c _ _
                        have w218 : 0 ≤ Xi U13 900 6 ∧ Xi U13 900 6 ≤ 1 := hHU13.c _ _
                        refine l_callV rfl rfl rfl (hrec hHU13 z166 noun dr (by omega) ⟨by omega, by omega⟩ ⟨by omega, by omega⟩ (CLok_sG hH (FR_sC hH hFU13 rfl rfl) (by omega) (by omega) (RUL_ph (i := rr) (k := Xi S (248 + rr) 4 + Xi S (248 + rr) 5 + v9) hR (by omega) (rN_n hn (by omega)) (by omega) (by omega) (by omega))) (by first | assumption | exact TX_FR hFU13 rfl hX) (by first | assumption | exact DEF_FR hH hFU13 rfl rfl hD) (by first | assumption | exact RUL_FR hH hFU13 rfl rfl hR) (by first | assumption | exact ORD_FR hFU13 rfl hO) (by first | assumption | exact AK_FR hFU13 rfl hA) (by first | assumption | omega) (CW_FR hFU13 rfl rfl cw) (by omega)) ?_
                        rintro _ T17 ⟨hHT17, w222, rfl, w219, w220, f209⟩
                        have hFT17 : FR md_tu_runRules__w S T17 := FR.tr hFU13 w222 rfl
                        show Rl _ _ _ _ _ [] _ _
                        have K209 : True := trivial
                        have w223 : 0 ≤ Xi T17 900 5 ∧ Xi T17 900 5 ≤ 301 := hHT17.c _ _
                        have w224 : 0 ≤ Xi T17 900 6 ∧ Xi T17 900 6 ≤ 1 := hHT17.c _ _
                        exact Rl_weak (C212 T17 hHT17 hFT17 (v5) (rr) (1) (v8) (v9) (by omega) (by omega) (by omega) (by omega) (by omega) (by first | assumption | exact (by first | assumption | exact (by assumption : WI T17).2.1 : TX T17)) (by omega) (by omega) (by omega) (by omega) (by omega) (t87.trans (congrArg (rrD (trC (8 - dr).toNat) sort action noun (Xi S 246 2 - (v5 + 1)).toNat (v5 + 1).toNat) (ph_s (by omega) (by omega) (by omega) (by omega) (q147 (by omega) (by omega)) (by first | (have t := K190; exact ps_2 I135 (by omega) (by omega) e190) | (have t := K209; exact ps_3 I135 (by omega) (by omega) f209) | exact ps_1 I135 (by omega)) (by rw [← I135]; omega)))) (by omega) (by omega)) (And.intro rfl (And.intro rfl (And.intro rfl (And.intro rfl (And.intro rfl (And.intro rfl (And.intro rfl (And.intro rfl (And.intro rfl (And.intro rfl (True.intro)))))))))))
                    · refine l_aload rfl rfl ?_
                      refine l_gfi rfl rfl rfl (layCl (by omega)) rfl ?_
                      refine l_bipush rfl rfl ?_
                      refine l_icmp_ne rfl rfl (by unfold rg; omega) (by unfold rg; omega) (fun w225 => ?_) (fun w226 => ?_)
                      · refine l_aload_n rfl rfl ?_
                        refine l_gfi rfl rfl rfl rfl rfl ?_
                        refine l_if_ne rfl rfl (by unfold rg; omega) (fun w227 => ?_) (fun w228 => ?_)
                        · have w229 : Xi U13 900 5 = Xi U5 900 5 := (show Xi U13 900 5 = Xi U5 900 5 from by rw [eU13]; exact Xi_ne (by omega))
                          have w230 : 0 ≤ Xi U5 900 5 ∧ Xi U5 900 5 ≤ 301 := hHU5.c _ _
                          have w231 : 0 ≤ Xi U13 900 6 ∧ Xi U13 900 6 ≤ 1 := hHU13.c _ _
                          exact Rl_weak (C212 U13 hHU13 hFU13 (v5) (rr) (1) (v8) (v9) (by omega) (by omega) (by omega) (by omega) (by omega) (by first | assumption | exact (TX_FR (FR_e eU13) rfl (TX_FR (FR_e eU5) rfl (by first | assumption | exact (by assumption : WI T2).2.1 : TX T2)))) (by omega) (by omega) (by omega) (by omega) (by omega) (t87.trans (congrArg (rrD (trC (8 - dr).toNat) sort action noun (Xi S 246 2 - (v5 + 1)).toNat (v5 + 1).toNat) (ph_s (by omega) (by omega) (by omega) (by omega) (q147 (by omega) (by omega)) (by first | (have t := K190; exact ps_2 I135 (by omega) (by omega) e190) | (have t := K209; exact ps_3 I135 (by omega) (by omega) f209) | exact ps_1 I135 (by omega)) (by rw [← I135]; omega)))) (by omega) (by omega)) (And.intro rfl (And.intro rfl (And.intro rfl (And.intro rfl (And.intro rfl (And.intro rfl (And.intro rfl (And.intro rfl (And.intro rfl (And.intro rfl (True.intro)))))))))))
                        · refine l_aload_n rfl rfl ?_
                          refine l_aload rfl rfl ?_
                          refine l_iload_n rfl rfl ?_
                          refine l_iload rfl rfl ?_
                          have w232 : Xi U13 900 5 = Xi U5 900 5 := (show Xi U13 900 5 = Xi U5 900 5 from by rw [eU13]; exact Xi_ne (by omega))
                          have w233 : 0 ≤ Xi U5 900 5 ∧ Xi U5 900 5 ≤ 301 := hHU5.c _ _
                          have w234 : 0 ≤ Xi U13 900 6 ∧ Xi U13 900 6 ≤ 1 := hHU13.c _ _
                          refine l_callV rfl rfl rfl (hrec hHU13 z166 noun dr (by omega) ⟨by omega, by omega⟩ ⟨by omega, by omega⟩ (CLok_sG hH (FR_sC hH hFU13 rfl rfl) (by omega) (by omega) (RUL_ph (i := rr) (k := Xi S (248 + rr) 4 + Xi S (248 + rr) 5 + v9) hR (by omega) (rN_n hn (by omega)) (by omega) (by omega) (by omega))) (by first | assumption | exact TX_FR hFU13 rfl hX) (by first | assumption | exact DEF_FR hH hFU13 rfl rfl hD) (by first | assumption | exact RUL_FR hH hFU13 rfl rfl hR) (by first | assumption | exact ORD_FR hFU13 rfl hO) (by first | assumption | exact AK_FR hFU13 rfl hA) (by first | assumption | omega) (CW_FR hFU13 rfl rfl cw) (by omega)) ?_
                          rintro _ T18 ⟨hHT18, w238, rfl, w235, w236, f209⟩
                          have hFT18 : FR md_tu_runRules__w S T18 := FR.tr hFU13 w238 rfl
                          show Rl _ _ _ _ _ [] _ _
                          have K209 : True := trivial
                          have w239 : 0 ≤ Xi T18 900 5 ∧ Xi T18 900 5 ≤ 301 := hHT18.c _ _
                          have w240 : 0 ≤ Xi T18 900 6 ∧ Xi T18 900 6 ≤ 1 := hHT18.c _ _
                          exact Rl_weak (C212 T18 hHT18 hFT18 (v5) (rr) (1) (v8) (v9) (by omega) (by omega) (by omega) (by omega) (by omega) (by first | assumption | exact (by first | assumption | exact (by assumption : WI T18).2.1 : TX T18)) (by omega) (by omega) (by omega) (by omega) (by omega) (t87.trans (congrArg (rrD (trC (8 - dr).toNat) sort action noun (Xi S 246 2 - (v5 + 1)).toNat (v5 + 1).toNat) (ph_s (by omega) (by omega) (by omega) (by omega) (q147 (by omega) (by omega)) (by first | (have t := K190; exact ps_2 I135 (by omega) (by omega) e190) | (have t := K209; exact ps_3 I135 (by omega) (by omega) f209) | exact ps_1 I135 (by omega)) (by rw [← I135]; omega)))) (by omega) (by omega)) (And.intro rfl (And.intro rfl (And.intro rfl (And.intro rfl (And.intro rfl (And.intro rfl (And.intro rfl (And.intro rfl (And.intro rfl (And.intro rfl (True.intro)))))))))))
                      · refine l_aload_n rfl rfl ?_
                        refine l_aload rfl rfl ?_
                        refine l_iload_n rfl rfl ?_
                        refine l_callV rfl rfl rfl (t_tu_sayText__w hHU13 z166 noun (by omega) ⟨by omega, by omega⟩ (CLok_sG hH (FR_sC hH hFU13 rfl rfl) (by omega) (by omega) (RUL_ph (i := rr) (k := Xi S (248 + rr) 4 + Xi S (248 + rr) 5 + v9) hR (by omega) (rN_n hn (by omega)) (by omega) (by omega) (by omega))) (by first | assumption | omega) (by first | assumption | exact TX_FR hFU13 rfl hX) (CW_FR hFU13 rfl rfl cw) _) ?_
                        rintro _ T19 ⟨hHT19, w243, rfl, w241, e190⟩
                        have hFT19 : FR md_tu_runRules__w S T19 := FR.tr hFU13 w243 rfl
                        show Rl _ _ _ _ _ [] _ _
                        have K190 : True := trivial
                        refine l_goto rfl rfl ?_
                        have w244 : Xi T19 900 5 = Xi U5 900 5 := (show Xi T19 900 5 = Xi U13 900 5 from w243.x _ _ rfl).trans ((show Xi U13 900 5 = Xi U5 900 5 from by rw [eU13]; exact Xi_ne (by omega)))
                        have w245 : 0 ≤ Xi U5 900 5 ∧ Xi U5 900 5 ≤ 301 := hHU5.c _ _
                        have w246 : Xi T19 900 6 = Xi U13 900 6 := (show Xi T19 900 6 = Xi U13 900 6 from w243.x _ _ rfl)
                        have w247 : 0 ≤ Xi U13 900 6 ∧ Xi U13 900 6 ≤ 1 := hHU13.c _ _
                        exact Rl_weak (C212 T19 hHT19 hFT19 (v5) (rr) (1) (v8) (v9) (by omega) (by omega) (by omega) (by omega) (by omega) (by first | assumption | exact (TX_FR w243 rfl (TX_FR (FR_e eU13) rfl (TX_FR (FR_e eU5) rfl (by first | assumption | exact (by assumption : WI T2).2.1 : TX T2))))) (by omega) (by omega) (by omega) (by omega) (by omega) (t87.trans (congrArg (rrD (trC (8 - dr).toNat) sort action noun (Xi S 246 2 - (v5 + 1)).toNat (v5 + 1).toNat) (ph_s (by omega) (by omega) (by omega) (by omega) (q147 (by omega) (by omega)) (by first | (have t := K190; exact ps_2 I135 (by omega) (by omega) e190) | (have t := K209; exact ps_3 I135 (by omega) (by omega) f209) | exact ps_1 I135 (by omega)) (by rw [← I135]; omega)))) (by omega) (by omega)) (And.intro rfl (And.intro rfl (And.intro rfl (And.intro rfl (And.intro rfl (And.intro rfl (And.intro rfl (And.intro rfl (And.intro rfl (And.intro rfl (True.intro)))))))))))
      refine l_iload rfl rfl ?_
      refine l_aload_n rfl rfl ?_
      refine l_gfr rfl rfl rfl rfl rfl (hHT1.r 900 2 246 rfl) ?_
      refine l_gfi rfl rfl rfl rfl rfl ?_
      refine l_icmp_ge rfl rfl (by unfold rg; omega) (by unfold rg; omega) (fun w248 => ?_) (fun w249 => ?_)
      · refine l_iconst rfl ?_
        refine l_ireturn rfl rfl ?_
        have w250 : 0 ≤ Xi T1 900 5 ∧ Xi T1 900 5 ≤ 301 := hHT1.c _ _
        have w251 : 0 ≤ Xi T1 900 6 ∧ Xi T1 900 6 ≤ 1 := hHT1.c _ _
        exact ⟨hHT1, hFT1, _, rfl, ⟨by omega, by omega⟩, (by first | assumption | exact TX_FR hFT1 rfl hX), (by first | assumption | omega), (by first | (have t := t218; exact (t218.trans (rd_y (by omega) (by omega))).symm) | exact (t3.trans (rr_e (by omega))).symm)⟩
      · refine l_aload_n rfl rfl ?_
        refine l_gfi rfl rfl rfl rfl rfl ?_
        refine l_if_ne rfl rfl (by unfold rg; omega) (fun w252 => ?_) (fun w253 => ?_)
        · refine l_iconst rfl ?_
          refine l_ireturn rfl rfl ?_
          have w254 : 0 ≤ Xi T1 900 5 ∧ Xi T1 900 5 ≤ 301 := hHT1.c _ _
          have w255 : 0 ≤ Xi T1 900 6 ∧ Xi T1 900 6 ≤ 1 := hHT1.c _ _
          exact ⟨hHT1, hFT1, _, rfl, ⟨by omega, by omega⟩, (by first | assumption | exact TX_FR hFT1 rfl hX), (by first | assumption | omega), (by first | (have t := t218; exact (t218.trans (rd_y (by omega) (by omega))).symm) | exact (t3.trans (rr_e (by omega))).symm)⟩
        · refine l_aload_n rfl rfl ?_
          refine l_gfr rfl rfl rfl rfl rfl (hHT1.r 900 2 246 rfl) ?_
          refine l_gfr rfl rfl rfl rfl rfl (hHT1.r 246 1 247 rfl) ?_
          refine l_aload_n rfl rfl ?_
          refine l_gfr rfl rfl rfl rfl rfl (hHT1.r 900 2 246 rfl) ?_
          refine l_gfr rfl rfl rfl rfl rfl (hHT1.r 246 3 272 rfl) ?_
          refine l_iload rfl rfl ?_
          refine l_iaload (n := 24) rfl rfl (by omega) (by omega) (by unfold rg; omega) ?_
          have w256 : 0 ≤ (Xi T1 272 ((v5).toNat)) ∧ (Xi T1 272 ((v5).toNat)) ≤ 23 := hHT1.c _ _
          have ho1 : Xi T1 272 (v5).toNat < Xi T1 246 2 := (ORD_FR hFT1 rfl hO) v5.toNat (by omega)
          refine l_aaload (n := 24) (a := 248 + ((Xi T1 272 ((v5).toNat))).toNat) rfl rfl (by decide) (by omega) (by omega) (by unfold rg; omega) (RW_247 hHT1 (by omega)) ?_
          refine l_astore rfl rfl rfl ?_
          have hr1 : Xi T1 (248 + ((Xi T1 272 ((v5).toNat))).toNat) 1 = Xi S (248 + ((Xi T1 272 ((v5).toNat))).toNat) 1 := FR_ru hFT1 rfl (by omega)
          have hr4 : Xi T1 (248 + ((Xi T1 272 ((v5).toNat))).toNat) 4 = Xi S (248 + ((Xi T1 272 ((v5).toNat))).toNat) 4 := FR_ru hFT1 rfl (by omega)
          have hr5 : Xi T1 (248 + ((Xi T1 272 ((v5).toNat))).toNat) 5 = Xi S (248 + ((Xi T1 272 ((v5).toNat))).toNat) 5 := FR_ru hFT1 rfl (by omega)
          have hr6 : Xi T1 (248 + ((Xi T1 272 ((v5).toNat))).toNat) 6 = Xi S (248 + ((Xi T1 272 ((v5).toNat))).toNat) 6 := FR_ru hFT1 rfl (by omega)
          have hr7 : Xi T1 (248 + ((Xi T1 272 ((v5).toNat))).toNat) 7 = Xi S (248 + ((Xi T1 272 ((v5).toNat))).toNat) 7 := FR_ru hFT1 rfl (by omega)
          have hrb0 : 0 ≤ Xi S (248 + ((Xi T1 272 ((v5).toNat))).toNat) 7 ∧ Xi S (248 + ((Xi T1 272 ((v5).toNat))).toNat) 7 + Xi S (248 + ((Xi T1 272 ((v5).toNat))).toNat) 4 + Xi S (248 + ((Xi T1 272 ((v5).toNat))).toNat) 5 + Xi S (248 + ((Xi T1 272 ((v5).toNat))).toNat) 6 ≤ 600 := RUL_b hR (by omega)
          have hp6 : 0 ≤ Xi S (248 + ((Xi T1 272 ((v5).toNat))).toNat) 6 ∧ Xi S (248 + ((Xi T1 272 ((v5).toNat))).toNat) 6 ≤ 8 := ruc6 hH (by omega)
          refine l_aload rfl rfl ?_
          refine l_iconst rfl ?_
          refine l_iaload (n := 8) rfl (lay_248 (by omega)) (by omega) (by omega) (by unfold rg; omega) ?_
          have w257 : 0 ≤ (Xi T1 (248 + ((Xi T1 272 ((v5).toNat))).toNat) ((0 : Int).toNat)) ∧ (Xi T1 (248 + ((Xi T1 272 ((v5).toNat))).toNat) ((0 : Int).toNat)) ≤ 3 := ruc0 hHT1 (by omega)
          have w258 : (Xi T1 (248 + ((Xi T1 272 ((v5).toNat))).toNat) ((0 : Int).toNat)) = Xi T1 (248 + ((Xi T1 272 ((v5).toNat))).toNat) 0 := rfl
          refine l_iload_n rfl rfl ?_
          refine l_icmp_ne rfl rfl (by unfold rg; omega) (by unfold rg; omega) (fun w259 => ?_) (fun w260 => ?_)
          · refine l_iinc rfl rfl rfl rfl ?_
            refine l_goto rfl rfl ?_
            have w261 : 0 ≤ Xi T1 900 5 ∧ Xi T1 900 5 ≤ 301 := hHT1.c _ _
            have w262 : 0 ≤ Xi T1 900 6 ∧ Xi T1 900 6 ≤ 1 := hHT1.c _ _
            exact Rl_weak (ih3 _ (by omega) T1 hHT1 hFT1 ((v5 + 1)) (by omega) (by first | assumption | exact (by first | assumption | exact (by assumption : WI T1).2.1 : TX T1)) (by omega) (by first | (have t := t218; exact t218.trans (rd_n (by omega))) | (have t := f55; exact t3.trans (rr_na (by omega) (by omega) (by omega) (by rw [← f55]; omega) s55)) | (have t := t3; exact t3.trans (rr_j (by omega) (by omega) (by omega))) | rfl) rfl) (And.intro rfl (And.intro rfl (And.intro rfl (And.intro rfl (And.intro rfl (And.intro rfl (True.intro)))))))
          · refine l_aload_n rfl rfl ?_
            refine l_aload rfl rfl ?_
            refine l_iload_n rfl rfl ?_
            refine l_iload_n rfl rfl ?_
            have w263 : 0 ≤ Xi T1 246 2 ∧ Xi T1 246 2 ≤ 24 := hHT1.c _ _
            refine l_callV rfl rfl rfl (t_tu_applies__w hHT1 (((Xi T1 272 ((v5).toNat))).toNat) action noun (by omega) ⟨by omega, by omega⟩ ⟨by omega, by omega⟩ (by first | assumption | omega) (by first | assumption | exact RUL_FR hH hFT1 rfl rfl hR) (by first | assumption | exact DEF_FR hH hFT1 rfl rfl hD) (by first | assumption | exact TX_FR hFT1 rfl hX) (fun h1 h2 => hn h1 (by rw [(hFT1.cx 19 rfl _).1] at h2; exact h2)) _) ?_
            rintro _ T20 ⟨hHT20, w266, z265, rfl, w265, w264, f55, s55⟩
            have hFT20 : FR md_tu_runRules__w S T20 := FR.tr hFT1 w266 rfl
            show Rl _ _ _ _ _ [iv z265] _ _
            have hq4 : Xi T20 (248 + ((Xi T1 272 ((v5).toNat))).toNat) 4 = Xi S (248 + ((Xi T1 272 ((v5).toNat))).toNat) 4 := FR_ru hFT20 rfl (by omega)
            have hq5 : Xi T20 (248 + ((Xi T1 272 ((v5).toNat))).toNat) 5 = Xi S (248 + ((Xi T1 272 ((v5).toNat))).toNat) 5 := FR_ru hFT20 rfl (by omega)
            have hq6 : Xi T20 (248 + ((Xi T1 272 ((v5).toNat))).toNat) 6 = Xi S (248 + ((Xi T1 272 ((v5).toNat))).toNat) 6 := FR_ru hFT20 rfl (by omega)
            have hq7 : Xi T20 (248 + ((Xi T1 272 ((v5).toNat))).toNat) 7 = Xi S (248 + ((Xi T1 272 ((v5).toNat))).toNat) 7 := FR_ru hFT20 rfl (by omega)
            refine l_if_ne rfl rfl (by unfold rg; omega) (fun w267 => ?_) (fun w268 => ?_)
            · refine l_iconst rfl ?_
              refine l_istore rfl rfl rfl ?_
              refine l_aload rfl rfl ?_
              refine l_bipush rfl rfl ?_
              refine l_iaload (n := 8) rfl (lay_248 (by omega)) (by omega) (by omega) (by unfold rg; omega) ?_
              have w269 : 0 ≤ (Xi T20 (248 + ((Xi T1 272 ((v5).toNat))).toNat) ((7 : Int).toNat)) ∧ (Xi T20 (248 + ((Xi T1 272 ((v5).toNat))).toNat) ((7 : Int).toNat)) ≤ 200000 := ruc7 hHT20 (by omega)
              have w270 : (Xi T20 (248 + ((Xi T1 272 ((v5).toNat))).toNat) ((7 : Int).toNat)) = Xi T20 (248 + ((Xi T1 272 ((v5).toNat))).toNat) 7 := rfl
              refine l_aload rfl rfl ?_
              refine l_iconst rfl ?_
              refine l_iaload (n := 8) rfl (lay_248 (by omega)) (by omega) (by omega) (by unfold rg; omega) ?_
              have w271 : 0 ≤ (Xi T20 (248 + ((Xi T1 272 ((v5).toNat))).toNat) ((4 : Int).toNat)) ∧ (Xi T20 (248 + ((Xi T1 272 ((v5).toNat))).toNat) ((4 : Int).toNat)) ≤ 5 := ruc4 hHT20 (by omega)
              have w272 : (Xi T20 (248 + ((Xi T1 272 ((v5).toNat))).toNat) ((4 : Int).toNat)) = Xi T20 (248 + ((Xi T1 272 ((v5).toNat))).toNat) 4 := rfl
              refine l_iadd rfl ?_
              refine l_aload rfl rfl ?_
              refine l_iconst rfl ?_
              refine l_iaload (n := 8) rfl (lay_248 (by omega)) (by omega) (by omega) (by unfold rg; omega) ?_
              have w273 : 0 ≤ (Xi T20 (248 + ((Xi T1 272 ((v5).toNat))).toNat) ((5 : Int).toNat)) ∧ (Xi T20 (248 + ((Xi T1 272 ((v5).toNat))).toNat) ((5 : Int).toNat)) ≤ 6 := ruc5 hHT20 (by omega)
              have w274 : (Xi T20 (248 + ((Xi T1 272 ((v5).toNat))).toNat) ((5 : Int).toNat)) = Xi T20 (248 + ((Xi T1 272 ((v5).toNat))).toNat) 5 := rfl
              refine l_iadd rfl ?_
              refine l_istore rfl rfl rfl ?_
              refine l_iconst rfl ?_
              refine l_istore rfl rfl rfl ?_
              have w275 : Xi T20 900 5 = Xi T1 900 5 := (show Xi T20 900 5 = Xi T1 900 5 from w266.x _ _ rfl)
              have w276 : 0 ≤ Xi T1 900 5 ∧ Xi T1 900 5 ≤ 301 := hHT1.c _ _
              have w277 : Xi T20 900 6 = Xi T1 900 6 := (show Xi T20 900 6 = Xi T1 900 6 from w266.x _ _ rfl)
              have w278 : 0 ≤ Xi T1 900 6 ∧ Xi T1 900 6 ≤ 1 := hHT1.c _ _
              exact Rl_weak (C87 _ T20 hHT20 hFT20 (v5) ((((Xi T1 272 ((v5).toNat))).toNat)) (0) ((((Xi T20 (248 + ((Xi T1 272 ((v5).toNat))).toNat) ((7 : Int).toNat)) + (Xi T20 (248 + ((Xi T1 272 ((v5).toNat))).toNat) ((4 : Int).toNat))) + (Xi T20 (248 + ((Xi T1 272 ((v5).toNat))).toNat) ((5 : Int).toNat)))) (0) (by omega) (by omega) (by omega) (by omega) (by omega) (by first | assumption | exact (TX_FR w266 rfl (by first | assumption | exact (by assumption : WI T1).2.1 : TX T1))) (by omega) (by omega) (by omega) (by omega) (by omega) (by first | exact t212 | (have t := f55; rw [t3, rr_g (by omega) (by omega) rfl (by omega) (by rw [← f55]; omega) s55, hq6]; rfl)) (by omega) rfl) (And.intro rfl (And.intro rfl (And.intro rfl (And.intro rfl (And.intro rfl (And.intro rfl (And.intro rfl (And.intro rfl (And.intro rfl (And.intro rfl (True.intro)))))))))))
            · refine l_goto rfl rfl ?_
              refine l_iinc rfl rfl rfl rfl ?_
              refine l_goto rfl rfl ?_
              have w279 : Xi T20 900 5 = Xi T1 900 5 := (show Xi T20 900 5 = Xi T1 900 5 from w266.x _ _ rfl)
              have w280 : 0 ≤ Xi T1 900 5 ∧ Xi T1 900 5 ≤ 301 := hHT1.c _ _
              have w281 : Xi T20 900 6 = Xi T1 900 6 := (show Xi T20 900 6 = Xi T1 900 6 from w266.x _ _ rfl)
              have w282 : 0 ≤ Xi T1 900 6 ∧ Xi T1 900 6 ≤ 1 := hHT1.c _ _
              exact Rl_weak (ih3 _ (by omega) T20 hHT20 hFT20 ((v5 + 1)) (by omega) (by first | assumption | exact (TX_FR w266 rfl (by first | assumption | exact (by assumption : WI T1).2.1 : TX T1))) (by omega) (by first | (have t := t218; exact t218.trans (rd_n (by omega))) | (have t := f55; exact t3.trans (rr_na (by omega) (by omega) (by omega) (by rw [← f55]; omega) s55)) | (have t := t3; exact t3.trans (rr_j (by omega) (by omega) (by omega))) | rfl) rfl) (And.intro rfl (And.intro rfl (And.intro rfl (And.intro rfl (And.intro rfl (And.intro rfl (True.intro)))))))
  refine l_iconst rfl ?_
  refine l_istore rfl rfl rfl ?_
  have w283 : 0 ≤ Xi S 900 5 ∧ Xi S 900 5 ≤ 301 := hH.c _ _
  have w284 : 0 ≤ Xi S 900 6 ∧ Xi S 900 6 ≤ 1 := hH.c _ _
  exact Rl_weak (C3 _ S hH hF (0) (by omega) (by first | assumption | exact (by first | assumption | exact (by assumption : WI S).2.1 : TX S)) (by omega) (by first | (have t := t218; exact t218.trans (rd_n (by omega))) | (have t := f55; exact t3.trans (rr_na (by omega) (by omega) (by omega) (by rw [← f55]; omega) s55)) | (have t := t3; exact t3.trans (rr_j (by omega) (by omega) (by omega))) | rfl) rfl) (And.intro rfl (And.intro rfl (And.intro rfl (And.intro rfl (And.intro rfl (And.intro rfl (True.intro)))))))
set_option maxRecDepth 100000 in
theorem u_tu_doAction__w {S : sS} (hH : HI S) (action : Int) (noun : Int) (dd : Int) (haction : 0 ≤ action ∧ action ≤ 11) (hnoun : -1 ≤ noun ∧ noun ≤ 23) (hdd : 0 ≤ dd ∧ dd ≤ 8) (hn : Xi S 19 action.toNat ≠ -1 → 0 ≤ noun) (hg : Xi S 19 action.toNat = -2 → noun ≤ 5) (hX : TX S) (hD : DEF S) (hR : RUL S) (hO : ORD S) (hA : AK S) (hE : Xi S 900 6 = 0 → Xi S 900 5 ≤ 300) (cw : CW S) (d : Nat) (hrec : ∀ {S : sS} (_ : HI S) (sort : Int) (action : Int) (noun : Int) (dr : Int) (hsort : 0 ≤ sort ∧ sort ≤ 3) (haction : -1 ≤ action ∧ action ≤ 11) (hnoun : -1 ≤ noun ∧ noun ≤ 23) (hdr : 0 ≤ dr ∧ dr ≤ 8) (hn : 0 ≤ action → Xi S 19 action.toNat ≠ -1 → 0 ≤ noun) (hX : TX S) (hD : DEF S) (hR : RUL S) (hO : ORD S) (hA : AK S) (hE : Xi S 900 6 = 0 → Xi S 900 5 ≤ 300) (cw : CW S), (dr = dd) → Mt lay0 (d + 31) m_tu_runRules [.ref 900, iv sort, iv action, iv noun, iv dr] S (Q_tu_runRules__w S sort action noun dr)) : Mt lay0 (d + 32) m_tu_doAction [.ref 900, iv action, iv noun, iv dd] S (Q_tu_doAction__w S action noun dd) := by
  refine Mt_R rfl rfl ?_
  have hF : FR md_tu_doAction__w S S := FR.rf
  have w1 : 0 ≤ Xi S 900 5 ∧ Xi S 900 5 ≤ 301 := hH.c _ _
  have w2 : 0 ≤ Xi S 900 6 ∧ Xi S 900 6 ≤ 1 := hH.c _ _
  refine l_aload_n rfl rfl ?_
  refine l_iconst rfl ?_
  refine l_iload_n rfl rfl ?_
  refine l_iload_n rfl rfl ?_
  refine l_iload_n rfl rfl ?_
  refine l_callV rfl rfl rfl (hrec hH 0 action noun dd ⟨by omega, by omega⟩ ⟨by omega, by omega⟩ ⟨by omega, by omega⟩ ⟨by omega, by omega⟩ (fun _ => by rw [(hF.cx 19 rfl _).1]; exact hn) (by first | assumption | exact TX_FR hF rfl hX) (by first | assumption | exact DEF_FR hH hF rfl rfl hD) (by first | assumption | exact RUL_FR hH hF rfl rfl hR) (by first | assumption | exact ORD_FR hF rfl hO) (by first | assumption | exact AK_FR hF rfl hA) (by first | assumption | omega) (CW_FR hF rfl rfl cw) (by omega)) ?_
  rintro _ T1 ⟨hHT1, w8, z7, rfl, w7, w5, w6, f5⟩
  have hFT1 : FR md_tu_doAction__w S T1 := FR.tr hF w8 rfl
  show Rl _ _ _ _ _ [iv z7] _ _
  refine l_if_eq rfl rfl (by unfold rg; omega) (fun w9 => ?_) (fun w10 => ?_)
  · refine l_aload_n rfl rfl ?_
    refine l_gfi rfl rfl rfl rfl rfl ?_
    have w11 : 0 ≤ (Xi T1 900 6) ∧ (Xi T1 900 6) ≤ 1 := hHT1.c _ _
    refine l_if_ne rfl rfl (by unfold rg; omega) (fun w12 => ?_) (fun w13 => ?_)
    · refine l_iconst rfl ?_
      refine l_ireturn rfl rfl ?_
      have w14 : 0 ≤ Xi T1 900 5 ∧ Xi T1 900 5 ≤ 301 := hHT1.c _ _
      have w15 : 0 ≤ Xi T1 900 6 ∧ Xi T1 900 6 ≤ 1 := hHT1.c _ _
      exact ⟨hHT1, hFT1, _, rfl, ⟨by omega, by omega⟩, (by first | assumption | exact TX_FR hFT1 rfl hX), (by first | assumption | omega), (by first | (have t := K56; rw [do_b f5 (by omega), do_e (by omega) f25 (by omega), do_h (by omega) f43 (by omega)]; exact do_i f56 (by omega)) | (have t := K43; rw [do_b f5 (by omega), do_e (by omega) f25 (by omega)]; exact do_g (by omega) f43 (by omega)) | (have t := K25; rw [do_b f5 (by omega)]; first | exact do_d (by omega) f25 (by omega) | (rw [do_e (by omega) f25 (by omega)]; exact do_f (by omega))) | (have t := f5; first | exact do_a f5 (by omega) | (rw [do_b f5 (by omega)]; exact do_c (by omega))))⟩
    · refine l_aload_n rfl rfl ?_
      refine l_iconst rfl ?_
      refine l_iload_n rfl rfl ?_
      refine l_iload_n rfl rfl ?_
      refine l_iload_n rfl rfl ?_
      have w16 : 0 ≤ Xi T1 900 5 ∧ Xi T1 900 5 ≤ 301 := hHT1.c _ _
      have w17 : 0 ≤ Xi T1 900 6 ∧ Xi T1 900 6 ≤ 1 := hHT1.c _ _
      refine l_callV rfl rfl rfl (hrec hHT1 1 action noun dd ⟨by omega, by omega⟩ ⟨by omega, by omega⟩ ⟨by omega, by omega⟩ ⟨by omega, by omega⟩ (fun _ => by rw [(hFT1.cx 19 rfl _).1]; exact hn) (by first | assumption | exact TX_FR hFT1 rfl hX) (by first | assumption | exact DEF_FR hH hFT1 rfl rfl hD) (by first | assumption | exact RUL_FR hH hFT1 rfl rfl hR) (by first | assumption | exact ORD_FR hFT1 rfl hO) (by first | assumption | exact AK_FR hFT1 rfl hA) (by first | assumption | omega) (CW_FR hFT1 rfl rfl cw) (by omega)) ?_
      rintro _ T2 ⟨hHT2, w21, z20, rfl, w20, w18, w19, f25⟩
      have hFT2 : FR md_tu_doAction__w S T2 := FR.tr hFT1 w21 rfl
      show Rl _ _ _ _ _ [iv z20] _ _
      have K25 : True := trivial
      refine l_if_eq rfl rfl (by unfold rg; omega) (fun w22 => ?_) (fun w23 => ?_)
      · refine l_aload_n rfl rfl ?_
        refine l_gfi rfl rfl rfl rfl rfl ?_
        have w24 : 0 ≤ (Xi T2 900 6) ∧ (Xi T2 900 6) ≤ 1 := hHT2.c _ _
        refine l_if_ne rfl rfl (by unfold rg; omega) (fun w25 => ?_) (fun w26 => ?_)
        · refine l_iconst rfl ?_
          refine l_ireturn rfl rfl ?_
          have w27 : 0 ≤ Xi T2 900 5 ∧ Xi T2 900 5 ≤ 301 := hHT2.c _ _
          have w28 : 0 ≤ Xi T2 900 6 ∧ Xi T2 900 6 ≤ 1 := hHT2.c _ _
          exact ⟨hHT2, hFT2, _, rfl, ⟨by omega, by omega⟩, (by first | assumption | exact TX_FR hFT2 rfl hX), (by first | assumption | omega), (by first | (have t := K56; rw [do_b f5 (by omega), do_e (by omega) f25 (by omega), do_h (by omega) f43 (by omega)]; exact do_i f56 (by omega)) | (have t := K43; rw [do_b f5 (by omega), do_e (by omega) f25 (by omega)]; exact do_g (by omega) f43 (by omega)) | (have t := K25; rw [do_b f5 (by omega)]; first | exact do_d (by omega) f25 (by omega) | (rw [do_e (by omega) f25 (by omega)]; exact do_f (by omega))) | (have t := f5; first | exact do_a f5 (by omega) | (rw [do_b f5 (by omega)]; exact do_c (by omega))))⟩
        · refine l_aload_n rfl rfl ?_
          refine l_iload_n rfl rfl ?_
          refine l_iload_n rfl rfl ?_
          refine l_callV rfl rfl rfl (t_tu_succeeds__w hHT2 action noun ⟨by omega, by omega⟩ ⟨by omega, by omega⟩ (by first | assumption | exact TX_FR hFT2 rfl hX) (by first | assumption | exact AK_FR hFT2 rfl hA) (by rw [(hFT2.cx 19 rfl _).1]; exact hn) (by rw [(hFT2.cx 19 rfl _).1]; exact hg) _) ?_
          rintro _ T3 ⟨hHT3, w31, z30, rfl, w30, w29, f43⟩
          have hFT3 : FR md_tu_doAction__w S T3 := FR.tr hFT2 w31 rfl
          show Rl _ _ _ _ _ [iv z30] _ _
          have K43 : True := trivial
          refine l_if_ne rfl rfl (by unfold rg; omega) (fun w32 => ?_) (fun w33 => ?_)
          · refine l_aload_n rfl rfl ?_
            refine l_iconst rfl ?_
            refine l_iload_n rfl rfl ?_
            refine l_iload_n rfl rfl ?_
            refine l_iload_n rfl rfl ?_
            have w34 : Xi T3 900 5 = Xi T2 900 5 := (show Xi T3 900 5 = Xi T2 900 5 from w31.x _ _ rfl)
            have w35 : 0 ≤ Xi T2 900 5 ∧ Xi T2 900 5 ≤ 301 := hHT2.c _ _
            have w36 : Xi T3 900 6 = Xi T2 900 6 := (show Xi T3 900 6 = Xi T2 900 6 from w31.x _ _ rfl)
            have w37 : 0 ≤ Xi T2 900 6 ∧ Xi T2 900 6 ≤ 1 := hHT2.c _ _
            refine l_callV rfl rfl rfl (hrec hHT3 2 action noun dd ⟨by omega, by omega⟩ ⟨by omega, by omega⟩ ⟨by omega, by omega⟩ ⟨by omega, by omega⟩ (fun _ => by rw [(hFT3.cx 19 rfl _).1]; exact hn) (by first | assumption | exact TX_FR hFT3 rfl hX) (by first | assumption | exact DEF_FR hH hFT3 rfl rfl hD) (by first | assumption | exact RUL_FR hH hFT3 rfl rfl hR) (by first | assumption | exact ORD_FR hFT3 rfl hO) (by first | assumption | exact AK_FR hFT3 rfl hA) (by first | assumption | omega) (CW_FR hFT3 rfl rfl cw) (by omega)) ?_
            rintro _ T4 ⟨hHT4, w41, z40, rfl, w40, w38, w39, f56⟩
            have hFT4 : FR md_tu_doAction__w S T4 := FR.tr hFT3 w41 rfl
            show Rl _ _ _ _ _ [iv z40] _ _
            have K56 : True := trivial
            refine l_if_eq rfl rfl (by unfold rg; omega) (fun w42 => ?_) (fun w43 => ?_)
            · refine l_iconst rfl ?_
              refine l_ireturn rfl rfl ?_
              have w44 : 0 ≤ Xi T4 900 5 ∧ Xi T4 900 5 ≤ 301 := hHT4.c _ _
              have w45 : 0 ≤ Xi T4 900 6 ∧ Xi T4 900 6 ≤ 1 := hHT4.c _ _
              exact ⟨hHT4, hFT4, _, rfl, ⟨by omega, by omega⟩, (by first | assumption | exact TX_FR hFT4 rfl hX), (by first | assumption | omega), (by first | (have t := K56; rw [do_b f5 (by omega), do_e (by omega) f25 (by omega), do_h (by omega) f43 (by omega)]; exact do_i f56 (by omega)) | (have t := K43; rw [do_b f5 (by omega), do_e (by omega) f25 (by omega)]; exact do_g (by omega) f43 (by omega)) | (have t := K25; rw [do_b f5 (by omega)]; first | exact do_d (by omega) f25 (by omega) | (rw [do_e (by omega) f25 (by omega)]; exact do_f (by omega))) | (have t := f5; first | exact do_a f5 (by omega) | (rw [do_b f5 (by omega)]; exact do_c (by omega))))⟩
            · refine l_iconst rfl ?_
              refine l_goto rfl rfl ?_
              refine l_ireturn rfl rfl ?_
              have w46 : 0 ≤ Xi T4 900 5 ∧ Xi T4 900 5 ≤ 301 := hHT4.c _ _
              have w47 : 0 ≤ Xi T4 900 6 ∧ Xi T4 900 6 ≤ 1 := hHT4.c _ _
              exact ⟨hHT4, hFT4, _, rfl, ⟨by omega, by omega⟩, (by first | assumption | exact TX_FR hFT4 rfl hX), (by first | assumption | omega), (by first | (have t := K56; rw [do_b f5 (by omega), do_e (by omega) f25 (by omega), do_h (by omega) f43 (by omega)]; exact do_i f56 (by omega)) | (have t := K43; rw [do_b f5 (by omega), do_e (by omega) f25 (by omega)]; exact do_g (by omega) f43 (by omega)) | (have t := K25; rw [do_b f5 (by omega)]; first | exact do_d (by omega) f25 (by omega) | (rw [do_e (by omega) f25 (by omega)]; exact do_f (by omega))) | (have t := f5; first | exact do_a f5 (by omega) | (rw [do_b f5 (by omega)]; exact do_c (by omega))))⟩
          · refine l_iconst rfl ?_
            refine l_ireturn rfl rfl ?_
            have w48 : Xi T3 900 5 = Xi T2 900 5 := (show Xi T3 900 5 = Xi T2 900 5 from w31.x _ _ rfl)
            have w49 : 0 ≤ Xi T2 900 5 ∧ Xi T2 900 5 ≤ 301 := hHT2.c _ _
            have w50 : Xi T3 900 6 = Xi T2 900 6 := (show Xi T3 900 6 = Xi T2 900 6 from w31.x _ _ rfl)
            have w51 : 0 ≤ Xi T2 900 6 ∧ Xi T2 900 6 ≤ 1 := hHT2.c _ _
            exact ⟨hHT3, hFT3, _, rfl, ⟨by omega, by omega⟩, (by first | assumption | exact TX_FR hFT3 rfl hX), (by first | assumption | omega), (by first | (have t := K56; rw [do_b f5 (by omega), do_e (by omega) f25 (by omega), do_h (by omega) f43 (by omega)]; exact do_i f56 (by omega)) | (have t := K43; rw [do_b f5 (by omega), do_e (by omega) f25 (by omega)]; exact do_g (by omega) f43 (by omega)) | (have t := K25; rw [do_b f5 (by omega)]; first | exact do_d (by omega) f25 (by omega) | (rw [do_e (by omega) f25 (by omega)]; exact do_f (by omega))) | (have t := f5; first | exact do_a f5 (by omega) | (rw [do_b f5 (by omega)]; exact do_c (by omega))))⟩
      · refine l_iconst rfl ?_
        refine l_ireturn rfl rfl ?_
        have w52 : 0 ≤ Xi T2 900 5 ∧ Xi T2 900 5 ≤ 301 := hHT2.c _ _
        have w53 : 0 ≤ Xi T2 900 6 ∧ Xi T2 900 6 ≤ 1 := hHT2.c _ _
        exact ⟨hHT2, hFT2, _, rfl, ⟨by omega, by omega⟩, (by first | assumption | exact TX_FR hFT2 rfl hX), (by first | assumption | omega), (by first | (have t := K56; rw [do_b f5 (by omega), do_e (by omega) f25 (by omega), do_h (by omega) f43 (by omega)]; exact do_i f56 (by omega)) | (have t := K43; rw [do_b f5 (by omega), do_e (by omega) f25 (by omega)]; exact do_g (by omega) f43 (by omega)) | (have t := K25; rw [do_b f5 (by omega)]; first | exact do_d (by omega) f25 (by omega) | (rw [do_e (by omega) f25 (by omega)]; exact do_f (by omega))) | (have t := f5; first | exact do_a f5 (by omega) | (rw [do_b f5 (by omega)]; exact do_c (by omega))))⟩
  · refine l_iconst rfl ?_
    refine l_ireturn rfl rfl ?_
    have w54 : 0 ≤ Xi T1 900 5 ∧ Xi T1 900 5 ≤ 301 := hHT1.c _ _
    have w55 : 0 ≤ Xi T1 900 6 ∧ Xi T1 900 6 ≤ 1 := hHT1.c _ _
    exact ⟨hHT1, hFT1, _, rfl, ⟨by omega, by omega⟩, (by first | assumption | exact TX_FR hFT1 rfl hX), (by first | assumption | omega), (by first | (have t := K56; rw [do_b f5 (by omega), do_e (by omega) f25 (by omega), do_h (by omega) f43 (by omega)]; exact do_i f56 (by omega)) | (have t := K43; rw [do_b f5 (by omega), do_e (by omega) f25 (by omega)]; exact do_g (by omega) f43 (by omega)) | (have t := K25; rw [do_b f5 (by omega)]; first | exact do_d (by omega) f25 (by omega) | (rw [do_e (by omega) f25 (by omega)]; exact do_f (by omega))) | (have t := f5; first | exact do_a f5 (by omega) | (rw [do_b f5 (by omega)]; exact do_c (by omega))))⟩
theorem k_perfw (n : Nat) : ∀ (d : Nat) {S : sS} (_ : HI S) (cl : Nat) (noun : Int) (dq : Int) (hcl : cl < 600) (hnoun : -1 ≤ noun ∧ noun ≤ 23) (hdq : 0 ≤ dq ∧ dq ≤ 8) (hk : CLok S (0 ≤ noun) cl) (hX : TX S) (hD : DEF S) (hR : RUL S) (hO : ORD S) (hA : AK S) (hE : Xi S 900 6 = 0 → Xi S 900 5 ≤ 300) (cw : CW S), (8 - dq).toNat = n → Mt lay0 (d + 3 * n + 30) m_tu_perform [.ref 900, .ref (276 + cl), iv noun, iv dq] S (Q_tu_perform__w S cl noun dq) := by
  induction n with
  | zero => intro d S hH cl noun dq hcl hnoun hdq hk hX hD hR hO hA hE cw hm; exact u_tu_perform__w hH cl noun dq hcl hnoun hdq hk hX hD hR hO hA hE cw d (fun {_} _ _ _ _ _ _ _ _ _ _ _ _ _ _ _ _ hlt => absurd hlt.1 (by omega))
  | succ n ih =>
    intro d S hH cl noun dq hcl hnoun hdq hk hX hD hR hO hA hE cw hm
    have t := u_tu_perform__w hH cl noun dq hcl hnoun hdq hk hX hD hR hO hA hE cw (d + 3 * n + 3) (fun {S} hH xaction xnoun xdd xhaction xhnoun xhdd xhn xhg xhX xhD xhR xhO xhA xhE xcw hlt => u_tu_doAction__w hH xaction xnoun xdd xhaction xhnoun xhdd xhn xhg xhX xhD xhR xhO xhA xhE xcw (d + 3 * n) (fun {S} hH ysort yaction ynoun ydr yhsort yhaction yhnoun yhdr yhn yhX yhD yhR yhO yhA yhE ycw he => u_tu_runRules__w hH ysort yaction ynoun ydr yhsort yhaction yhnoun yhdr yhn yhX yhD yhR yhO yhA yhE ycw (d + 3 * n) (fun {S} hH zcl znoun zdq zhcl zhnoun zhdq zhk zhX zhD zhR zhO zhA zhE zcw he2 => ih d hH zcl znoun zdq zhcl zhnoun zhdq zhk zhX zhD zhR zhO zhA zhE zcw (by omega))))
    rw [show d + 3 * n + 3 + 30 = d + 3 * (n + 1) + 30 by omega] at t
    exact t
theorem t_tu_perform__w {S : sS} (hH : HI S) (cl : Nat) (noun : Int) (dq : Int) (hcl : cl < 600) (hnoun : -1 ≤ noun ∧ noun ≤ 23) (hdq : 0 ≤ dq ∧ dq ≤ 8) (hk : CLok S (0 ≤ noun) cl) (hX : TX S) (hD : DEF S) (hR : RUL S) (hO : ORD S) (hA : AK S) (hE : Xi S 900 6 = 0 → Xi S 900 5 ≤ 300) (cw : CW S) (d : Nat) : Mt lay0 (d + 54) m_tu_perform [.ref 900, .ref (276 + cl), iv noun, iv dq] S (Q_tu_perform__w S cl noun dq) := by
  have t := k_perfw (8 - dq).toNat (d + (24 - 3 * (8 - dq).toNat)) hH cl noun dq hcl hnoun hdq hk hX hD hR hO hA hE cw rfl
  rw [show d + (24 - 3 * (8 - dq).toNat) + 3 * (8 - dq).toNat + 30 = d + 54 by omega] at t
  exact t
theorem t_tu_runRules__w {S : sS} (hH : HI S) (sort : Int) (action : Int) (noun : Int) (dr : Int) (hsort : 0 ≤ sort ∧ sort ≤ 3) (haction : -1 ≤ action ∧ action ≤ 11) (hnoun : -1 ≤ noun ∧ noun ≤ 23) (hdr : 0 ≤ dr ∧ dr ≤ 8) (hn : 0 ≤ action → Xi S 19 action.toNat ≠ -1 → 0 ≤ noun) (hX : TX S) (hD : DEF S) (hR : RUL S) (hO : ORD S) (hA : AK S) (hE : Xi S 900 6 = 0 → Xi S 900 5 ≤ 300) (cw : CW S) (d : Nat) : Mt lay0 (d + 55) m_tu_runRules [.ref 900, iv sort, iv action, iv noun, iv dr] S (Q_tu_runRules__w S sort action noun dr) :=
  u_tu_runRules__w hH sort action noun dr hsort haction hnoun hdr hn hX hD hR hO hA hE cw (d + 24) (fun {S} hH2 zcl znoun zdq zhcl zhnoun zhdq zhk zhX zhD zhR zhO zhA zhE zcw he => t_tu_perform__w hH2 zcl znoun zdq zhcl zhnoun zhdq zhk zhX zhD zhR zhO zhA zhE zcw d)
theorem t_tu_doAction__w {S : sS} (hH : HI S) (action : Int) (noun : Int) (dd : Int) (haction : 0 ≤ action ∧ action ≤ 11) (hnoun : -1 ≤ noun ∧ noun ≤ 23) (hdd : 0 ≤ dd ∧ dd ≤ 8) (hn : Xi S 19 action.toNat ≠ -1 → 0 ≤ noun) (hg : Xi S 19 action.toNat = -2 → noun ≤ 5) (hX : TX S) (hD : DEF S) (hR : RUL S) (hO : ORD S) (hA : AK S) (hE : Xi S 900 6 = 0 → Xi S 900 5 ≤ 300) (cw : CW S) (d : Nat) : Mt lay0 (d + 56) m_tu_doAction [.ref 900, iv action, iv noun, iv dd] S (Q_tu_doAction__w S action noun dd) :=
  u_tu_doAction__w hH action noun dd haction hnoun hdd hn hg hX hD hR hO hA hE cw (d + 24) (fun {S} hH2 ysort yaction ynoun ydr yhsort yhaction yhnoun yhdr yhn yhX yhD yhR yhO yhA yhE ycw he => t_tu_runRules__w hH2 ysort yaction ynoun ydr yhsort yhaction yhnoun yhdr yhn yhX yhD yhR yhO yhA yhE ycw d)

def md_tu_takeTurn__w : List rec := [(22, 23, 0, 100000), (23, 24, 0, 100000), (25, 65, 0, 100000), (66, 106, 0, 100000), (107, 147, 0, 100000), (148, 188, 0, 100000), (189, 195, 0, 100000), (900, 901, 4, 5), (900, 901, 5, 6), (900, 901, 6, 7), (901, 902, 0, 100000), (997, 1005, 0, 100000), (1006, 1014, 0, 100000)]
abbrev Q_tu_takeTurn__w (S : sS) (action : Int) (noun : Int) : pst := fun r S1 => HI S1 ∧ FR md_tu_takeTurn__w S S1 ∧ (∃ z : Int, r = some (iv z) ∧ (0 ≤ z ∧ z ≤ 5) ∧ (TX S1) ∧ ((S1, z) = ttC S action noun))
set_option maxRecDepth 100000 in
theorem t_tu_takeTurn__w {S : sS} (hH : HI S) (action : Int) (noun : Int) (haction : 0 ≤ action ∧ action ≤ 11) (hnoun : -1 ≤ noun ∧ noun ≤ 23) (hn : Xi S 19 action.toNat ≠ -1 → 0 ≤ noun) (hg : Xi S 19 action.toNat = -2 → noun ≤ 5) (hX : TX S) (hD : DEF S) (hR : RUL S) (hO : ORD S) (hA : AK S) (cw : CW S) (d : Nat) : Mt lay0 (d + 57) m_tu_takeTurn [.ref 900, iv action, iv noun] S (Q_tu_takeTurn__w S action noun) := by
  refine Mt_R rfl rfl ?_
  have hF : FR md_tu_takeTurn__w S S := FR.rf
  have w1 : 0 ≤ Xi S 900 6 ∧ Xi S 900 6 ≤ 1 := hH.c _ _
  have C34 : ∀  (T1 : sS) (_ : HI T1) (_ : FR md_tu_takeTurn__w S T1) (v3 : Int), (0 ≤ v3 ∧ v3 ≤ 5) → (TX T1) → ((Xi T1 900 6 ≠ 0 → (T1, (5 : Int)) = ttC S action noun) ∧ (Xi T1 900 6 = 0 → (T1, v3) = ttC S action noun)) → Rl lay0 (d + 56) m_tu_takeTurn 34 [(0, .ref 900), (3, iv v3)] [] T1 (Q_tu_takeTurn__w S action noun) := by
    intro T1 hHT1 hFT1 v3 w2 hX34 f34
    have w3 : 0 ≤ Xi T1 900 6 ∧ Xi T1 900 6 ≤ 1 := hHT1.c _ _
    refine l_aload_n rfl rfl ?_
    refine l_gfi rfl rfl rfl rfl rfl ?_
    refine l_if_eq rfl rfl (by unfold rg; omega) (fun w4 => ?_) (fun w5 => ?_)
    · refine l_iload_n rfl rfl ?_
      refine l_ireturn rfl rfl ?_
      exact ⟨hHT1, hFT1, _, rfl, ⟨by omega, by omega⟩, (by first | assumption | exact TX_FR hFT1 rfl hX), (by first | exact f34.1 (by omega) | exact f34.2 (by omega))⟩
    · refine l_iconst rfl ?_
      refine l_goto rfl rfl ?_
      refine l_ireturn rfl rfl ?_
      exact ⟨hHT1, hFT1, _, rfl, ⟨by omega, by omega⟩, (by first | assumption | exact TX_FR hFT1 rfl hX), (by first | exact f34.1 (by omega) | exact f34.2 (by omega))⟩
  refine l_aload_n rfl rfl ?_
  refine l_iconst rfl ?_
  refine l_pfi rfl rfl rfl rfl ?_
  obtain ⟨U2, eU2⟩ : ∃ T : sS, T = uI S 900 5 (Int32.ofInt 0) := ⟨_, rfl⟩
  rw [← eU2]
  have hHU2 : HI U2 := by rw [eU2]; exact HI_w hH (show 0 ≤ 0 by omega) (show 0 ≤ 301 by omega)
  have hFU2 : FR md_tu_takeTurn__w S U2 := by rw [eU2]; exact FR.wI hF (mdf_i (r := (900, 901, 5, 6)) (List.mem_of_getElem? (i := 8) rfl) (inR_i (by omega) (by omega) (by omega) (by omega)))
  have w6 : Xi U2 900 5 = 0 := by rw [eU2]; exact Xi_same (by unfold rg; omega)
  have hXw1 : TX U2 := TX_w eU2 rfl (by assumption)
  refine l_aload_n rfl rfl ?_
  refine l_iconst rfl ?_
  refine l_pfz rfl rfl rfl rfl (by omega) ?_
  obtain ⟨U3, eU3⟩ : ∃ T : sS, T = uI U2 900 6 (Int32.ofInt 0) := ⟨_, rfl⟩
  rw [← eU3]
  have hHU3 : HI U3 := by rw [eU3]; exact HI_w hHU2 (show 0 ≤ 0 by omega) (show 0 ≤ 1 by omega)
  have hFU3 : FR md_tu_takeTurn__w S U3 := by rw [eU3]; exact FR.wI hFU2 (mdf_i (r := (900, 901, 6, 7)) (List.mem_of_getElem? (i := 9) rfl) (inR_i (by omega) (by omega) (by omega) (by omega)))
  have w7 : Xi U3 900 6 = 0 := by rw [eU3]; exact Xi_same (by unfold rg; omega)
  have hXw2 : TX U3 := TX_w eU3 rfl (by assumption)
  have I7 : U3 = ttI S := by rw [eU3, eU2]; rfl
  refine l_aload_n rfl rfl ?_
  refine l_iload_n rfl rfl ?_
  refine l_iload_n rfl rfl ?_
  refine l_iconst rfl ?_
  have w8 : Xi U3 900 5 = Xi U2 900 5 := (show Xi U3 900 5 = Xi U2 900 5 from by rw [eU3]; exact Xi_ne (by omega))
  have w9 : 0 ≤ Xi U2 900 5 ∧ Xi U2 900 5 ≤ 301 := hHU2.c _ _
  have w10 : 0 ≤ Xi U3 900 6 ∧ Xi U3 900 6 ≤ 1 := hHU3.c _ _
  refine l_callV rfl rfl rfl (t_tu_doAction__w hHU3 action noun 1 ⟨by omega, by omega⟩ ⟨by omega, by omega⟩ ⟨by omega, by omega⟩ (by rw [(hFU3.cx 19 rfl _).1]; exact hn) (by rw [(hFU3.cx 19 rfl _).1]; exact hg) (by first | assumption | exact TX_FR hFU3 rfl hX) (by first | assumption | exact DEF_FR hH hFU3 rfl rfl hD) (by first | assumption | exact RUL_FR hH hFU3 rfl rfl hR) (by first | assumption | exact ORD_FR hFU3 rfl hO) (by first | assumption | exact AK_FR hFU3 rfl hA) (by first | assumption | omega) (CW_FR hFU3 rfl rfl cw) _) ?_
  rintro _ T4 ⟨hHT4, w14, z13, rfl, w13, w11, w12, f14⟩
  have hFT4 : FR md_tu_takeTurn__w S T4 := FR.tr hFU3 w14 rfl
  show Rl _ _ _ _ _ [iv z13] _ _
  have F14 := f14
  refine l_istore_n rfl rfl rfl ?_
  refine l_aload_n rfl rfl ?_
  refine l_gfi rfl rfl rfl rfl rfl ?_
  have w15 : 0 ≤ (Xi T4 900 6) ∧ (Xi T4 900 6) ≤ 1 := hHT4.c _ _
  refine l_if_ne rfl rfl (by unfold rg; omega) (fun w16 => ?_) (fun w17 => ?_)
  · have w18 : 0 ≤ Xi T4 900 6 ∧ Xi T4 900 6 ≤ 1 := hHT4.c _ _
    exact Rl_weak (C34 T4 hHT4 hFT4 (z13) (by omega) (by first | assumption | exact (by first | assumption | exact (by assumption : WI T4).2.1 : TX T4)) (by first | (have t := K30; exact ⟨fun q => tt_b I7 F14 (by omega) F30 (Or.inl ⟨q, rfl⟩), fun q => tt_b I7 F14 (by omega) F30 (Or.inr ⟨q, rfl⟩)⟩) | exact ⟨fun q => tt_a I7 F14 q rfl, fun q => absurd q (by omega)⟩)) (And.intro rfl (And.intro rfl (True.intro)))
  · refine l_aload_n rfl rfl ?_
    refine l_iconst rfl ?_
    refine l_iconst rfl ?_
    refine l_iconst rfl ?_
    refine l_iconst rfl ?_
    have w19 : 0 ≤ Xi T4 900 5 ∧ Xi T4 900 5 ≤ 301 := hHT4.c _ _
    have w20 : 0 ≤ Xi T4 900 6 ∧ Xi T4 900 6 ≤ 1 := hHT4.c _ _
    refine l_callV rfl rfl rfl (t_tu_runRules__w hHT4 3 (-1) (-1) 0 ⟨by omega, by omega⟩ ⟨by omega, by omega⟩ ⟨by omega, by omega⟩ ⟨by omega, by omega⟩ (fun h => absurd h (by decide)) (by first | assumption | exact TX_FR hFT4 rfl hX) (by first | assumption | exact DEF_FR hH hFT4 rfl rfl hD) (by first | assumption | exact RUL_FR hH hFT4 rfl rfl hR) (by first | assumption | exact ORD_FR hFT4 rfl hO) (by first | assumption | exact AK_FR hFT4 rfl hA) (by first | assumption | omega) (CW_FR hFT4 rfl rfl cw) _) ?_
    rintro _ T5 ⟨hHT5, w24, z23, rfl, w23, w21, w22, f30⟩
    have hFT5 : FR md_tu_takeTurn__w S T5 := FR.tr hFT4 w24 rfl
    show Rl _ _ _ _ _ [iv z23] _ _
    have K30 : True := trivial
    have F30 := f30
    refine l_pop rfl rfl ?_
    have w25 : 0 ≤ Xi T5 900 6 ∧ Xi T5 900 6 ≤ 1 := hHT5.c _ _
    exact Rl_weak (C34 T5 hHT5 hFT5 (z13) (by omega) (by first | assumption | exact (by first | assumption | exact (by assumption : WI T5).2.1 : TX T5)) (by first | (have t := K30; exact ⟨fun q => tt_b I7 F14 (by omega) F30 (Or.inl ⟨q, rfl⟩), fun q => tt_b I7 F14 (by omega) F30 (Or.inr ⟨q, rfl⟩)⟩) | exact ⟨fun q => tt_a I7 F14 q rfl, fun q => absurd q (by omega)⟩)) (And.intro rfl (And.intro rfl (True.intro)))
end
section
/-! TURNS of the reference -/
abbrev HLD (S : sS) (o : Int) : Prop := (Xi S 919 o.toNat = 4 ∨ Xi S 919 o.toNat = 5) ∧ Xi S 920 o.toNat = 0
/-- what the class writes, said of its page -/
theorem oup_w {S : sS} {b : Int} (h : 0 ≤ Xi S 900 4 ∧ Xi S 900 4 ≤ 2000) : OUP 901 900 4 S (wrU S b) [b] := by
  unfold wrU
  by_cases q : Xi S 900 4 < 2000
  · rw [if_pos q]
    have t := bmod_c (x := b)
    exact oup_1 (by omega) ⟨h.1, q⟩ rfl (by unfold rg; omega) rfl rfl
  · rw [if_neg q]; exact oup_f (by omega) h.2
theorem oup_n {c k f : Nat} {S T : sS} {L : List Int} (h : 0 ≤ Xi S k f ∧ Xi S k f ≤ 2000) (o : OUP c k f S T L) : 0 ≤ Xi T k f ∧ Xi T k f ≤ 2000 := by
  have := o.1
  omega
theorem oup_l : ∀ (L : List Int) {S : sS}, 0 ≤ Xi S 900 4 ∧ Xi S 900 4 ≤ 2000 → OUP 901 900 4 S (wlF S L) L
  | [], S, h => oup_0 h
  | b :: L, S, h => by
    have t := oup_w (b := b) h
    have u := oup_l L (S := wrU S b) (oup_n h t)
    exact oup_tr h t u
/-- both write the same -/
theorem eqo_l {U S S1 : sS} {L : List Int} (h : EQO U S) (b : OUP 993 904 156 S S1 L) : EQO (wlF U L) S1 := eqo_w h (oup_l L h.1.2) b
/-- moved -/
def mhX (S : sS) (b : Int) : Int := if mhR S 1 (Xi S 918 b.toNat) ≠ 0 then 1 else if mhR S 2 (Xi S 918 b.toNat) ≠ 0 then 2 else if mhR S 4 (Xi S 918 b.toNat) ≠ 0 then 4 else 3
def mvR (S : sS) (a b : Int) : sS := if blR S (Xi S 918 a.toNat) 0 = 0 ∨ wiR S b a ≠ 0 then S else uI (uI S 919 a.toNat (Int32.ofInt (mhX S b))) 920 a.toNat (Int32.ofInt b)
theorem mvr_0 {S : sS} {a b : Int} (h : blR S (Xi S 918 a.toNat) 0 = 0 ∨ wiR S b a ≠ 0) : S = mvR S a b := by unfold mvR; rw [if_pos h]
theorem mvr_1 {S T U : sS} {a b v : Int} (h : blR S (Xi S 918 a.toNat) 0 ≠ 0) (g : wiR S b a = 0) (hv : v = mhX S b) (e1 : T = uI S 919 a.toNat (Int32.ofInt v)) (e2 : U = uI T 920 a.toNat (Int32.ofInt b)) : U = mvR S a b := by
  unfold mvR; rw [if_neg (by omega), e2, e1, hv]

def md_mo_putNumber__q : List rec := [(904, 905, 156, 157), (993, 994, 0, 100000)]
abbrev Q_mo_putNumber__q (S : sS) (x : Int) : pst := fun r S1 => HI S1 ∧ FR md_mo_putNumber__q S S1 ∧ (r = none ∧ (NMZ (fun L => OUP 993 904 156 S S1 L) x))
set_option maxRecDepth 100000 in
theorem t_mo_putNumber__q {S : sS} (hH : HI S) (x : Int) (hx : -2147483648 ≤ x ∧ x ≤ 2147483647) (hd : Xi S 904 157 = 0) (d : Nat) : Mt lay0 (d + 2) m_mo_putNumber [.ref 904, iv x] S (Q_mo_putNumber__q S x) := by
  refine Mt_R rfl rfl ?_
  have hF : FR md_mo_putNumber__q S S := FR.rf
  have w1 : 0 ≤ Xi S 904 157 ∧ Xi S 904 157 ≤ 1 := hH.c _ _
  have hO : 0 ≤ Xi S 904 156 ∧ Xi S 904 156 ≤ 2000 := hH.c _ _
  have C10 : ∀  (T1 : sS) (_ : HI T1) (_ : FR md_mo_putNumber__q S T1), (OUP 993 904 156 S T1 (sgL x)) → Rl lay0 (d + 1) m_mo_putNumber 10 [(0, .ref 904), (1, iv x)] [] T1 (Q_mo_putNumber__q S x) := by
    intro T1 hHT1 hFT1 n10
    have w2 : Xi T1 904 157 = Xi S 904 157 := hFT1.x _ _ rfl
    have C17 : ∀ (n17 : Nat) (v2 : Int) (v3 : Int), (-2147483648 ≤ v2 ∧ v2 ≤ 2147483647) → (0 ≤ v3 ∧ v3 ≤ 2147483647) → (1 ≤ v3) → (NM1 (fun L => OUP 993 904 156 S T1 L) x v2 v3) → ((0 ≤ x → v2 = x) ∧ (x < 0 → -2147483648 < x → v2 = -x) ∧ (x = -2147483648 → v2 = -2147483648)) → (x = -2147483648 → v3 ≤ 1) → n17 = (2147483648 - v3).toNat → Rl lay0 (d + 1) m_mo_putNumber 17 [(0, .ref 904), (2, iv v2), (3, iv v3)] [] T1 (Q_mo_putNumber__q S x) := by
      intro n17
      induction n17 using Nat.strongRecOn with
      | ind n17 ih17 =>
        intro v2 v3 w3 w4 w5 n17 w6 w7 hm17
        have C33 : ∀ (n33 : Nat) (T2 : sS) (_ : HI T2) (_ : FR md_mo_putNumber__q S T2) (v2 : Int) (v3 : Int), (-2147483648 ≤ v2 ∧ v2 ≤ 2147483647) → (0 ≤ v3 ∧ v3 ≤ 2147483647) → (0 ≤ v3) → (NMJ (fun L => OUP 993 904 156 S T2 L) x v2 v3) → ((0 ≤ x → v2 = x) ∧ (x < 0 → -2147483648 < x → v2 = -x) ∧ (x = -2147483648 → v2 = -2147483648)) → (x = -2147483648 → v3 ≤ 1) → n33 = (v3).toNat → Rl lay0 (d + 1) m_mo_putNumber 33 [(0, .ref 904), (2, iv v2), (3, iv v3)] [] T2 (Q_mo_putNumber__q S x) := by
          intro n33
          induction n33 using Nat.strongRecOn with
          | ind n33 ih33 =>
            intro T2 hHT2 hFT2 v2 v3 w8 w9 w10 n33 w11 w12 hm33
            have w13 : Xi T2 904 157 = Xi S 904 157 := hFT2.x _ _ rfl
            refine l_iload_n rfl rfl ?_
            refine l_if_le rfl rfl (by unfold rg; omega) (fun w14 => ?_) (fun w15 => ?_)
            · refine l_return rfl rfl ?_
              exact ⟨hHT2, hFT2, rfl, (nmi_e n33 (by omega))⟩
            · refine l_aload_n rfl rfl ?_
              refine l_bipush rfl rfl ?_
              refine l_iload_n rfl rfl ?_
              refine l_iload_n rfl rfl ?_
              refine l_idivE rfl (by omega) (by unfold rg; omega) (by unfold rg; omega) (fun c16 w16 w16b w16c w16d => ?_)
              have d42 : 0 ≤ v2 → 0 ≤ v2 / v3 := fun h => Int.ediv_nonneg h (by omega)
              refine l_bipush rfl rfl ?_
              refine l_iremE rfl (by omega) (by unfold rg; omega) (by unfold rg; omega) (fun c17 w17 w17b w17c w17d => ?_)
              refine l_iaddE rfl (fun c18 w18 w18d => ?_)
              have w19 : 0 ≤ Xi T2 904 157 ∧ Xi T2 904 157 ≤ 1 := hHT2.c _ _
              refine l_callV rfl rfl rfl (t_mo_put__q hHT2 c18 ⟨by omega, by omega⟩ _) ?_
              rintro _ T3 ⟨hHT3, w22, rfl, o47, w20⟩
              have hFT3 : FR md_mo_putNumber__q S T3 := FR.tr hFT2 w22 rfl
              show Rl _ _ _ _ _ [] _ _
              have N47 : NMJ (fun L => OUP 993 904 156 S T3 L) x v2 (v3 / 10) := nmi_s n33 (by omega) (fun q => by omega) (fun q => by omega) rfl (fun L h => oup_tr hO h (o47 (by rw [hFT2.x 904 157 rfl]; exact hd)))
              refine l_iload_n rfl rfl ?_
              refine l_bipush rfl rfl ?_
              refine l_idivE rfl (by omega) (by unfold rg; omega) (by unfold rg; omega) (fun c23 w23 w23b w23c w23d => ?_)
              refine l_istore_n rfl rfl rfl ?_
              refine l_goto rfl rfl ?_
              exact Rl_weak (ih33 _ (by omega) T3 hHT3 hFT3 (v2) (c23) (by omega) (by omega) (by omega) (by first | exact nmi_w N47 (by omega) | exact nm1_g n17 (fun q h => by omega)) (by omega) (by omega) rfl) (And.intro rfl (And.intro rfl (And.intro rfl (True.intro))))
        refine l_iload_n rfl rfl ?_
        refine l_iload_n rfl rfl ?_
        refine l_idivE rfl (by omega) (by unfold rg; omega) (by unfold rg; omega) (fun c24 w24 w24b w24c w24d => ?_)
        have d19 : 9 < c24 → v3 * 10 ≤ v2 := fun q => div9 (by omega) (by assumption : 0 ≤ v2 → c24 = v2 / v3) (by assumption : v2 < 0 → v2 ≤ c24 ∧ c24 ≤ 0) q
        refine l_bipush rfl rfl ?_
        refine l_icmp_le rfl rfl (by unfold rg; omega) (by unfold rg; omega) (fun w25 => ?_) (fun w26 => ?_)
        · exact Rl_weak (C33 _ T1 hHT1 hFT1 (v2) (v3) (by omega) (by omega) (by omega) (by first | exact nmi_w N47 (by omega) | exact nm1_g n17 (fun q h => by omega)) (by omega) (by omega) rfl) (And.intro rfl (And.intro rfl (And.intro rfl (True.intro))))
        · refine l_iload_n rfl rfl ?_
          refine l_bipush rfl rfl ?_
          refine l_imul rfl ?_
          refine l_istore_n rfl rfl rfl ?_
          refine l_goto rfl rfl ?_
          exact Rl_weak (ih17 _ (by omega) (v2) ((v3 * 10)) (by omega) (by omega) (by omega) (by first | exact nm1_s n17 (by omega) (by omega) | exact nm1_0 n10 (by omega) (by omega) (by omega) (by omega)) (by omega) (by omega) rfl) (And.intro rfl (And.intro rfl (And.intro rfl (True.intro))))
    refine l_iload_n rfl rfl ?_
    refine l_absE rfl rfl rfl (by unfold rg; omega) (fun c27 w27 w27b w27c w27d => ?_)
    refine l_istore_n rfl rfl rfl ?_
    refine l_iconst rfl ?_
    refine l_istore_n rfl rfl rfl ?_
    exact Rl_weak (C17 _ (c27) (1) (by omega) (by omega) (by omega) (by first | exact nm1_s n17 (by omega) (by omega) | exact nm1_0 n10 (by omega) (by omega) (by omega) (by omega)) (by omega) (by omega) rfl) (And.intro rfl (And.intro rfl (And.intro rfl (True.intro))))
  refine l_iload_n rfl rfl ?_
  refine l_if_ge rfl rfl (by unfold rg; omega) (fun w28 => ?_) (fun w29 => ?_)
  · exact Rl_weak (C10 S hH hF  (by first | exact N7 | (unfold sgL; rw [if_neg (by omega)]; exact oup_0 hO))) (And.intro rfl (And.intro rfl (True.intro)))
  · refine l_aload_n rfl rfl ?_
    refine l_bipush rfl rfl ?_
    refine l_callV rfl rfl rfl (t_mo_put__q hH 45 ⟨by omega, by omega⟩ _) ?_
    rintro _ T4 ⟨hHT4, w33, rfl, o7, w31⟩
    have hFT4 : FR md_mo_putNumber__q S T4 := FR.tr hF w33 rfl
    show Rl _ _ _ _ _ [] _ _
    have N7 : OUP 993 904 156 S T4 (sgL x) := by unfold sgL; rw [if_pos (by omega)]; exact o7 hd
    exact Rl_weak (C10 T4 hHT4 hFT4  (by first | exact N7 | (unfold sgL; rw [if_neg (by omega)]; exact oup_0 hO))) (And.intro rfl (And.intro rfl (True.intro)))
abbrev Q_mo_isHeld__q (S : sS) (o : Int) : pst := fun r S1 => S = S1 ∧ (∃ z : Int, r = some (iv z) ∧ (0 ≤ z ∧ z ≤ 1) ∧ ((z = 1 → HLD S o) ∧ (z = 0 → ¬ HLD S o)))
set_option maxRecDepth 100000 in
theorem t_mo_isHeld__q {S : sS} (hH : HI S) (o : Int) (ho : 0 ≤ o ∧ o ≤ 23) (d : Nat) : Mt lay0 (d + 1) m_mo_isHeld [.ref 904, iv o] S (Q_mo_isHeld__q S o) := by
  refine Mt_R rfl rfl ?_
  refine l_aload_n rfl rfl ?_
  refine l_gfr rfl rfl rfl rfl rfl (hH.r 904 21 919 rfl) ?_
  refine l_iload_n rfl rfl ?_
  refine l_iaload (n := 24) rfl rfl (by omega) (by omega) (by unfold rg; omega) ?_
  have w1 : 0 ≤ (Xi S 919 ((o).toNat)) ∧ (Xi S 919 ((o).toNat)) ≤ 5 := hH.c _ _
  refine l_iconst rfl ?_
  refine l_icmp_eq rfl rfl (by unfold rg; omega) (by unfold rg; omega) (fun w2 => ?_) (fun w3 => ?_)
  · refine l_aload_n rfl rfl ?_
    refine l_gfr rfl rfl rfl rfl rfl (hH.r 904 22 920 rfl) ?_
    refine l_iload_n rfl rfl ?_
    refine l_iaload (n := 24) rfl rfl (by omega) (by omega) (by unfold rg; omega) ?_
    have w4 : -1 ≤ (Xi S 920 ((o).toNat)) ∧ (Xi S 920 ((o).toNat)) ≤ 23 := hH.c _ _
    refine l_if_ne rfl rfl (by unfold rg; omega) (fun w5 => ?_) (fun w6 => ?_)
    · refine l_iconst rfl ?_
      refine l_ireturn rfl rfl ?_
      exact ⟨rfl, _, rfl, ⟨by omega, by omega⟩, (by omega)⟩
    · refine l_iconst rfl ?_
      refine l_goto rfl rfl ?_
      refine l_ireturn rfl rfl ?_
      exact ⟨rfl, _, rfl, ⟨by omega, by omega⟩, (by omega)⟩
  · refine l_aload_n rfl rfl ?_
    refine l_gfr rfl rfl rfl rfl rfl (hH.r 904 21 919 rfl) ?_
    refine l_iload_n rfl rfl ?_
    refine l_iaload (n := 24) rfl rfl (by omega) (by omega) (by unfold rg; omega) ?_
    refine l_iconst rfl ?_
    refine l_icmp_ne rfl rfl (by unfold rg; omega) (by unfold rg; omega) (fun w7 => ?_) (fun w8 => ?_)
    · refine l_iconst rfl ?_
      refine l_ireturn rfl rfl ?_
      exact ⟨rfl, _, rfl, ⟨by omega, by omega⟩, (by omega)⟩
    · refine l_aload_n rfl rfl ?_
      refine l_gfr rfl rfl rfl rfl rfl (hH.r 904 22 920 rfl) ?_
      refine l_iload_n rfl rfl ?_
      refine l_iaload (n := 24) rfl rfl (by omega) (by omega) (by unfold rg; omega) ?_
      have w9 : -1 ≤ (Xi S 920 ((o).toNat)) ∧ (Xi S 920 ((o).toNat)) ≤ 23 := hH.c _ _
      refine l_if_ne rfl rfl (by unfold rg; omega) (fun w10 => ?_) (fun w11 => ?_)
      · refine l_iconst rfl ?_
        refine l_ireturn rfl rfl ?_
        exact ⟨rfl, _, rfl, ⟨by omega, by omega⟩, (by omega)⟩
      · refine l_iconst rfl ?_
        refine l_goto rfl rfl ?_
        refine l_ireturn rfl rfl ?_
        exact ⟨rfl, _, rfl, ⟨by omega, by omega⟩, (by omega)⟩
abbrev Q_mo_isWithin__q (S : sS) (o : Int) (h : Int) : pst := fun r S1 => S = S1 ∧ (∃ z : Int, r = some (iv z) ∧ (0 ≤ z ∧ z ≤ 1) ∧ (z = wiR S o h))
set_option maxRecDepth 100000 in
theorem t_mo_isWithin__q {S : sS} (hH : HI S) (o : Int) (h : Int) (ho : -1 ≤ o ∧ o ≤ 23) (hh : -2147483648 ≤ h ∧ h ≤ 2147483647) (d : Nat) : Mt lay0 (d + 1) m_mo_isWithin [.ref 904, iv o, iv h] S (Q_mo_isWithin__q S o h) := by
  refine Mt_R rfl rfl ?_
  have C5 : ∀ (n5 : Nat) (v3 : Int) (v4 : Int), (-1 ≤ v3 ∧ v3 ≤ 23) → (0 ≤ v4 ∧ v4 ≤ 25) → (0 ≤ v4 ∧ v4 ≤ 25) → (wiR S o h = wiN S h (25 - v4).toNat v3) → n5 = (26 - v4).toNat → Rl lay0 (d + 0) m_mo_isWithin 5 [(0, .ref 904), (2, iv h), (3, iv v3), (4, iv v4)] [] S (Q_mo_isWithin__q S o h) := by
    intro n5
    induction n5 using Nat.strongRecOn with
    | ind n5 ih5 =>
      intro v3 v4 w1 w2 w3 h5 hm5
      refine l_iload rfl rfl ?_
      refine l_bipush rfl rfl ?_
      refine l_icmp_gt rfl rfl (by unfold rg; omega) (by unfold rg; omega) (fun w4 => ?_) (fun w5 => ?_)
      · refine l_iconst rfl ?_
        refine l_ireturn rfl rfl ?_
        exact ⟨rfl, _, rfl, ⟨by omega, by omega⟩, (by first | exact (h5.trans (wiN_f (by omega) (by omega) (by omega))).symm | exact (h5.trans (wiN_e (by omega))).symm)⟩
      · refine l_iload_n rfl rfl ?_
        refine l_iconst rfl ?_
        refine l_icmp_eq rfl rfl (by unfold rg; omega) (by unfold rg; omega) (fun w6 => ?_) (fun w7 => ?_)
        · refine l_iconst rfl ?_
          refine l_ireturn rfl rfl ?_
          exact ⟨rfl, _, rfl, ⟨by omega, by omega⟩, (by first | exact (h5.trans (wiN_f (by omega) (by omega) (by omega))).symm | exact (h5.trans (wiN_e (by omega))).symm)⟩
        · refine l_iload_n rfl rfl ?_
          refine l_iload_n rfl rfl ?_
          refine l_icmp_ne rfl rfl (by unfold rg; omega) (by unfold rg; omega) (fun w8 => ?_) (fun w9 => ?_)
          · refine l_aload_n rfl rfl ?_
            refine l_gfr rfl rfl rfl rfl rfl (hH.r 904 21 919 rfl) ?_
            refine l_iload_n rfl rfl ?_
            refine l_iaload (n := 24) rfl rfl (by omega) (by omega) (by unfold rg; omega) ?_
            have w10 : 0 ≤ (Xi S 919 ((v3).toNat)) ∧ (Xi S 919 ((v3).toNat)) ≤ 5 := hH.c _ _
            refine l_if_ne rfl rfl (by unfold rg; omega) (fun w11 => ?_) (fun w12 => ?_)
            · refine l_aload_n rfl rfl ?_
              refine l_gfr rfl rfl rfl rfl rfl (hH.r 904 22 920 rfl) ?_
              refine l_iload_n rfl rfl ?_
              refine l_iaload (n := 24) rfl rfl (by omega) (by omega) (by unfold rg; omega) ?_
              have w13 : -1 ≤ (Xi S 920 ((v3).toNat)) ∧ (Xi S 920 ((v3).toNat)) ≤ 23 := hH.c _ _
              refine l_istore_n rfl rfl rfl ?_
              refine l_iinc rfl rfl rfl rfl ?_
              have J43 : wiR S o h = wiN S h (25 - (v4 + 1)).toNat (Xi S 920 ((v3).toNat)) := by have t := h5.trans (wiN_s (by omega) (by omega) (by omega)); first | (rw [if_pos (by omega)] at t; exact t) | (rw [if_neg (by omega)] at t; exact t)
              refine l_goto rfl rfl ?_
              exact Rl_weak (ih5 _ (by omega) ((Xi S 920 ((v3).toNat))) ((v4 + 1)) (by omega) (by omega) (by omega) (by first | (have t := J43; exact J43) | rfl) rfl) (And.intro rfl (And.intro rfl (And.intro rfl (And.intro rfl (True.intro)))))
            · refine l_iconst rfl ?_
              refine l_goto rfl rfl ?_
              refine l_istore_n rfl rfl rfl ?_
              refine l_iinc rfl rfl rfl rfl ?_
              have J43 : wiR S o h = wiN S h (25 - (v4 + 1)).toNat (-1) := by have t := h5.trans (wiN_s (by omega) (by omega) (by omega)); first | (rw [if_pos (by omega)] at t; exact t) | (rw [if_neg (by omega)] at t; exact t)
              refine l_goto rfl rfl ?_
              exact Rl_weak (ih5 _ (by omega) ((-1)) ((v4 + 1)) (by omega) (by omega) (by omega) (by first | (have t := J43; exact J43) | rfl) rfl) (And.intro rfl (And.intro rfl (And.intro rfl (And.intro rfl (True.intro)))))
          · refine l_iconst rfl ?_
            refine l_ireturn rfl rfl ?_
            exact ⟨rfl, _, rfl, ⟨by omega, by omega⟩, (by first | exact (h5.trans (wiN_f (by omega) (by omega) (by omega))).symm | exact (h5.trans (wiN_e (by omega))).symm)⟩
  refine l_iload_n rfl rfl ?_
  refine l_istore_n rfl rfl rfl ?_
  refine l_iconst rfl ?_
  refine l_istore rfl rfl rfl ?_
  exact Rl_weak (C5 _ (o) (0) (by omega) (by omega) (by omega) (by first | (have t := J43; exact J43) | rfl) rfl) (And.intro rfl (And.intro rfl (And.intro rfl (And.intro rfl (True.intro)))))
abbrev Q_mo_kindOfWay__q (S : sS) (m : Int) : pst := fun r S1 => S = S1 ∧ (∃ z : Int, r = some (iv z) ∧ (0 ≤ z ∧ z ≤ 4) ∧ (z = kwR m))
set_option maxRecDepth 100000 in
theorem t_mo_kindOfWay__q {S : sS} (hH : HI S) (m : Int) (hm : -2147483648 ≤ m ∧ m ≤ 2147483647) (d : Nat) : Mt lay0 (d + 1) m_mo_kindOfWay [iv m] S (Q_mo_kindOfWay__q S m) := by
  refine Mt_R rfl rfl ?_
  refine l_iload_n rfl rfl ?_
  refine l_iconst rfl ?_
  refine l_icmp_ne rfl rfl (by unfold rg; omega) (by unfold rg; omega) (fun w1 => ?_) (fun w2 => ?_)
  · refine l_iload_n rfl rfl ?_
    refine l_iconst rfl ?_
    refine l_icmp_ne rfl rfl (by unfold rg; omega) (by unfold rg; omega) (fun w3 => ?_) (fun w4 => ?_)
    · refine l_iconst rfl ?_
      refine l_ireturn rfl rfl ?_
      exact ⟨rfl, _, rfl, ⟨by omega, by omega⟩, (by unfold kwR; first | (rw [if_pos (by omega)]) | (rw [if_neg (by omega), if_pos (by omega)]) | (rw [if_neg (by omega), if_neg (by omega)]))⟩
    · refine l_iconst rfl ?_
      refine l_goto rfl rfl ?_
      refine l_ireturn rfl rfl ?_
      exact ⟨rfl, _, rfl, ⟨by omega, by omega⟩, (by unfold kwR; first | (rw [if_pos (by omega)]) | (rw [if_neg (by omega), if_pos (by omega)]) | (rw [if_neg (by omega), if_neg (by omega)]))⟩
  · refine l_iconst rfl ?_
    refine l_goto rfl rfl ?_
    refine l_ireturn rfl rfl ?_
    exact ⟨rfl, _, rfl, ⟨by omega, by omega⟩, (by unfold kwR; first | (rw [if_pos (by omega)]) | (rw [if_neg (by omega), if_pos (by omega)]) | (rw [if_neg (by omega), if_neg (by omega)]))⟩
abbrev Q_mo_mayHold__q (S : sS) (m : Int) (kind : Int) : pst := fun r S1 => S = S1 ∧ (∃ z : Int, r = some (iv z) ∧ (0 ≤ z ∧ z ≤ 1) ∧ (z = mhR S m kind))
set_option maxRecDepth 100000 in
theorem t_mo_mayHold__q {S : sS} (hH : HI S) (m : Int) (kind : Int) (hm : -2147483648 ≤ m ∧ m ≤ 2147483647) (hkind : -1 ≤ kind ∧ kind ≤ 15) (hB : ABV S) (d : Nat) : Mt lay0 (d + 2) m_mo_mayHold [.ref 904, iv m, iv kind] S (Q_mo_mayHold__q S m kind) := by
  refine Mt_R rfl rfl ?_
  refine l_iload_n rfl rfl ?_
  refine l_iconst rfl ?_
  refine l_icmp_ne rfl rfl (by unfold rg; omega) (by unfold rg; omega) (fun w1 => ?_) (fun w2 => ?_)
  · refine l_aload_n rfl rfl ?_
    refine l_iload_n rfl rfl ?_
    refine l_iload_n rfl rfl ?_
    refine l_callS rfl rfl (by decide) rfl (t_mo_kindOfWay__q hH m ⟨by omega, by omega⟩ _) ?_
    rintro _ _ ⟨rfl, z3, rfl, w3, w34⟩
    show Rl _ _ _ _ _ [iv z3, iv kind, .ref 904] _ _
    refine l_callV rfl rfl rfl (t_mo_isBelow__2 hH kind z3 ⟨by omega, by omega⟩ ⟨by omega, by omega⟩ (by first | assumption | exact (by assumption : ABV S)) _) ?_
    rintro _ _ ⟨rfl, z5, rfl, w5, w4, w37⟩
    show Rl _ _ _ _ _ [iv z5] _ _
    refine l_ireturn rfl (retI_z (by omega)) ?_
    exact ⟨rfl, _, rfl, ⟨by omega, by omega⟩, (by unfold mhR; first | (rw [if_pos (by omega)]; first | (rw [if_pos (by omega)]) | (rw [if_neg (by omega)])) | (rw [if_neg (by omega)]; have t := w37; rw [w34] at t; exact t))⟩
  · refine l_aload_n rfl rfl ?_
    refine l_iload_n rfl rfl ?_
    refine l_iconst rfl ?_
    refine l_callV rfl rfl rfl (t_mo_isBelow__2 hH kind 1 ⟨by omega, by omega⟩ ⟨by omega, by omega⟩ (by first | assumption | exact (by assumption : ABV S)) _) ?_
    rintro _ _ ⟨rfl, z8, rfl, w8, w6, w7⟩
    show Rl _ _ _ _ _ [iv z8] _ _
    refine l_if_ne rfl rfl (by unfold rg; omega) (fun w9 => ?_) (fun w10 => ?_)
    · refine l_iconst rfl ?_
      refine l_goto rfl rfl ?_
      refine l_ireturn rfl rfl ?_
      exact ⟨rfl, _, rfl, ⟨by omega, by omega⟩, (by unfold mhR; first | (rw [if_pos (by omega)]; first | (rw [if_pos (by omega)]) | (rw [if_neg (by omega)])) | (rw [if_neg (by omega)]; have t := w37; rw [w34] at t; exact t))⟩
    · refine l_aload_n rfl rfl ?_
      refine l_iload_n rfl rfl ?_
      refine l_iconst rfl ?_
      refine l_callV rfl rfl rfl (t_mo_isBelow__2 hH kind 2 ⟨by omega, by omega⟩ ⟨by omega, by omega⟩ (by first | assumption | exact (by assumption : ABV S)) _) ?_
      rintro _ _ ⟨rfl, z13, rfl, w13, w11, w12⟩
      show Rl _ _ _ _ _ [iv z13] _ _
      refine l_if_eq rfl rfl (by unfold rg; omega) (fun w14 => ?_) (fun w15 => ?_)
      · refine l_iconst rfl ?_
        refine l_goto rfl rfl ?_
        refine l_ireturn rfl rfl ?_
        exact ⟨rfl, _, rfl, ⟨by omega, by omega⟩, (by unfold mhR; first | (rw [if_pos (by omega)]; first | (rw [if_pos (by omega)]) | (rw [if_neg (by omega)])) | (rw [if_neg (by omega)]; have t := w37; rw [w34] at t; exact t))⟩
      · refine l_iconst rfl ?_
        refine l_goto rfl rfl ?_
        refine l_ireturn rfl rfl ?_
        exact ⟨rfl, _, rfl, ⟨by omega, by omega⟩, (by unfold mhR; first | (rw [if_pos (by omega)]; first | (rw [if_pos (by omega)]) | (rw [if_neg (by omega)])) | (rw [if_neg (by omega)]; have t := w37; rw [w34] at t; exact t))⟩
def md_mo_moves__q : List rec := [(919, 920, 0, 100000), (920, 921, 0, 100000)]
abbrev Q_mo_moves__q (S : sS) (a : Int) (b : Int) : pst := fun r S1 => HI S1 ∧ FR md_mo_moves__q S S1 ∧ (r = none ∧ (WYM S1) ∧ (S1 = mvR S a b))
set_option maxRecDepth 100000 in
theorem t_mo_moves__q {S : sS} (hH : HI S) (a : Int) (b : Int) (ha : 0 ≤ a ∧ a ≤ 23) (hb : 0 ≤ b ∧ b ≤ 23) (hB : ABV S) (hW : WYM S) (d : Nat) : Mt lay0 (d + 3) m_mo_moves [.ref 904, iv a, iv b] S (Q_mo_moves__q S a b) := by
  refine Mt_R rfl rfl ?_
  have hF : FR md_mo_moves__q S S := FR.rf
  refine l_aload_n rfl rfl ?_
  refine l_aload_n rfl rfl ?_
  refine l_gfr rfl rfl rfl rfl rfl (hH.r 904 20 918 rfl) ?_
  refine l_iload_n rfl rfl ?_
  refine l_iaload (n := 24) rfl rfl (by omega) (by omega) (by unfold rg; omega) ?_
  have w1 : 0 ≤ (Xi S 918 ((a).toNat)) ∧ (Xi S 918 ((a).toNat)) ≤ 15 := hH.c _ _
  refine l_iconst rfl ?_
  refine l_callV rfl rfl rfl (t_mo_isBelow__2 hH (Xi S 918 ((a).toNat)) 0 ⟨by omega, by omega⟩ ⟨by omega, by omega⟩ (by first | assumption | exact (ABV_FR hF rfl (by assumption : ABV S))) _) ?_
  rintro _ _ ⟨rfl, z3, rfl, w3, w2, f8⟩
  show Rl _ _ _ _ _ [iv z3] _ _
  refine l_if_eq rfl rfl (by unfold rg; omega) (fun w4 => ?_) (fun w5 => ?_)
  · refine l_return rfl rfl ?_
    exact ⟨hH, hF, rfl, (by first | assumption | exact wym_w  rfl (fun _ => by rw [rfl, Xi_same (by unfold rg; omega)]; omega) hW), (by first | exact mvr_1 (by rw [← f8]; omega) (by rw [← f17]; omega) (by unfold mhX; first | (rw [if_pos (by rw [← w37]; omega)]) | (rw [if_neg (by rw [← w37]; omega), if_pos (by rw [← w55]; omega)]) | (rw [if_neg (by rw [← w37]; omega), if_neg (by rw [← w55]; omega), if_pos (by rw [← w73]; omega)]) | (rw [if_neg (by rw [← w37]; omega), if_neg (by rw [← w55]; omega), if_neg (by rw [← w73]; omega)]))  rfl | exact mvr_0 m23 | exact mvr_0 (Or.inl (by rw [← f8]; omega)) | exact mvr_0 (Or.inr (by rw [← f17]; omega)))⟩
  · refine l_aload_n rfl rfl ?_
    refine l_iload_n rfl rfl ?_
    refine l_iload_n rfl rfl ?_
    refine l_callV rfl rfl rfl (t_mo_isWithin__q hH b a ⟨by omega, by omega⟩ ⟨by omega, by omega⟩ _) ?_
    rintro _ _ ⟨rfl, z6, rfl, w6, f17⟩
    show Rl _ _ _ _ _ [iv z6] _ _
    refine l_if_eq rfl rfl (by unfold rg; omega) (fun w7 => ?_) (fun w8 => ?_)
    · refine l_aload_n rfl rfl ?_
      refine l_gfr rfl rfl rfl rfl rfl (hH.r 904 21 919 rfl) ?_
      refine l_iload_n rfl rfl ?_
      refine l_aload_n rfl rfl ?_
      refine l_iconst rfl ?_
      refine l_aload_n rfl rfl ?_
      refine l_gfr rfl rfl rfl rfl rfl (hH.r 904 20 918 rfl) ?_
      refine l_iload_n rfl rfl ?_
      refine l_iaload (n := 24) rfl rfl (by omega) (by omega) (by unfold rg; omega) ?_
      have w9 : 0 ≤ (Xi S 918 ((b).toNat)) ∧ (Xi S 918 ((b).toNat)) ≤ 15 := hH.c _ _
      refine l_callV rfl rfl rfl (t_mo_mayHold__q hH 1 (Xi S 918 ((b).toNat)) ⟨by omega, by omega⟩ ⟨by omega, by omega⟩ (by first | assumption | exact (ABV_FR hF rfl (by assumption : ABV S))) _) ?_
      rintro _ _ ⟨rfl, z10, rfl, w10, w37⟩
      show Rl _ _ _ _ _ [iv z10, iv a, .ref 919] _ _
      refine l_if_eq rfl rfl (by unfold rg; omega) (fun w11 => ?_) (fun w12 => ?_)
      · refine l_aload_n rfl rfl ?_
        refine l_iconst rfl ?_
        refine l_aload_n rfl rfl ?_
        refine l_gfr rfl rfl rfl rfl rfl (hH.r 904 20 918 rfl) ?_
        refine l_iload_n rfl rfl ?_
        refine l_iaload (n := 24) rfl rfl (by omega) (by omega) (by unfold rg; omega) ?_
        refine l_callV rfl rfl rfl (t_mo_mayHold__q hH 2 (Xi S 918 ((b).toNat)) ⟨by omega, by omega⟩ ⟨by omega, by omega⟩ (by first | assumption | exact (ABV_FR hF rfl (by assumption : ABV S))) _) ?_
        rintro _ _ ⟨rfl, z13, rfl, w13, w55⟩
        show Rl _ _ _ _ _ [iv z13, iv a, .ref 919] _ _
        refine l_if_eq rfl rfl (by unfold rg; omega) (fun w14 => ?_) (fun w15 => ?_)
        · refine l_aload_n rfl rfl ?_
          refine l_iconst rfl ?_
          refine l_aload_n rfl rfl ?_
          refine l_gfr rfl rfl rfl rfl rfl (hH.r 904 20 918 rfl) ?_
          refine l_iload_n rfl rfl ?_
          refine l_iaload (n := 24) rfl rfl (by omega) (by omega) (by unfold rg; omega) ?_
          refine l_callV rfl rfl rfl (t_mo_mayHold__q hH 4 (Xi S 918 ((b).toNat)) ⟨by omega, by omega⟩ ⟨by omega, by omega⟩ (by first | assumption | exact (ABV_FR hF rfl (by assumption : ABV S))) _) ?_
          rintro _ _ ⟨rfl, z16, rfl, w16, w73⟩
          show Rl _ _ _ _ _ [iv z16, iv a, .ref 919] _ _
          refine l_if_eq rfl rfl (by unfold rg; omega) (fun w17 => ?_) (fun w18 => ?_)
          · refine l_iconst rfl ?_
            refine l_iastore (n := 24) rfl rfl (by omega) (by omega) (by unfold rg; omega) ?_
            obtain ⟨U1, eU1⟩ : ∃ T : sS, T = uI S 919 ((a).toNat) (Int32.ofInt 3) := ⟨_, rfl⟩
            rw [← eU1]
            have hHU1 : HI U1 := by rw [eU1]; exact HI_w hH (show 0 ≤ 3 by omega) (show 3 ≤ 5 by omega)
            have hFU1 : FR md_mo_moves__q S U1 := by rw [eU1]; exact FR.wI hF (mdf_i (r := (919, 920, 0, 100000)) (List.mem_of_getElem? (i := 0) rfl) (inR_i (by omega) (by omega) (by omega) (by omega)))
            have w19 : Xi U1 919 ((a).toNat) = 3 := by rw [eU1]; exact Xi_same (by unfold rg; omega)
            refine l_aload_n rfl rfl ?_
            refine l_gfr rfl rfl rfl rfl rfl (hHU1.r 904 22 920 rfl) ?_
            refine l_iload_n rfl rfl ?_
            refine l_iload_n rfl rfl ?_
            refine l_iastore (n := 24) rfl rfl (by omega) (by omega) (by unfold rg; omega) ?_
            obtain ⟨U2, eU2⟩ : ∃ T : sS, T = uI U1 920 ((a).toNat) (Int32.ofInt b) := ⟨_, rfl⟩
            rw [← eU2]
            have hHU2 : HI U2 := by rw [eU2]; exact HI_w hHU1 (show -1 ≤ b by omega) (show b ≤ 23 by omega)
            have hFU2 : FR md_mo_moves__q S U2 := by rw [eU2]; exact FR.wI hFU1 (mdf_i (r := (920, 921, 0, 100000)) (List.mem_of_getElem? (i := 1) rfl) (inR_i (by omega) (by omega) (by omega) (by omega)))
            have w20 : Xi U2 920 ((a).toNat) = b := by rw [eU2]; exact Xi_same (by unfold rg; omega)
            refine l_return rfl rfl ?_
            exact ⟨hHU2, hFU2, rfl, (by first | assumption | exact wym_w eU1 eU2 (fun _ => by rw [eU2, Xi_same (by unfold rg; omega)]; omega) hW), (by first | exact mvr_1 (by rw [← f8]; omega) (by rw [← f17]; omega) (by unfold mhX; first | (rw [if_pos (by rw [← w37]; omega)]) | (rw [if_neg (by rw [← w37]; omega), if_pos (by rw [← w55]; omega)]) | (rw [if_neg (by rw [← w37]; omega), if_neg (by rw [← w55]; omega), if_pos (by rw [← w73]; omega)]) | (rw [if_neg (by rw [← w37]; omega), if_neg (by rw [← w55]; omega), if_neg (by rw [← w73]; omega)])) eU1 eU2 | exact mvr_0 m23 | exact mvr_0 (Or.inl (by rw [← f8]; omega)) | exact mvr_0 (Or.inr (by rw [← f17]; omega)))⟩
          · refine l_iconst rfl ?_
            refine l_goto rfl rfl ?_
            refine l_iastore (n := 24) rfl rfl (by omega) (by omega) (by unfold rg; omega) ?_
            obtain ⟨U3, eU3⟩ : ∃ T : sS, T = uI S 919 ((a).toNat) (Int32.ofInt 4) := ⟨_, rfl⟩
            rw [← eU3]
            have hHU3 : HI U3 := by rw [eU3]; exact HI_w hH (show 0 ≤ 4 by omega) (show 4 ≤ 5 by omega)
            have hFU3 : FR md_mo_moves__q S U3 := by rw [eU3]; exact FR.wI hF (mdf_i (r := (919, 920, 0, 100000)) (List.mem_of_getElem? (i := 0) rfl) (inR_i (by omega) (by omega) (by omega) (by omega)))
            have w21 : Xi U3 919 ((a).toNat) = 4 := by rw [eU3]; exact Xi_same (by unfold rg; omega)
            refine l_aload_n rfl rfl ?_
            refine l_gfr rfl rfl rfl rfl rfl (hHU3.r 904 22 920 rfl) ?_
            refine l_iload_n rfl rfl ?_
            refine l_iload_n rfl rfl ?_
            refine l_iastore (n := 24) rfl rfl (by omega) (by omega) (by unfold rg; omega) ?_
            obtain ⟨U4, eU4⟩ : ∃ T : sS, T = uI U3 920 ((a).toNat) (Int32.ofInt b) := ⟨_, rfl⟩
            rw [← eU4]
            have hHU4 : HI U4 := by rw [eU4]; exact HI_w hHU3 (show -1 ≤ b by omega) (show b ≤ 23 by omega)
            have hFU4 : FR md_mo_moves__q S U4 := by rw [eU4]; exact FR.wI hFU3 (mdf_i (r := (920, 921, 0, 100000)) (List.mem_of_getElem? (i := 1) rfl) (inR_i (by omega) (by omega) (by omega) (by omega)))
            have w22 : Xi U4 920 ((a).toNat) = b := by rw [eU4]; exact Xi_same (by unfold rg; omega)
            refine l_return rfl rfl ?_
            exact ⟨hHU4, hFU4, rfl, (by first | assumption | exact wym_w eU3 eU4 (fun _ => by rw [eU4, Xi_same (by unfold rg; omega)]; omega) hW), (by first | exact mvr_1 (by rw [← f8]; omega) (by rw [← f17]; omega) (by unfold mhX; first | (rw [if_pos (by rw [← w37]; omega)]) | (rw [if_neg (by rw [← w37]; omega), if_pos (by rw [← w55]; omega)]) | (rw [if_neg (by rw [← w37]; omega), if_neg (by rw [← w55]; omega), if_pos (by rw [← w73]; omega)]) | (rw [if_neg (by rw [← w37]; omega), if_neg (by rw [← w55]; omega), if_neg (by rw [← w73]; omega)])) eU3 eU4 | exact mvr_0 m23 | exact mvr_0 (Or.inl (by rw [← f8]; omega)) | exact mvr_0 (Or.inr (by rw [← f17]; omega)))⟩
        · refine l_iconst rfl ?_
          refine l_goto rfl rfl ?_
          refine l_iastore (n := 24) rfl rfl (by omega) (by omega) (by unfold rg; omega) ?_
          obtain ⟨U5, eU5⟩ : ∃ T : sS, T = uI S 919 ((a).toNat) (Int32.ofInt 2) := ⟨_, rfl⟩
          rw [← eU5]
          have hHU5 : HI U5 := by rw [eU5]; exact HI_w hH (show 0 ≤ 2 by omega) (show 2 ≤ 5 by omega)
          have hFU5 : FR md_mo_moves__q S U5 := by rw [eU5]; exact FR.wI hF (mdf_i (r := (919, 920, 0, 100000)) (List.mem_of_getElem? (i := 0) rfl) (inR_i (by omega) (by omega) (by omega) (by omega)))
          have w23 : Xi U5 919 ((a).toNat) = 2 := by rw [eU5]; exact Xi_same (by unfold rg; omega)
          refine l_aload_n rfl rfl ?_
          refine l_gfr rfl rfl rfl rfl rfl (hHU5.r 904 22 920 rfl) ?_
          refine l_iload_n rfl rfl ?_
          refine l_iload_n rfl rfl ?_
          refine l_iastore (n := 24) rfl rfl (by omega) (by omega) (by unfold rg; omega) ?_
          obtain ⟨U6, eU6⟩ : ∃ T : sS, T = uI U5 920 ((a).toNat) (Int32.ofInt b) := ⟨_, rfl⟩
          rw [← eU6]
          have hHU6 : HI U6 := by rw [eU6]; exact HI_w hHU5 (show -1 ≤ b by omega) (show b ≤ 23 by omega)
          have hFU6 : FR md_mo_moves__q S U6 := by rw [eU6]; exact FR.wI hFU5 (mdf_i (r := (920, 921, 0, 100000)) (List.mem_of_getElem? (i := 1) rfl) (inR_i (by omega) (by omega) (by omega) (by omega)))
          have w24 : Xi U6 920 ((a).toNat) = b := by rw [eU6]; exact Xi_same (by unfold rg; omega)
          refine l_return rfl rfl ?_
          exact ⟨hHU6, hFU6, rfl, (by first | assumption | exact wym_w eU5 eU6 (fun _ => by rw [eU6, Xi_same (by unfold rg; omega)]; omega) hW), (by first | exact mvr_1 (by rw [← f8]; omega) (by rw [← f17]; omega) (by unfold mhX; first | (rw [if_pos (by rw [← w37]; omega)]) | (rw [if_neg (by rw [← w37]; omega), if_pos (by rw [← w55]; omega)]) | (rw [if_neg (by rw [← w37]; omega), if_neg (by rw [← w55]; omega), if_pos (by rw [← w73]; omega)]) | (rw [if_neg (by rw [← w37]; omega), if_neg (by rw [← w55]; omega), if_neg (by rw [← w73]; omega)])) eU5 eU6 | exact mvr_0 m23 | exact mvr_0 (Or.inl (by rw [← f8]; omega)) | exact mvr_0 (Or.inr (by rw [← f17]; omega)))⟩
      · refine l_iconst rfl ?_
        refine l_goto rfl rfl ?_
        refine l_iastore (n := 24) rfl rfl (by omega) (by omega) (by unfold rg; omega) ?_
        obtain ⟨U7, eU7⟩ : ∃ T : sS, T = uI S 919 ((a).toNat) (Int32.ofInt 1) := ⟨_, rfl⟩
        rw [← eU7]
        have hHU7 : HI U7 := by rw [eU7]; exact HI_w hH (show 0 ≤ 1 by omega) (show 1 ≤ 5 by omega)
        have hFU7 : FR md_mo_moves__q S U7 := by rw [eU7]; exact FR.wI hF (mdf_i (r := (919, 920, 0, 100000)) (List.mem_of_getElem? (i := 0) rfl) (inR_i (by omega) (by omega) (by omega) (by omega)))
        have w25 : Xi U7 919 ((a).toNat) = 1 := by rw [eU7]; exact Xi_same (by unfold rg; omega)
        refine l_aload_n rfl rfl ?_
        refine l_gfr rfl rfl rfl rfl rfl (hHU7.r 904 22 920 rfl) ?_
        refine l_iload_n rfl rfl ?_
        refine l_iload_n rfl rfl ?_
        refine l_iastore (n := 24) rfl rfl (by omega) (by omega) (by unfold rg; omega) ?_
        obtain ⟨U8, eU8⟩ : ∃ T : sS, T = uI U7 920 ((a).toNat) (Int32.ofInt b) := ⟨_, rfl⟩
        rw [← eU8]
        have hHU8 : HI U8 := by rw [eU8]; exact HI_w hHU7 (show -1 ≤ b by omega) (show b ≤ 23 by omega)
        have hFU8 : FR md_mo_moves__q S U8 := by rw [eU8]; exact FR.wI hFU7 (mdf_i (r := (920, 921, 0, 100000)) (List.mem_of_getElem? (i := 1) rfl) (inR_i (by omega) (by omega) (by omega) (by omega)))
        have w26 : Xi U8 920 ((a).toNat) = b := by rw [eU8]; exact Xi_same (by unfold rg; omega)
        refine l_return rfl rfl ?_
        exact ⟨hHU8, hFU8, rfl, (by first | assumption | exact wym_w eU7 eU8 (fun _ => by rw [eU8, Xi_same (by unfold rg; omega)]; omega) hW), (by first | exact mvr_1 (by rw [← f8]; omega) (by rw [← f17]; omega) (by unfold mhX; first | (rw [if_pos (by rw [← w37]; omega)]) | (rw [if_neg (by rw [← w37]; omega), if_pos (by rw [← w55]; omega)]) | (rw [if_neg (by rw [← w37]; omega), if_neg (by rw [← w55]; omega), if_pos (by rw [← w73]; omega)]) | (rw [if_neg (by rw [← w37]; omega), if_neg (by rw [← w55]; omega), if_neg (by rw [← w73]; omega)])) eU7 eU8 | exact mvr_0 m23 | exact mvr_0 (Or.inl (by rw [← f8]; omega)) | exact mvr_0 (Or.inr (by rw [← f17]; omega)))⟩
    · refine l_return rfl rfl ?_
      exact ⟨hH, hF, rfl, (by first | assumption | exact wym_w  rfl (fun _ => by rw [rfl, Xi_same (by unfold rg; omega)]; omega) hW), (by first | exact mvr_1 (by rw [← f8]; omega) (by rw [← f17]; omega) (by unfold mhX; first | (rw [if_pos (by rw [← w37]; omega)]) | (rw [if_neg (by rw [← w37]; omega), if_pos (by rw [← w55]; omega)]) | (rw [if_neg (by rw [← w37]; omega), if_neg (by rw [← w55]; omega), if_pos (by rw [← w73]; omega)]) | (rw [if_neg (by rw [← w37]; omega), if_neg (by rw [← w55]; omega), if_neg (by rw [← w73]; omega)]))  rfl | exact mvr_0 m23 | exact mvr_0 (Or.inl (by rw [← f8]; omega)) | exact mvr_0 (Or.inr (by rw [← f17]; omega)))⟩
end
