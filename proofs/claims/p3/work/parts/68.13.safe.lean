/-! SAFETY of methods: printed by wip/safe (vc.py, decl.py) -/
def md_tu_doAction : List rec := [(22, 23, 0, 100000), (23, 24, 0, 100000), (25, 65, 0, 100000), (66, 106, 0, 100000), (107, 147, 0, 100000), (148, 188, 0, 100000), (189, 195, 0, 100000), (900, 901, 4, 5), (900, 901, 5, 6), (900, 901, 6, 7), (901, 902, 0, 100000)]
abbrev Q_tu_doAction (S : sS) (action : Int) (noun : Int) (dd : Int) : pst := fun r S1 => HI S1 ∧ FR md_tu_doAction S S1 ∧ (∃ z : Int, r = some (iv z) ∧ (0 ≤ z ∧ z ≤ 5) ∧ (TX S1) ∧ (Xi S1 900 6 = 0 → Xi S1 900 5 ≤ 300))
def md_tu_perform : List rec := [(22, 23, 0, 100000), (23, 24, 0, 100000), (25, 65, 0, 100000), (66, 106, 0, 100000), (107, 147, 0, 100000), (148, 188, 0, 100000), (189, 195, 0, 100000), (900, 901, 4, 5), (900, 901, 5, 6), (900, 901, 6, 7), (901, 902, 0, 100000)]
abbrev Q_tu_perform (S : sS) (cl : Nat) (noun : Int) (dq : Int) : pst := fun r S1 => HI S1 ∧ FR md_tu_perform S S1 ∧ (r = none ∧ (TX S1) ∧ (Xi S1 900 6 = 0 → Xi S1 900 5 ≤ 300))
set_option maxRecDepth 100000 in
theorem u_tu_perform {S : sS} (hH : HI S) (cl : Nat) (noun : Int) (dq : Int) (hcl : cl < 600) (hnoun : -1 ≤ noun ∧ noun ≤ 23) (hdq : 0 ≤ dq ∧ dq ≤ 8) (hk : CLok S (0 ≤ noun) cl) (hX : TX S) (hD : DEF S) (hR : RUL S) (hO : ORD S) (hA : AK S) (hE : Xi S 900 6 = 0 → Xi S 900 5 ≤ 300) (d : Nat) (hrec : ∀ {S : sS} (_ : HI S) (action : Int) (noun : Int) (dd : Int) (haction : 0 ≤ action ∧ action ≤ 11) (hnoun : -1 ≤ noun ∧ noun ≤ 23) (hdd : 0 ≤ dd ∧ dd ≤ 8) (hn : Xi S 19 action.toNat ≠ -1 → 0 ≤ noun) (hg : Xi S 19 action.toNat = -2 → noun ≤ 5) (hX : TX S) (hD : DEF S) (hR : RUL S) (hO : ORD S) (hA : AK S) (hE : Xi S 900 6 = 0 → Xi S 900 5 ≤ 300), (dq < 8 ∧ dd = dq + 1) → Mt lay0 (d + 29) m_tu_doAction [.ref 900, iv action, iv noun, iv dd] S (Q_tu_doAction S action noun dd)) : Mt lay0 (d + 30) m_tu_perform [.ref 900, .ref (276 + cl), iv noun, iv dq] S (Q_tu_perform S cl noun dq) := by
  refine Mt_R rfl rfl ?_
  have hF : FR md_tu_perform S S := FR.rf
  have w1 : 0 ≤ Xi S 900 5 ∧ Xi S 900 5 ≤ 301 := hH.c _ _
  have w2 : 0 ≤ Xi S 900 6 ∧ Xi S 900 6 ≤ 1 := hH.c _ _
  have hc8 : 0 ≤ Xi S 5 8 ∧ Xi S 5 8 ≤ 12 := hH.c _ _
  have hc3 : 0 ≤ Xi S 5 3 ∧ Xi S 5 3 ≤ 24 := hH.c _ _
  refine l_aload_n rfl rfl ?_
  refine l_gfi rfl rfl rfl (layCl (by omega)) rfl ?_
  have w3 : -2 ≤ (Xi S (276 + cl) 2) ∧ (Xi S (276 + cl) 2) ≤ 23 := clc2 hH (by omega)
  refine l_iload_n rfl rfl ?_
  refine l_callS rfl rfl (by decide) rfl (t_tu_whoIs hH (Xi S (276 + cl) 2) noun ⟨by omega, by omega⟩ ⟨by omega, by omega⟩ _) ?_
  rintro _ _ ⟨rfl, z5, rfl, w5, w4⟩
  show Rl _ _ _ _ _ [iv z5] _ _
  refine l_istore rfl rfl rfl ?_
  refine l_aload_n rfl rfl ?_
  refine l_gfi rfl rfl rfl (layCl (by omega)) rfl ?_
  have w6 : -2 ≤ (Xi S (276 + cl) 6) ∧ (Xi S (276 + cl) 6) ≤ 23 := clc6 hH (by omega)
  refine l_iload_n rfl rfl ?_
  refine l_callS rfl rfl (by decide) rfl (t_tu_whoIs hH (Xi S (276 + cl) 6) noun ⟨by omega, by omega⟩ ⟨by omega, by omega⟩ _) ?_
  rintro _ _ ⟨rfl, z8, rfl, w8, w7⟩
  show Rl _ _ _ _ _ [iv z8] _ _
  refine l_istore rfl rfl rfl ?_
  refine l_aload_n rfl rfl ?_
  refine l_gfi rfl rfl rfl (layCl (by omega)) rfl ?_
  have w9 : 0 ≤ (Xi S (276 + cl) 0) ∧ (Xi S (276 + cl) 0) ≤ 11 := clc0 hH (by omega)
  refine l_tsw rfl rfl rfl rfl (by unfold rg; omega) (fun w10 => ?_) (fun ii tt hii w10 => ?_)
  · refine l_return rfl rfl ?_
    have w11 : 0 ≤ Xi S 900 5 ∧ Xi S 900 5 ≤ 301 := hH.c _ _
    have w12 : 0 ≤ Xi S 900 6 ∧ Xi S 900 6 ≤ 1 := hH.c _ _
    exact ⟨hH, hF, rfl, (by first | assumption | exact TX_FR hF rfl hX | exact TX_FR (by assumption : FR md_wo_setAdjective S S) rfl hX | exact TX_FR (by assumption : FR md_wo_relateNow S S) rfl hX | exact TX_FR (by assumption : FR md_tu_move S S) rfl hX | (apply_assumption; exact hX; first | exact hkt | exact Or.inl (by omega))), (by first | assumption | omega)⟩
  · match ii, hii with
    | 0, hii =>
      cases hii
      have w13 : (Xi S (276 + cl) 0) = 0 := by simpa using w10
      refine l_aload_n rfl rfl ?_
      have hk0 : (0 ≤ Xi S (276 + cl) 2 ∨ (Xi S (276 + cl) 2 = -2 ∧ 0 ≤ noun)) ∧ 0 ≤ Xi S (276 + cl) 3 ∧ Xi S (276 + cl) 3 < Xi S 5 3 := hk.1 (by omega)
      refine l_gfr rfl rfl rfl rfl rfl (hH.r 900 1 20 rfl) ?_
      refine l_iload rfl rfl ?_
      refine l_aload_n rfl rfl ?_
      refine l_gfi rfl rfl rfl (layCl (by omega)) rfl ?_
      have w14 : -1 ≤ (Xi S (276 + cl) 3) ∧ (Xi S (276 + cl) 3) ≤ 1666 := clc3 hH (by omega)
      refine l_aload_n rfl rfl ?_
      refine l_gfi rfl rfl rfl (layCl (by omega)) rfl ?_
      have w15 : 0 ≤ (Xi S (276 + cl) 1) ∧ (Xi S (276 + cl) 1) ≤ 1 := clc1 hH (by omega)
      refine l_if_ne rfl rfl (by unfold rg; omega) (fun w16 => ?_) (fun w17 => ?_)
      · refine l_iconst rfl ?_
        refine l_callV rfl rfl rfl (t_wo_setAdjective hH z5 (Xi S (276 + cl) 3) 0 ⟨by omega, by omega⟩ ⟨by omega, by omega⟩ ⟨by omega, by omega⟩ _) ?_
        rintro _ T1 ⟨hHT1, w19, rfl⟩
        have hFT1 : FR md_tu_perform S T1 := FR.tr hF w19 rfl
        show Rl _ _ _ _ _ [] _ _
        refine l_goto rfl rfl ?_
        refine l_return rfl rfl ?_
        have w20 : Xi T1 900 5 = Xi S 900 5 := (show Xi T1 900 5 = Xi S 900 5 from w19.x _ _ rfl)
        have w21 : 0 ≤ Xi S 900 5 ∧ Xi S 900 5 ≤ 301 := hH.c _ _
        have w22 : Xi T1 900 6 = Xi S 900 6 := (show Xi T1 900 6 = Xi S 900 6 from w19.x _ _ rfl)
        have w23 : 0 ≤ Xi S 900 6 ∧ Xi S 900 6 ≤ 1 := hH.c _ _
        exact ⟨hHT1, hFT1, rfl, (by first | assumption | exact TX_FR hFT1 rfl hX | exact TX_FR (by assumption : FR md_wo_setAdjective S T1) rfl hX | exact TX_FR (by assumption : FR md_wo_relateNow S T1) rfl hX | exact TX_FR (by assumption : FR md_tu_move S T1) rfl hX | (apply_assumption; exact hX; first | exact hkt | exact Or.inl (by omega))), (by first | assumption | omega)⟩
      · refine l_iconst rfl ?_
        refine l_goto rfl rfl ?_
        refine l_callV rfl rfl rfl (t_wo_setAdjective hH z5 (Xi S (276 + cl) 3) 1 ⟨by omega, by omega⟩ ⟨by omega, by omega⟩ ⟨by omega, by omega⟩ _) ?_
        rintro _ T2 ⟨hHT2, w25, rfl⟩
        have hFT2 : FR md_tu_perform S T2 := FR.tr hF w25 rfl
        show Rl _ _ _ _ _ [] _ _
        refine l_goto rfl rfl ?_
        refine l_return rfl rfl ?_
        have w26 : Xi T2 900 5 = Xi S 900 5 := (show Xi T2 900 5 = Xi S 900 5 from w25.x _ _ rfl)
        have w27 : 0 ≤ Xi S 900 5 ∧ Xi S 900 5 ≤ 301 := hH.c _ _
        have w28 : Xi T2 900 6 = Xi S 900 6 := (show Xi T2 900 6 = Xi S 900 6 from w25.x _ _ rfl)
        have w29 : 0 ≤ Xi S 900 6 ∧ Xi S 900 6 ≤ 1 := hH.c _ _
        exact ⟨hHT2, hFT2, rfl, (by first | assumption | exact TX_FR hFT2 rfl hX | exact TX_FR (by assumption : FR md_wo_setAdjective S T2) rfl hX | exact TX_FR (by assumption : FR md_wo_relateNow S T2) rfl hX | exact TX_FR (by assumption : FR md_tu_move S T2) rfl hX | (apply_assumption; exact hX; first | exact hkt | exact Or.inl (by omega))), (by first | assumption | omega)⟩
    | 1, hii =>
      cases hii
      have w30 : (Xi S (276 + cl) 0) = 1 := by simpa using w10
      refine l_aload_n rfl rfl ?_
      have hk1 : (0 ≤ Xi S (276 + cl) 2 ∨ (Xi S (276 + cl) 2 = -2 ∧ 0 ≤ noun)) ∧ 0 ≤ Xi S (276 + cl) 3 ∧ Xi S (276 + cl) 3 ≤ 11 := (hk.2.1 (by omega)).1
      have hkt := (hk.2.1 (by omega)).2
      refine l_gfr rfl rfl rfl rfl rfl (hH.r 900 1 20 rfl) ?_
      refine l_iload rfl rfl ?_
      refine l_aload_n rfl rfl ?_
      refine l_gfi rfl rfl rfl (layCl (by omega)) rfl ?_
      have w31 : -1 ≤ (Xi S (276 + cl) 3) ∧ (Xi S (276 + cl) 3) ≤ 1666 := clc3 hH (by omega)
      refine l_aload_n rfl rfl ?_
      refine l_gfi rfl rfl rfl (layCl (by omega)) rfl ?_
      have w32 : -2147483648 ≤ (Xi S (276 + cl) 4) ∧ (Xi S (276 + cl) 4) ≤ 2147483647 := Xi_rgI
      refine l_aload_n rfl rfl ?_
      refine l_gfi rfl rfl rfl (layCl (by omega)) rfl ?_
      have w33 : -2147483648 ≤ (Xi S (276 + cl) 5) ∧ (Xi S (276 + cl) 5) ≤ 2147483647 := Xi_rgI
      refine l_callV rfl rfl rfl (t_wo_setProperty hH z5 (Xi S (276 + cl) 3) (Xi S (276 + cl) 4) (Xi S (276 + cl) 5) ⟨by omega, by omega⟩ ⟨by omega, by omega⟩ ⟨by omega, by omega⟩ ⟨by omega, by omega⟩ _) ?_
      rintro _ T3 ⟨hHT3, w36, rfl, w34⟩
      have hFT3 : FR md_tu_perform S T3 := FR.tr hF w36 rfl
      show Rl _ _ _ _ _ [] _ _
      refine l_goto rfl rfl ?_
      refine l_return rfl rfl ?_
      have w37 : Xi T3 900 5 = Xi S 900 5 := (show Xi T3 900 5 = Xi S 900 5 from w36.x _ _ rfl)
      have w38 : 0 ≤ Xi S 900 5 ∧ Xi S 900 5 ≤ 301 := hH.c _ _
      have w39 : Xi T3 900 6 = Xi S 900 6 := (show Xi T3 900 6 = Xi S 900 6 from w36.x _ _ rfl)
      have w40 : 0 ≤ Xi S 900 6 ∧ Xi S 900 6 ≤ 1 := hH.c _ _
      exact ⟨hHT3, hFT3, rfl, (by first | assumption | exact TX_FR hFT3 rfl hX | exact TX_FR (by assumption : FR md_wo_setAdjective S T3) rfl hX | exact TX_FR (by assumption : FR md_wo_relateNow S T3) rfl hX | exact TX_FR (by assumption : FR md_tu_move S T3) rfl hX | (apply_assumption; exact hX; first | exact hkt | exact Or.inl (by omega))), (by first | assumption | omega)⟩
    | 2, hii =>
      cases hii
      have w41 : (Xi S (276 + cl) 0) = 2 := by simpa using w10
      refine l_return rfl rfl ?_
      have w42 : 0 ≤ Xi S 900 5 ∧ Xi S 900 5 ≤ 301 := hH.c _ _
      have w43 : 0 ≤ Xi S 900 6 ∧ Xi S 900 6 ≤ 1 := hH.c _ _
      exact ⟨hH, hF, rfl, (by first | assumption | exact TX_FR hF rfl hX | exact TX_FR (by assumption : FR md_wo_setAdjective S S) rfl hX | exact TX_FR (by assumption : FR md_wo_relateNow S S) rfl hX | exact TX_FR (by assumption : FR md_tu_move S S) rfl hX | (apply_assumption; exact hX; first | exact hkt | exact Or.inl (by omega))), (by first | assumption | omega)⟩
    | 3, hii =>
      cases hii
      have w44 : (Xi S (276 + cl) 0) = 3 := by simpa using w10
      refine l_return rfl rfl ?_
      have w45 : 0 ≤ Xi S 900 5 ∧ Xi S 900 5 ≤ 301 := hH.c _ _
      have w46 : 0 ≤ Xi S 900 6 ∧ Xi S 900 6 ≤ 1 := hH.c _ _
      exact ⟨hH, hF, rfl, (by first | assumption | exact TX_FR hF rfl hX | exact TX_FR (by assumption : FR md_wo_setAdjective S S) rfl hX | exact TX_FR (by assumption : FR md_wo_relateNow S S) rfl hX | exact TX_FR (by assumption : FR md_tu_move S S) rfl hX | (apply_assumption; exact hX; first | exact hkt | exact Or.inl (by omega))), (by first | assumption | omega)⟩
    | 4, hii =>
      cases hii
      have w47 : (Xi S (276 + cl) 0) = 4 := by simpa using w10
      refine l_aload_n rfl rfl ?_
      have hk1 : (0 ≤ Xi S (276 + cl) 2 ∨ (Xi S (276 + cl) 2 = -2 ∧ 0 ≤ noun)) ∧ 0 ≤ Xi S (276 + cl) 3 ∧ Xi S (276 + cl) 3 ≤ 11 := (hk.2.1 (by omega)).1
      have hkt := (hk.2.1 (by omega)).2
      refine l_gfr rfl rfl rfl rfl rfl (hH.r 900 1 20 rfl) ?_
      refine l_iload rfl rfl ?_
      refine l_aload_n rfl rfl ?_
      refine l_gfi rfl rfl rfl (layCl (by omega)) rfl ?_
      have w48 : -1 ≤ (Xi S (276 + cl) 3) ∧ (Xi S (276 + cl) 3) ≤ 1666 := clc3 hH (by omega)
      refine l_aload_n rfl rfl ?_
      refine l_gfi rfl rfl rfl (layCl (by omega)) rfl ?_
      have w49 : -2147483648 ≤ (Xi S (276 + cl) 4) ∧ (Xi S (276 + cl) 4) ≤ 2147483647 := Xi_rgI
      refine l_aload_n rfl rfl ?_
      refine l_gfi rfl rfl rfl (layCl (by omega)) rfl ?_
      have w50 : -2147483648 ≤ (Xi S (276 + cl) 5) ∧ (Xi S (276 + cl) 5) ≤ 2147483647 := Xi_rgI
      refine l_callV rfl rfl rfl (t_wo_setProperty hH z5 (Xi S (276 + cl) 3) (Xi S (276 + cl) 4) (Xi S (276 + cl) 5) ⟨by omega, by omega⟩ ⟨by omega, by omega⟩ ⟨by omega, by omega⟩ ⟨by omega, by omega⟩ _) ?_
      rintro _ T4 ⟨hHT4, w53, rfl, w51⟩
      have hFT4 : FR md_tu_perform S T4 := FR.tr hF w53 rfl
      show Rl _ _ _ _ _ [] _ _
      refine l_goto rfl rfl ?_
      refine l_return rfl rfl ?_
      have w54 : Xi T4 900 5 = Xi S 900 5 := (show Xi T4 900 5 = Xi S 900 5 from w53.x _ _ rfl)
      have w55 : 0 ≤ Xi S 900 5 ∧ Xi S 900 5 ≤ 301 := hH.c _ _
      have w56 : Xi T4 900 6 = Xi S 900 6 := (show Xi T4 900 6 = Xi S 900 6 from w53.x _ _ rfl)
      have w57 : 0 ≤ Xi S 900 6 ∧ Xi S 900 6 ≤ 1 := hH.c _ _
      exact ⟨hHT4, hFT4, rfl, (by first | assumption | exact TX_FR hFT4 rfl hX | exact TX_FR (by assumption : FR md_wo_setAdjective S T4) rfl hX | exact TX_FR (by assumption : FR md_wo_relateNow S T4) rfl hX | exact TX_FR (by assumption : FR md_tu_move S T4) rfl hX | (apply_assumption; exact hX; first | exact hkt | exact Or.inl (by omega))), (by first | assumption | omega)⟩
    | 5, hii =>
      cases hii
      have w58 : (Xi S (276 + cl) 0) = 5 := by simpa using w10
      refine l_return rfl rfl ?_
      have w59 : 0 ≤ Xi S 900 5 ∧ Xi S 900 5 ≤ 301 := hH.c _ _
      have w60 : 0 ≤ Xi S 900 6 ∧ Xi S 900 6 ≤ 1 := hH.c _ _
      exact ⟨hH, hF, rfl, (by first | assumption | exact TX_FR hF rfl hX | exact TX_FR (by assumption : FR md_wo_setAdjective S S) rfl hX | exact TX_FR (by assumption : FR md_wo_relateNow S S) rfl hX | exact TX_FR (by assumption : FR md_tu_move S S) rfl hX | (apply_assumption; exact hX; first | exact hkt | exact Or.inl (by omega))), (by first | assumption | omega)⟩
    | 6, hii =>
      cases hii
      have w61 : (Xi S (276 + cl) 0) = 6 := by simpa using w10
      refine l_aload_n rfl rfl ?_
      have hk6 : (0 ≤ Xi S (276 + cl) 2 ∨ (Xi S (276 + cl) 2 = -2 ∧ 0 ≤ noun)) ∧ (0 ≤ Xi S (276 + cl) 6 ∨ (Xi S (276 + cl) 6 = -2 ∧ 0 ≤ noun)) ∧ 0 ≤ Xi S (276 + cl) 3 ∧ Xi S (276 + cl) 3 ≤ 5 := hk.2.2.2.2.1 (by omega)
      refine l_gfr rfl rfl rfl rfl rfl (hH.r 900 1 20 rfl) ?_
      refine l_aload_n rfl rfl ?_
      refine l_gfi rfl rfl rfl (layCl (by omega)) rfl ?_
      have w62 : -1 ≤ (Xi S (276 + cl) 3) ∧ (Xi S (276 + cl) 3) ≤ 1666 := clc3 hH (by omega)
      refine l_iload rfl rfl ?_
      refine l_iload rfl rfl ?_
      refine l_callV rfl rfl rfl (t_wo_relateNow hH (Xi S (276 + cl) 3) z5 z8 ⟨by omega, by omega⟩ ⟨by omega, by omega⟩ ⟨by omega, by omega⟩ _) ?_
      rintro _ T5 ⟨hHT5, w64, rfl⟩
      have hFT5 : FR md_tu_perform S T5 := FR.tr hF w64 rfl
      show Rl _ _ _ _ _ [] _ _
      refine l_goto rfl rfl ?_
      refine l_return rfl rfl ?_
      have w65 : Xi T5 900 5 = Xi S 900 5 := (show Xi T5 900 5 = Xi S 900 5 from w64.x _ _ rfl)
      have w66 : 0 ≤ Xi S 900 5 ∧ Xi S 900 5 ≤ 301 := hH.c _ _
      have w67 : Xi T5 900 6 = Xi S 900 6 := (show Xi T5 900 6 = Xi S 900 6 from w64.x _ _ rfl)
      have w68 : 0 ≤ Xi S 900 6 ∧ Xi S 900 6 ≤ 1 := hH.c _ _
      exact ⟨hHT5, hFT5, rfl, (by first | assumption | exact TX_FR hFT5 rfl hX | exact TX_FR (by assumption : FR md_wo_setAdjective S T5) rfl hX | exact TX_FR (by assumption : FR md_wo_relateNow S T5) rfl hX | exact TX_FR (by assumption : FR md_tu_move S T5) rfl hX | (apply_assumption; exact hX; first | exact hkt | exact Or.inl (by omega))), (by first | assumption | omega)⟩
    | 7, hii =>
      cases hii
      have w69 : (Xi S (276 + cl) 0) = 7 := by simpa using w10
      refine l_return rfl rfl ?_
      have w70 : 0 ≤ Xi S 900 5 ∧ Xi S 900 5 ≤ 301 := hH.c _ _
      have w71 : 0 ≤ Xi S 900 6 ∧ Xi S 900 6 ≤ 1 := hH.c _ _
      exact ⟨hH, hF, rfl, (by first | assumption | exact TX_FR hF rfl hX | exact TX_FR (by assumption : FR md_wo_setAdjective S S) rfl hX | exact TX_FR (by assumption : FR md_wo_relateNow S S) rfl hX | exact TX_FR (by assumption : FR md_tu_move S S) rfl hX | (apply_assumption; exact hX; first | exact hkt | exact Or.inl (by omega))), (by first | assumption | omega)⟩
    | 8, hii =>
      cases hii
      have w72 : (Xi S (276 + cl) 0) = 8 := by simpa using w10
      refine l_aload_n rfl rfl ?_
      have hk8 : (0 ≤ Xi S (276 + cl) 2 ∨ (Xi S (276 + cl) 2 = -2 ∧ 0 ≤ noun)) ∧ (0 ≤ Xi S (276 + cl) 6 ∨ (Xi S (276 + cl) 6 = -2 ∧ 0 ≤ noun)) := hk.2.2.2.2.2.2.1 (by omega)
      refine l_iload rfl rfl ?_
      refine l_iload rfl rfl ?_
      refine l_callV rfl rfl rfl (t_tu_move hH z5 z8 ⟨by omega, by omega⟩ ⟨by omega, by omega⟩ _) ?_
      rintro _ T6 ⟨hHT6, w74, rfl⟩
      have hFT6 : FR md_tu_perform S T6 := FR.tr hF w74 rfl
      show Rl _ _ _ _ _ [] _ _
      refine l_goto rfl rfl ?_
      refine l_return rfl rfl ?_
      have w75 : Xi T6 900 5 = Xi S 900 5 := (show Xi T6 900 5 = Xi S 900 5 from w74.x _ _ rfl)
      have w76 : 0 ≤ Xi S 900 5 ∧ Xi S 900 5 ≤ 301 := hH.c _ _
      have w77 : Xi T6 900 6 = Xi S 900 6 := (show Xi T6 900 6 = Xi S 900 6 from w74.x _ _ rfl)
      have w78 : 0 ≤ Xi S 900 6 ∧ Xi S 900 6 ≤ 1 := hH.c _ _
      exact ⟨hHT6, hFT6, rfl, (by first | assumption | exact TX_FR hFT6 rfl hX | exact TX_FR (by assumption : FR md_wo_setAdjective S T6) rfl hX | exact TX_FR (by assumption : FR md_wo_relateNow S T6) rfl hX | exact TX_FR (by assumption : FR md_tu_move S T6) rfl hX | (apply_assumption; exact hX; first | exact hkt | exact Or.inl (by omega))), (by first | assumption | omega)⟩
    | 9, hii =>
      cases hii
      have w79 : (Xi S (276 + cl) 0) = 9 := by simpa using w10
      refine l_aload_n rfl rfl ?_
      have hk9 : (0 ≤ Xi S (276 + cl) 2 ∨ (Xi S (276 + cl) 2 = -2 ∧ 0 ≤ noun)) ∧ 0 ≤ Xi S (276 + cl) 3 ∧ Xi S (276 + cl) 3 ≤ 11 := hk.2.2.1 (by omega)
      refine l_gfr rfl rfl rfl rfl rfl (hH.r 900 1 20 rfl) ?_
      refine l_iload rfl rfl ?_
      refine l_aload_n rfl rfl ?_
      refine l_gfi rfl rfl rfl (layCl (by omega)) rfl ?_
      have w80 : -1 ≤ (Xi S (276 + cl) 3) ∧ (Xi S (276 + cl) 3) ≤ 1666 := clc3 hH (by omega)
      refine l_callV rfl rfl rfl (t_wo_valueOf hH z5 (Xi S (276 + cl) 3) ⟨by omega, by omega⟩ ⟨by omega, by omega⟩ _) ?_
      rintro _ _ ⟨rfl, z82, rfl, w82, w81⟩
      show Rl _ _ _ _ _ [iv z82] _ _
      refine l_aload_n rfl rfl ?_
      refine l_gfi rfl rfl rfl (layCl (by omega)) rfl ?_
      have w83 : -2147483648 ≤ (Xi S (276 + cl) 4) ∧ (Xi S (276 + cl) 4) ≤ 2147483647 := Xi_rgI
      refine l_iaddW rfl (fun c84 w84 => ?_)
      refine l_istore rfl rfl rfl ?_
      refine l_aload_n rfl rfl ?_
      refine l_gfr rfl rfl rfl rfl rfl (hH.r 900 1 20 rfl) ?_
      refine l_iload rfl rfl ?_
      refine l_aload_n rfl rfl ?_
      refine l_gfi rfl rfl rfl (layCl (by omega)) rfl ?_
      refine l_ldc (z := (-999999)) rfl rfl ?_
      refine l_ldc (z := 999999) rfl rfl ?_
      refine l_iload rfl rfl ?_
      refine l_min rfl rfl rfl (by unfold rg; omega) (by unfold rg; omega) ?_
      refine l_max rfl rfl rfl (by unfold rg; omega) (by unfold rg; omega) ?_
      refine l_iconst rfl ?_
      refine l_callV rfl rfl rfl (t_wo_setProperty hH z5 (Xi S (276 + cl) 3) (if (-999999) < (if c84 < 999999 then c84 else 999999) then (if c84 < 999999 then c84 else 999999) else (-999999)) 0 ⟨by omega, by omega⟩ ⟨by omega, by omega⟩ ⟨by omega, by omega⟩ ⟨by omega, by omega⟩ _) ?_
      rintro _ T7 ⟨hHT7, w87, rfl, w85⟩
      have hFT7 : FR md_tu_perform S T7 := FR.tr hF w87 rfl
      show Rl _ _ _ _ _ [] _ _
      refine l_goto rfl rfl ?_
      refine l_return rfl rfl ?_
      have w88 : Xi T7 900 5 = Xi S 900 5 := (show Xi T7 900 5 = Xi S 900 5 from w87.x _ _ rfl)
      have w89 : 0 ≤ Xi S 900 5 ∧ Xi S 900 5 ≤ 301 := hH.c _ _
      have w90 : Xi T7 900 6 = Xi S 900 6 := (show Xi T7 900 6 = Xi S 900 6 from w87.x _ _ rfl)
      have w91 : 0 ≤ Xi S 900 6 ∧ Xi S 900 6 ≤ 1 := hH.c _ _
      exact ⟨hHT7, hFT7, rfl, (by first | assumption | exact TX_FR hFT7 rfl hX | exact TX_FR (by assumption : FR md_wo_setAdjective S T7) rfl hX | exact TX_FR (by assumption : FR md_wo_relateNow S T7) rfl hX | exact TX_FR (by assumption : FR md_tu_move S T7) rfl hX | (apply_assumption; exact hX; first | exact hkt | exact Or.inl (by omega))), (by first | assumption | omega)⟩
    | 10, hii =>
      cases hii
      have w92 : (Xi S (276 + cl) 0) = 10 := by simpa using w10
      refine l_aload_n rfl rfl ?_
      have hk10 : 0 ≤ Xi S (276 + cl) 3 ∧ Xi S (276 + cl) 3 < Xi S 5 8 ∧ (0 ≤ Xi S 19 (Xi S (276 + cl) 3).toNat → (0 ≤ Xi S (276 + cl) 2 ∨ (Xi S (276 + cl) 2 = -2 ∧ 0 ≤ noun))) ∧ Xi S 19 (Xi S (276 + cl) 3).toNat ≠ -2 := hk.2.2.2.2.2.2.2 (by omega)
      refine l_gfr rfl rfl rfl rfl rfl (hH.r 900 0 1 rfl) ?_
      refine l_gfr rfl rfl rfl rfl rfl (hH.r 1 18 19 rfl) ?_
      refine l_aload_n rfl rfl ?_
      refine l_gfi rfl rfl rfl (layCl (by omega)) rfl ?_
      have w93 : -1 ≤ (Xi S (276 + cl) 3) ∧ (Xi S (276 + cl) 3) ≤ 1666 := clc3 hH (by omega)
      refine l_iaload (n := 12) rfl rfl (by omega) (by omega) (by unfold rg; omega) ?_
      have w94 : -2 ≤ (Xi S 19 (((Xi S (276 + cl) 3)).toNat)) ∧ (Xi S 19 (((Xi S (276 + cl) 3)).toNat)) ≤ 15 := hH.c _ _
      refine l_istore rfl rfl rfl ?_
      refine l_iload_n rfl rfl ?_
      refine l_bipush rfl rfl ?_
      refine l_icmp_ge rfl rfl (by unfold rg; omega) (by unfold rg; omega) (fun w95 => ?_) (fun w96 => ?_)
      · refine l_return rfl rfl ?_
        have w97 : 0 ≤ Xi S 900 5 ∧ Xi S 900 5 ≤ 301 := hH.c _ _
        have w98 : 0 ≤ Xi S 900 6 ∧ Xi S 900 6 ≤ 1 := hH.c _ _
        exact ⟨hH, hF, rfl, (by first | assumption | exact TX_FR hF rfl hX | exact TX_FR (by assumption : FR md_wo_setAdjective S S) rfl hX | exact TX_FR (by assumption : FR md_wo_relateNow S S) rfl hX | exact TX_FR (by assumption : FR md_tu_move S S) rfl hX | (apply_assumption; exact hX; first | exact hkt | exact Or.inl (by omega))), (by first | assumption | omega)⟩
      · refine l_iload rfl rfl ?_
        refine l_iconst rfl ?_
        refine l_icmp_eq rfl rfl (by unfold rg; omega) (by unfold rg; omega) (fun w99 => ?_) (fun w100 => ?_)
        · refine l_aload_n rfl rfl ?_
          refine l_aload_n rfl rfl ?_
          refine l_gfi rfl rfl rfl (layCl (by omega)) rfl ?_
          refine l_iload rfl rfl ?_
          refine l_iload_n rfl rfl ?_
          refine l_iconst rfl ?_
          refine l_iadd rfl ?_
          have w101 : 0 ≤ Xi S 900 5 ∧ Xi S 900 5 ≤ 301 := hH.c _ _
          have w102 : 0 ≤ Xi S 900 6 ∧ Xi S 900 6 ≤ 1 := hH.c _ _
          refine l_callV rfl rfl rfl (hrec hH (Xi S (276 + cl) 3) z5 (dq + 1) ⟨by omega, by omega⟩ ⟨by omega, by omega⟩ ⟨by omega, by omega⟩ (by first | assumption | omega) (by first | assumption | omega) (by first | assumption | exact TX_FR hF rfl hX) (by first | assumption | exact DEF_FR hH hF rfl rfl hD) (by first | assumption | exact RUL_FR hH hF rfl rfl hR) (by first | assumption | exact ORD_FR hF rfl hO) (by first | assumption | exact AK_FR hF rfl hA) (by first | assumption | omega) (by omega)) ?_
          rintro _ T8 ⟨hHT8, w106, z105, rfl, w105, w103, w104⟩
          have hFT8 : FR md_tu_perform S T8 := FR.tr hF w106 rfl
          show Rl _ _ _ _ _ [iv z105] _ _
          refine l_pop rfl rfl ?_
          refine l_goto rfl rfl ?_
          refine l_return rfl rfl ?_
          have w107 : 0 ≤ Xi T8 900 5 ∧ Xi T8 900 5 ≤ 301 := hHT8.c _ _
          have w108 : 0 ≤ Xi T8 900 6 ∧ Xi T8 900 6 ≤ 1 := hHT8.c _ _
          exact ⟨hHT8, hFT8, rfl, (by first | assumption | exact TX_FR hFT8 rfl hX | exact TX_FR (by assumption : FR md_wo_setAdjective S T8) rfl hX | exact TX_FR (by assumption : FR md_wo_relateNow S T8) rfl hX | exact TX_FR (by assumption : FR md_tu_move S T8) rfl hX | (apply_assumption; exact hX; first | exact hkt | exact Or.inl (by omega))), (by first | assumption | omega)⟩
        · refine l_aload_n rfl rfl ?_
          refine l_gfr rfl rfl rfl rfl rfl (hH.r 900 1 20 rfl) ?_
          refine l_iload rfl rfl ?_
          refine l_iload rfl rfl ?_
          refine l_callV rfl rfl rfl (t_wo_isA hH z5 (Xi S 19 (((Xi S (276 + cl) 3)).toNat)) ⟨by omega, by omega⟩ ⟨by omega, by omega⟩ _) ?_
          rintro _ _ ⟨rfl, z110, rfl, w110, w109⟩
          show Rl _ _ _ _ _ [iv z110] _ _
          refine l_if_eq rfl rfl (by unfold rg; omega) (fun w111 => ?_) (fun w112 => ?_)
          · refine l_return rfl rfl ?_
            have w113 : 0 ≤ Xi S 900 5 ∧ Xi S 900 5 ≤ 301 := hH.c _ _
            have w114 : 0 ≤ Xi S 900 6 ∧ Xi S 900 6 ≤ 1 := hH.c _ _
            exact ⟨hH, hF, rfl, (by first | assumption | exact TX_FR hF rfl hX | exact TX_FR (by assumption : FR md_wo_setAdjective S S) rfl hX | exact TX_FR (by assumption : FR md_wo_relateNow S S) rfl hX | exact TX_FR (by assumption : FR md_tu_move S S) rfl hX | (apply_assumption; exact hX; first | exact hkt | exact Or.inl (by omega))), (by first | assumption | omega)⟩
          · refine l_aload_n rfl rfl ?_
            refine l_aload_n rfl rfl ?_
            refine l_gfi rfl rfl rfl (layCl (by omega)) rfl ?_
            refine l_iload rfl rfl ?_
            refine l_iload_n rfl rfl ?_
            refine l_iconst rfl ?_
            refine l_iadd rfl ?_
            have w115 : 0 ≤ Xi S 900 5 ∧ Xi S 900 5 ≤ 301 := hH.c _ _
            have w116 : 0 ≤ Xi S 900 6 ∧ Xi S 900 6 ≤ 1 := hH.c _ _
            refine l_callV rfl rfl rfl (hrec hH (Xi S (276 + cl) 3) z5 (dq + 1) ⟨by omega, by omega⟩ ⟨by omega, by omega⟩ ⟨by omega, by omega⟩ (by first | assumption | omega) (by first | assumption | omega) (by first | assumption | exact TX_FR hF rfl hX) (by first | assumption | exact DEF_FR hH hF rfl rfl hD) (by first | assumption | exact RUL_FR hH hF rfl rfl hR) (by first | assumption | exact ORD_FR hF rfl hO) (by first | assumption | exact AK_FR hF rfl hA) (by first | assumption | omega) (by omega)) ?_
            rintro _ T9 ⟨hHT9, w120, z119, rfl, w119, w117, w118⟩
            have hFT9 : FR md_tu_perform S T9 := FR.tr hF w120 rfl
            show Rl _ _ _ _ _ [iv z119] _ _
            refine l_pop rfl rfl ?_
            refine l_goto rfl rfl ?_
            refine l_return rfl rfl ?_
            have w121 : 0 ≤ Xi T9 900 5 ∧ Xi T9 900 5 ≤ 301 := hHT9.c _ _
            have w122 : 0 ≤ Xi T9 900 6 ∧ Xi T9 900 6 ≤ 1 := hHT9.c _ _
            exact ⟨hHT9, hFT9, rfl, (by first | assumption | exact TX_FR hFT9 rfl hX | exact TX_FR (by assumption : FR md_wo_setAdjective S T9) rfl hX | exact TX_FR (by assumption : FR md_wo_relateNow S T9) rfl hX | exact TX_FR (by assumption : FR md_tu_move S T9) rfl hX | (apply_assumption; exact hX; first | exact hkt | exact Or.inl (by omega))), (by first | assumption | omega)⟩
    | n + 11, hii => exact absurd hii (by simp)
def md_tu_runRules : List rec := [(22, 23, 0, 100000), (23, 24, 0, 100000), (25, 65, 0, 100000), (66, 106, 0, 100000), (107, 147, 0, 100000), (148, 188, 0, 100000), (189, 195, 0, 100000), (900, 901, 4, 5), (900, 901, 5, 6), (900, 901, 6, 7), (901, 902, 0, 100000)]
abbrev Q_tu_runRules (S : sS) (sort : Int) (action : Int) (noun : Int) (dr : Int) : pst := fun r S1 => HI S1 ∧ FR md_tu_runRules S S1 ∧ (∃ z : Int, r = some (iv z) ∧ (0 ≤ z ∧ z ≤ 1) ∧ (TX S1) ∧ (Xi S1 900 6 = 0 → Xi S1 900 5 ≤ 300))
set_option maxRecDepth 100000 in
theorem u_tu_runRules {S : sS} (hH : HI S) (sort : Int) (action : Int) (noun : Int) (dr : Int) (hsort : 0 ≤ sort ∧ sort ≤ 3) (haction : -1 ≤ action ∧ action ≤ 11) (hnoun : -1 ≤ noun ∧ noun ≤ 23) (hdr : 0 ≤ dr ∧ dr ≤ 8) (hn : 0 ≤ action → Xi S 19 action.toNat ≠ -1 → 0 ≤ noun) (hX : TX S) (hD : DEF S) (hR : RUL S) (hO : ORD S) (hA : AK S) (hE : Xi S 900 6 = 0 → Xi S 900 5 ≤ 300) (d : Nat) (hrec : ∀ {S : sS} (_ : HI S) (cl : Nat) (noun : Int) (dq : Int) (hcl : cl < 600) (hnoun : -1 ≤ noun ∧ noun ≤ 23) (hdq : 0 ≤ dq ∧ dq ≤ 8) (hk : CLok S (0 ≤ noun) cl) (hX : TX S) (hD : DEF S) (hR : RUL S) (hO : ORD S) (hA : AK S) (hE : Xi S 900 6 = 0 → Xi S 900 5 ≤ 300), (dq = dr) → Mt lay0 (d + 30) m_tu_perform [.ref 900, .ref (276 + cl), iv noun, iv dq] S (Q_tu_perform S cl noun dq)) : Mt lay0 (d + 31) m_tu_runRules [.ref 900, iv sort, iv action, iv noun, iv dr] S (Q_tu_runRules S sort action noun dr) := by
  refine Mt_R rfl rfl ?_
  have hF : FR md_tu_runRules S S := FR.rf
  have w1 : 0 ≤ Xi S 246 2 ∧ Xi S 246 2 ≤ 24 := hH.c _ _
  have w2 : 0 ≤ Xi S 900 5 ∧ Xi S 900 5 ≤ 301 := hH.c _ _
  have w3 : 0 ≤ Xi S 900 6 ∧ Xi S 900 6 ≤ 1 := hH.c _ _
  have C3 : ∀ (n3 : Nat) (T1 : sS) (_ : HI T1) (_ : FR md_tu_runRules S T1) (v5 : Int), (0 ≤ v5 ∧ v5 ≤ 24) → (TX T1) → (Xi T1 900 6 = 0 → Xi T1 900 5 ≤ 300) → n3 = (25 - v5).toNat → Rl lay0 (d + 30) m_tu_runRules 3 [(0, .ref 900), (1, iv sort), (2, iv action), (3, iv noun), (4, iv dr), (5, iv v5)] [] T1 (Q_tu_runRules S sort action noun dr) := by
    intro n3
    induction n3 using Nat.strongRecOn with
    | ind n3 ih3 =>
      intro T1 hHT1 hFT1 v5 w4 hX3 w5 hm3
      have w6 : Xi T1 246 2 = Xi S 246 2 := hFT1.x _ _ rfl
      have w7 : 0 ≤ Xi T1 900 5 ∧ Xi T1 900 5 ≤ 301 := hHT1.c _ _
      have w8 : 0 ≤ Xi T1 900 6 ∧ Xi T1 900 6 ≤ 1 := hHT1.c _ _
      have C87 : ∀ (n87 : Nat) (T2 : sS) (_ : HI T2) (_ : FR md_tu_runRules S T2) (v5 : Int) (rr : Nat) (v7 : Int) (v8 : Int) (v9 : Int), (0 ≤ v5 ∧ v5 ≤ 23) → (rr < 24) → (0 ≤ v7 ∧ v7 ≤ 1) → (0 ≤ v8 ∧ v8 ≤ 600) → (0 ≤ v9 ∧ v9 ≤ 8) → (TX T2) → (Xi T2 900 6 = 0 → Xi T2 900 5 ≤ 300) → ((rr : Int) < Xi S 246 2) → (Xi S (248 + rr) 1 = action) → (v8 = Xi S (248 + rr) 7 + Xi S (248 + rr) 4 + Xi S (248 + rr) 5) → (0 ≤ v9) → ((25 - v5).toNat ≤ n3) → n87 = (9 - v9).toNat → Rl lay0 (d + 30) m_tu_runRules 87 [(0, .ref 900), (1, iv sort), (2, iv action), (3, iv noun), (4, iv dr), (5, iv v5), (6, .ref (248 + rr)), (7, iv v7), (8, iv v8), (9, iv v9)] [] T2 (Q_tu_runRules S sort action noun dr) := by
        intro n87
        induction n87 using Nat.strongRecOn with
        | ind n87 ih87 =>
          intro T2 hHT2 hFT2 v5 rr v7 v8 v9 w9 w10 w11 w12 w13 hX87 w14 w15 w16 w17 w18 w19 hm87
          have w20 : Xi T2 246 2 = Xi S 246 2 := hFT2.x _ _ rfl
          have w21 : 0 ≤ Xi T2 900 5 ∧ Xi T2 900 5 ≤ 301 := hHT2.c _ _
          have w22 : 0 ≤ Xi T2 900 6 ∧ Xi T2 900 6 ≤ 1 := hHT2.c _ _
          have C218 : ∀  (T3 : sS) (_ : HI T3) (_ : FR md_tu_runRules S T3) (v5 : Int) (v7 : Int), (0 ≤ v5 ∧ v5 ≤ 23) → (0 ≤ v7 ∧ v7 ≤ 1) → (TX T3) → (Xi T3 900 6 = 0 → Xi T3 900 5 ≤ 300) → ((25 - v5).toNat ≤ n3) → Rl lay0 (d + 30) m_tu_runRules 218 [(0, .ref 900), (1, iv sort), (2, iv action), (3, iv noun), (4, iv dr), (5, iv v5), (7, iv v7)] [] T3 (Q_tu_runRules S sort action noun dr) := by
            intro T3 hHT3 hFT3 v5 v7 w23 w24 hX218 w25 w26
            have w27 : Xi T3 246 2 = Xi S 246 2 := hFT3.x _ _ rfl
            have w28 : 0 ≤ Xi T3 900 5 ∧ Xi T3 900 5 ≤ 301 := hHT3.c _ _
            have w29 : 0 ≤ Xi T3 900 6 ∧ Xi T3 900 6 ≤ 1 := hHT3.c _ _
            refine l_aload_n rfl rfl ?_
            refine l_gfi rfl rfl rfl rfl rfl ?_
            refine l_if_ne rfl rfl (by unfold rg; omega) (fun w30 => ?_) (fun w31 => ?_)
            · refine l_iinc rfl rfl rfl rfl ?_
              refine l_goto rfl rfl ?_
              have w32 : 0 ≤ Xi T3 900 5 ∧ Xi T3 900 5 ≤ 301 := hHT3.c _ _
              have w33 : 0 ≤ Xi T3 900 6 ∧ Xi T3 900 6 ≤ 1 := hHT3.c _ _
              exact Rl_weak (ih3 _ (by omega) T3 hHT3 hFT3 ((v5 + 1)) (by omega) (by first | assumption | exact (by assumption : TX T3)) (by omega) rfl) (And.intro rfl (And.intro rfl (And.intro rfl (And.intro rfl (And.intro rfl (And.intro rfl (True.intro)))))))
            · refine l_iload_n rfl rfl ?_
              refine l_iconst rfl ?_
              refine l_icmp_eq rfl rfl (by unfold rg; omega) (by unfold rg; omega) (fun w34 => ?_) (fun w35 => ?_)
              · refine l_iconst rfl ?_
                refine l_ireturn rfl rfl ?_
                have w36 : 0 ≤ Xi T3 900 5 ∧ Xi T3 900 5 ≤ 301 := hHT3.c _ _
                have w37 : 0 ≤ Xi T3 900 6 ∧ Xi T3 900 6 ≤ 1 := hHT3.c _ _
                exact ⟨hHT3, hFT3, _, rfl, ⟨by omega, by omega⟩, (by first | assumption | exact TX_FR hFT3 rfl hX), (by first | assumption | omega)⟩
              · refine l_iload rfl rfl ?_
                refine l_if_eq rfl rfl (by unfold rg; omega) (fun w38 => ?_) (fun w39 => ?_)
                · refine l_iinc rfl rfl rfl rfl ?_
                  refine l_goto rfl rfl ?_
                  have w40 : 0 ≤ Xi T3 900 5 ∧ Xi T3 900 5 ≤ 301 := hHT3.c _ _
                  have w41 : 0 ≤ Xi T3 900 6 ∧ Xi T3 900 6 ≤ 1 := hHT3.c _ _
                  exact Rl_weak (ih3 _ (by omega) T3 hHT3 hFT3 ((v5 + 1)) (by omega) (by first | assumption | exact (by assumption : TX T3)) (by omega) rfl) (And.intro rfl (And.intro rfl (And.intro rfl (And.intro rfl (And.intro rfl (And.intro rfl (True.intro)))))))
                · refine l_iload_n rfl rfl ?_
                  refine l_iconst rfl ?_
                  refine l_icmp_eq rfl rfl (by unfold rg; omega) (by unfold rg; omega) (fun w42 => ?_) (fun w43 => ?_)
                  · refine l_iinc rfl rfl rfl rfl ?_
                    refine l_goto rfl rfl ?_
                    have w44 : 0 ≤ Xi T3 900 5 ∧ Xi T3 900 5 ≤ 301 := hHT3.c _ _
                    have w45 : 0 ≤ Xi T3 900 6 ∧ Xi T3 900 6 ≤ 1 := hHT3.c _ _
                    exact Rl_weak (ih3 _ (by omega) T3 hHT3 hFT3 ((v5 + 1)) (by omega) (by first | assumption | exact (by assumption : TX T3)) (by omega) rfl) (And.intro rfl (And.intro rfl (And.intro rfl (And.intro rfl (And.intro rfl (And.intro rfl (True.intro)))))))
                  · refine l_iconst rfl ?_
                    refine l_ireturn rfl rfl ?_
                    have w46 : 0 ≤ Xi T3 900 5 ∧ Xi T3 900 5 ≤ 301 := hHT3.c _ _
                    have w47 : 0 ≤ Xi T3 900 6 ∧ Xi T3 900 6 ≤ 1 := hHT3.c _ _
                    exact ⟨hHT3, hFT3, _, rfl, ⟨by omega, by omega⟩, (by first | assumption | exact TX_FR hFT3 rfl hX), (by first | assumption | omega)⟩
          refine l_iload rfl rfl ?_
          refine l_aload rfl rfl ?_
          have hs6 : Xi T2 (248 + rr) 6 = Xi S (248 + rr) 6 := FR_ru hFT2 rfl (by omega)
          have hrb := RUL_b hR (i := rr) (by omega)
          have hrc := RUL_c hR (i := rr) (by omega)
          have p4 := ruc4 hH (i := rr) (by omega)
          have p5 := ruc5 hH (i := rr) (by omega)
          have e4 : Xi S (248 + rr) (4 : Int).toNat = Xi S (248 + rr) 4 := rfl
          have e5 : Xi S (248 + rr) (5 : Int).toNat = Xi S (248 + rr) 5 := rfl
          refine l_bipush rfl rfl ?_
          refine l_iaload (n := 8) rfl (lay_248 (by omega)) (by omega) (by omega) (by unfold rg; omega) ?_
          have w48 : 0 ≤ (Xi T2 (248 + rr) ((6 : Int).toNat)) ∧ (Xi T2 (248 + rr) ((6 : Int).toNat)) ≤ 8 := ruc6 hHT2 (by omega)
          have w49 : (Xi T2 (248 + rr) ((6 : Int).toNat)) = Xi T2 (248 + rr) 6 := rfl
          refine l_icmp_ge rfl rfl (by unfold rg; omega) (by unfold rg; omega) (fun w50 => ?_) (fun w51 => ?_)
          · have w52 : 0 ≤ Xi T2 900 5 ∧ Xi T2 900 5 ≤ 301 := hHT2.c _ _
            have w53 : 0 ≤ Xi T2 900 6 ∧ Xi T2 900 6 ≤ 1 := hHT2.c _ _
            exact Rl_weak (C218 T2 hHT2 hFT2 (v5) (v7) (by omega) (by omega) (by first | assumption | exact (by assumption : TX T2)) (by omega) (by omega)) (And.intro rfl (And.intro rfl (And.intro rfl (And.intro rfl (And.intro rfl (And.intro rfl (And.intro rfl (True.intro))))))))
          · refine l_iload rfl rfl ?_
            refine l_if_ne rfl rfl (by unfold rg; omega) (fun w54 => ?_) (fun w55 => ?_)
            · have w56 : 0 ≤ Xi T2 900 5 ∧ Xi T2 900 5 ≤ 301 := hHT2.c _ _
              have w57 : 0 ≤ Xi T2 900 6 ∧ Xi T2 900 6 ≤ 1 := hHT2.c _ _
              exact Rl_weak (C218 T2 hHT2 hFT2 (v5) (v7) (by omega) (by omega) (by first | assumption | exact (by assumption : TX T2)) (by omega) (by omega)) (And.intro rfl (And.intro rfl (And.intro rfl (And.intro rfl (And.intro rfl (And.intro rfl (And.intro rfl (True.intro))))))))
            · refine l_aload_n rfl rfl ?_
              refine l_gfi rfl rfl rfl rfl rfl ?_
              refine l_if_ne rfl rfl (by unfold rg; omega) (fun w58 => ?_) (fun w59 => ?_)
              · have w60 : 0 ≤ Xi T2 900 5 ∧ Xi T2 900 5 ≤ 301 := hHT2.c _ _
                have w61 : 0 ≤ Xi T2 900 6 ∧ Xi T2 900 6 ≤ 1 := hHT2.c _ _
                exact Rl_weak (C218 T2 hHT2 hFT2 (v5) (v7) (by omega) (by omega) (by first | assumption | exact (by assumption : TX T2)) (by omega) (by omega)) (And.intro rfl (And.intro rfl (And.intro rfl (And.intro rfl (And.intro rfl (And.intro rfl (And.intro rfl (True.intro))))))))
              · refine l_aload_n rfl rfl ?_
                refine l_dup rfl rfl ?_
                refine l_gfi rfl rfl rfl rfl rfl ?_
                refine l_iconst rfl ?_
                refine l_iadd rfl ?_
                refine l_pfi rfl rfl rfl rfl ?_
                obtain ⟨U4, eU4⟩ : ∃ T : sS, T = uI T2 900 5 (Int32.ofInt ((Xi T2 900 5) + 1)) := ⟨_, rfl⟩
                rw [← eU4]
                have hHU4 : HI U4 := by rw [eU4]; exact HI_w hHT2 (show 0 ≤ ((Xi T2 900 5) + 1) by omega) (show ((Xi T2 900 5) + 1) ≤ 301 by omega)
                have hFU4 : FR md_tu_runRules S U4 := by rw [eU4]; exact FR.wI hFT2 (mdf_i (r := (900, 901, 5, 6)) (List.mem_of_getElem? (i := 8) rfl) (inR_i (by omega) (by omega) (by omega) (by omega)))
                have w62 : Xi U4 900 5 = ((Xi T2 900 5) + 1) := by rw [eU4]; exact Xi_same (by unfold rg; omega)
                have hXw1 : TX U4 := TX_w eU4 rfl (by assumption)
                refine l_aload_n rfl rfl ?_
                refine l_aload_n rfl rfl ?_
                refine l_gfi rfl rfl rfl rfl rfl ?_
                refine l_sipush rfl rfl ?_
                refine l_icmp_le rfl rfl (by unfold rg; omega) (by unfold rg; omega) (fun w63 => ?_) (fun w64 => ?_)
                · refine l_iconst rfl ?_
                  refine l_pfz rfl rfl rfl rfl (by omega) ?_
                  obtain ⟨U5, eU5⟩ : ∃ T : sS, T = uI U4 900 6 (Int32.ofInt 0) := ⟨_, rfl⟩
                  rw [← eU5]
                  have hHU5 : HI U5 := by rw [eU5]; exact HI_w hHU4 (show 0 ≤ 0 by omega) (show 0 ≤ 1 by omega)
                  have hFU5 : FR md_tu_runRules S U5 := by rw [eU5]; exact FR.wI hFU4 (mdf_i (r := (900, 901, 6, 7)) (List.mem_of_getElem? (i := 9) rfl) (inR_i (by omega) (by omega) (by omega) (by omega)))
                  have w65 : Xi U5 900 6 = 0 := by rw [eU5]; exact Xi_same (by unfold rg; omega)
                  have hXw2 : TX U5 := TX_w eU5 rfl (by assumption)
                  refine l_aload_n rfl rfl ?_
                  refine l_gfr rfl rfl rfl rfl rfl (hHU5.r 900 2 246 rfl) ?_
                  refine l_iload rfl rfl ?_
                  refine l_iload rfl rfl ?_
                  refine l_iadd rfl ?_
                  refine l_callV rfl rfl rfl (t_bo_clauseAt hHU5 (v8 + v9) ⟨by omega, by omega⟩ _) ?_
                  rintro _ _ ⟨rfl, z67, rfl, w67, w66⟩
                  show Rl _ _ _ _ _ [.ref (276 + z67)] _ _
                  refine l_astore rfl rfl rfl ?_
                  refine l_aload rfl rfl ?_
                  refine l_gfi rfl rfl rfl (layCl (by omega)) rfl ?_
                  have w68 : 0 ≤ (Xi U5 (276 + z67) 0) ∧ (Xi U5 (276 + z67) 0) ≤ 11 := clc0 hHU5 (by omega)
                  refine l_bipush rfl rfl ?_
                  refine l_icmp_ne rfl rfl (by unfold rg; omega) (by unfold rg; omega) (fun w69 => ?_) (fun w70 => ?_)
                  · refine l_iconst rfl ?_
                    refine l_istore rfl rfl rfl ?_
                    refine l_aload_n rfl rfl ?_
                    refine l_gfi rfl rfl rfl rfl rfl ?_
                    refine l_if_ne rfl rfl (by unfold rg; omega) (fun w71 => ?_) (fun w72 => ?_)
                    · refine l_aload_n rfl rfl ?_
                      refine l_gfi rfl rfl rfl rfl rfl ?_
                      refine l_if_ne rfl rfl (by unfold rg; omega) (fun w73 => ?_) (fun w74 => ?_)
                      · refine l_iinc rfl rfl rfl rfl ?_
                        refine l_goto rfl rfl ?_
                        have w75 : Xi U5 900 5 = Xi U4 900 5 := (show Xi U5 900 5 = Xi U4 900 5 from by rw [eU5]; exact Xi_ne (by omega))
                        have w76 : 0 ≤ Xi U4 900 5 ∧ Xi U4 900 5 ≤ 301 := hHU4.c _ _
                        have w77 : 0 ≤ Xi U5 900 6 ∧ Xi U5 900 6 ≤ 1 := hHU5.c _ _
                        exact Rl_weak (ih87 _ (by omega) U5 hHU5 hFU5 (v5) (rr) (0) (v8) ((v9 + 1)) (by omega) (by omega) (by omega) (by omega) (by omega) (by first | assumption | exact (TX_FR (FR_e eU5) rfl (TX_FR (FR_e eU4) rfl (by assumption : TX T2)))) (by omega) (by omega) (by omega) (by omega) (by omega) (by omega) rfl) (And.intro rfl (And.intro rfl (And.intro rfl (And.intro rfl (And.intro rfl (And.intro rfl (And.intro rfl (And.intro rfl (And.intro rfl (And.intro rfl (True.intro)))))))))))
                      · refine l_aload_n rfl rfl ?_
                        refine l_aload rfl rfl ?_
                        refine l_iload_n rfl rfl ?_
                        refine l_iload rfl rfl ?_
                        have w78 : Xi U5 900 5 = Xi U4 900 5 := (show Xi U5 900 5 = Xi U4 900 5 from by rw [eU5]; exact Xi_ne (by omega))
                        have w79 : 0 ≤ Xi U4 900 5 ∧ Xi U4 900 5 ≤ 301 := hHU4.c _ _
                        have w80 : 0 ≤ Xi U5 900 6 ∧ Xi U5 900 6 ≤ 1 := hHU5.c _ _
                        refine l_callV rfl rfl rfl (hrec hHU5 z67 noun dr (by omega) ⟨by omega, by omega⟩ ⟨by omega, by omega⟩ (CLok_sG hH (FR_sC hH hFU5 rfl rfl) (by omega) (by omega) (RUL_ph (i := rr) (k := Xi S (248 + rr) 4 + Xi S (248 + rr) 5 + v9) hR (by omega) (rN_n hn (by omega)) (by omega) (by omega) (by omega))) (by first | assumption | exact TX_FR hFU5 rfl hX) (by first | assumption | exact DEF_FR hH hFU5 rfl rfl hD) (by first | assumption | exact RUL_FR hH hFU5 rfl rfl hR) (by first | assumption | exact ORD_FR hFU5 rfl hO) (by first | assumption | exact AK_FR hFU5 rfl hA) (by first | assumption | omega) (by omega)) ?_
                        rintro _ T6 ⟨hHT6, w84, rfl, w81, w82⟩
                        have hFT6 : FR md_tu_runRules S T6 := FR.tr hFU5 w84 rfl
                        show Rl _ _ _ _ _ [] _ _
                        refine l_iinc rfl rfl rfl rfl ?_
                        refine l_goto rfl rfl ?_
                        have w85 : 0 ≤ Xi T6 900 5 ∧ Xi T6 900 5 ≤ 301 := hHT6.c _ _
                        have w86 : 0 ≤ Xi T6 900 6 ∧ Xi T6 900 6 ≤ 1 := hHT6.c _ _
                        exact Rl_weak (ih87 _ (by omega) T6 hHT6 hFT6 (v5) (rr) (0) (v8) ((v9 + 1)) (by omega) (by omega) (by omega) (by omega) (by omega) (by first | assumption | exact (by assumption : TX T6)) (by omega) (by omega) (by omega) (by omega) (by omega) (by omega) rfl) (And.intro rfl (And.intro rfl (And.intro rfl (And.intro rfl (And.intro rfl (And.intro rfl (And.intro rfl (And.intro rfl (And.intro rfl (And.intro rfl (True.intro)))))))))))
                    · refine l_aload rfl rfl ?_
                      refine l_gfi rfl rfl rfl (layCl (by omega)) rfl ?_
                      refine l_bipush rfl rfl ?_
                      refine l_icmp_ne rfl rfl (by unfold rg; omega) (by unfold rg; omega) (fun w87 => ?_) (fun w88 => ?_)
                      · refine l_aload_n rfl rfl ?_
                        refine l_gfi rfl rfl rfl rfl rfl ?_
                        refine l_if_ne rfl rfl (by unfold rg; omega) (fun w89 => ?_) (fun w90 => ?_)
                        · refine l_iinc rfl rfl rfl rfl ?_
                          refine l_goto rfl rfl ?_
                          have w91 : Xi U5 900 5 = Xi U4 900 5 := (show Xi U5 900 5 = Xi U4 900 5 from by rw [eU5]; exact Xi_ne (by omega))
                          have w92 : 0 ≤ Xi U4 900 5 ∧ Xi U4 900 5 ≤ 301 := hHU4.c _ _
                          have w93 : 0 ≤ Xi U5 900 6 ∧ Xi U5 900 6 ≤ 1 := hHU5.c _ _
                          exact Rl_weak (ih87 _ (by omega) U5 hHU5 hFU5 (v5) (rr) (0) (v8) ((v9 + 1)) (by omega) (by omega) (by omega) (by omega) (by omega) (by first | assumption | exact (TX_FR (FR_e eU5) rfl (TX_FR (FR_e eU4) rfl (by assumption : TX T2)))) (by omega) (by omega) (by omega) (by omega) (by omega) (by omega) rfl) (And.intro rfl (And.intro rfl (And.intro rfl (And.intro rfl (And.intro rfl (And.intro rfl (And.intro rfl (And.intro rfl (And.intro rfl (And.intro rfl (True.intro)))))))))))
                        · refine l_aload_n rfl rfl ?_
                          refine l_aload rfl rfl ?_
                          refine l_iload_n rfl rfl ?_
                          refine l_iload rfl rfl ?_
                          have w94 : Xi U5 900 5 = Xi U4 900 5 := (show Xi U5 900 5 = Xi U4 900 5 from by rw [eU5]; exact Xi_ne (by omega))
                          have w95 : 0 ≤ Xi U4 900 5 ∧ Xi U4 900 5 ≤ 301 := hHU4.c _ _
                          have w96 : 0 ≤ Xi U5 900 6 ∧ Xi U5 900 6 ≤ 1 := hHU5.c _ _
                          refine l_callV rfl rfl rfl (hrec hHU5 z67 noun dr (by omega) ⟨by omega, by omega⟩ ⟨by omega, by omega⟩ (CLok_sG hH (FR_sC hH hFU5 rfl rfl) (by omega) (by omega) (RUL_ph (i := rr) (k := Xi S (248 + rr) 4 + Xi S (248 + rr) 5 + v9) hR (by omega) (rN_n hn (by omega)) (by omega) (by omega) (by omega))) (by first | assumption | exact TX_FR hFU5 rfl hX) (by first | assumption | exact DEF_FR hH hFU5 rfl rfl hD) (by first | assumption | exact RUL_FR hH hFU5 rfl rfl hR) (by first | assumption | exact ORD_FR hFU5 rfl hO) (by first | assumption | exact AK_FR hFU5 rfl hA) (by first | assumption | omega) (by omega)) ?_
                          rintro _ T7 ⟨hHT7, w100, rfl, w97, w98⟩
                          have hFT7 : FR md_tu_runRules S T7 := FR.tr hFU5 w100 rfl
                          show Rl _ _ _ _ _ [] _ _
                          refine l_iinc rfl rfl rfl rfl ?_
                          refine l_goto rfl rfl ?_
                          have w101 : 0 ≤ Xi T7 900 5 ∧ Xi T7 900 5 ≤ 301 := hHT7.c _ _
                          have w102 : 0 ≤ Xi T7 900 6 ∧ Xi T7 900 6 ≤ 1 := hHT7.c _ _
                          exact Rl_weak (ih87 _ (by omega) T7 hHT7 hFT7 (v5) (rr) (0) (v8) ((v9 + 1)) (by omega) (by omega) (by omega) (by omega) (by omega) (by first | assumption | exact (by assumption : TX T7)) (by omega) (by omega) (by omega) (by omega) (by omega) (by omega) rfl) (And.intro rfl (And.intro rfl (And.intro rfl (And.intro rfl (And.intro rfl (And.intro rfl (And.intro rfl (And.intro rfl (And.intro rfl (And.intro rfl (True.intro)))))))))))
                      · refine l_aload_n rfl rfl ?_
                        refine l_aload rfl rfl ?_
                        refine l_iload_n rfl rfl ?_
                        refine l_callV rfl rfl rfl (t_tu_sayText hHU5 z67 noun (by omega) ⟨by omega, by omega⟩ (CLok_sG hH (FR_sC hH hFU5 rfl rfl) (by omega) (by omega) (RUL_ph (i := rr) (k := Xi S (248 + rr) 4 + Xi S (248 + rr) 5 + v9) hR (by omega) (rN_n hn (by omega)) (by omega) (by omega) (by omega))) (by first | assumption | omega) (by first | assumption | exact TX_FR hFU5 rfl hX) _) ?_
                        rintro _ T8 ⟨hHT8, w105, rfl, w103⟩
                        have hFT8 : FR md_tu_runRules S T8 := FR.tr hFU5 w105 rfl
                        show Rl _ _ _ _ _ [] _ _
                        refine l_goto rfl rfl ?_
                        refine l_iinc rfl rfl rfl rfl ?_
                        refine l_goto rfl rfl ?_
                        have w106 : Xi T8 900 5 = Xi U4 900 5 := (show Xi T8 900 5 = Xi U5 900 5 from w105.x _ _ rfl).trans ((show Xi U5 900 5 = Xi U4 900 5 from by rw [eU5]; exact Xi_ne (by omega)))
                        have w107 : 0 ≤ Xi U4 900 5 ∧ Xi U4 900 5 ≤ 301 := hHU4.c _ _
                        have w108 : Xi T8 900 6 = Xi U5 900 6 := (show Xi T8 900 6 = Xi U5 900 6 from w105.x _ _ rfl)
                        have w109 : 0 ≤ Xi U5 900 6 ∧ Xi U5 900 6 ≤ 1 := hHU5.c _ _
                        exact Rl_weak (ih87 _ (by omega) T8 hHT8 hFT8 (v5) (rr) (0) (v8) ((v9 + 1)) (by omega) (by omega) (by omega) (by omega) (by omega) (by first | assumption | exact (TX_FR w105 rfl (TX_FR (FR_e eU5) rfl (TX_FR (FR_e eU4) rfl (by assumption : TX T2))))) (by omega) (by omega) (by omega) (by omega) (by omega) (by omega) rfl) (And.intro rfl (And.intro rfl (And.intro rfl (And.intro rfl (And.intro rfl (And.intro rfl (And.intro rfl (And.intro rfl (And.intro rfl (And.intro rfl (True.intro)))))))))))
                  · refine l_iconst rfl ?_
                    refine l_goto rfl rfl ?_
                    refine l_istore rfl rfl rfl ?_
                    refine l_aload_n rfl rfl ?_
                    refine l_gfi rfl rfl rfl rfl rfl ?_
                    refine l_if_ne rfl rfl (by unfold rg; omega) (fun w110 => ?_) (fun w111 => ?_)
                    · refine l_aload_n rfl rfl ?_
                      refine l_gfi rfl rfl rfl rfl rfl ?_
                      refine l_if_ne rfl rfl (by unfold rg; omega) (fun w112 => ?_) (fun w113 => ?_)
                      · refine l_iinc rfl rfl rfl rfl ?_
                        refine l_goto rfl rfl ?_
                        have w114 : Xi U5 900 5 = Xi U4 900 5 := (show Xi U5 900 5 = Xi U4 900 5 from by rw [eU5]; exact Xi_ne (by omega))
                        have w115 : 0 ≤ Xi U4 900 5 ∧ Xi U4 900 5 ≤ 301 := hHU4.c _ _
                        have w116 : 0 ≤ Xi U5 900 6 ∧ Xi U5 900 6 ≤ 1 := hHU5.c _ _
                        exact Rl_weak (ih87 _ (by omega) U5 hHU5 hFU5 (v5) (rr) (1) (v8) ((v9 + 1)) (by omega) (by omega) (by omega) (by omega) (by omega) (by first | assumption | exact (TX_FR (FR_e eU5) rfl (TX_FR (FR_e eU4) rfl (by assumption : TX T2)))) (by omega) (by omega) (by omega) (by omega) (by omega) (by omega) rfl) (And.intro rfl (And.intro rfl (And.intro rfl (And.intro rfl (And.intro rfl (And.intro rfl (And.intro rfl (And.intro rfl (And.intro rfl (And.intro rfl (True.intro)))))))))))
                      · refine l_aload_n rfl rfl ?_
                        refine l_aload rfl rfl ?_
                        refine l_iload_n rfl rfl ?_
                        refine l_iload rfl rfl ?_
                        have w117 : Xi U5 900 5 = Xi U4 900 5 := (show Xi U5 900 5 = Xi U4 900 5 from by rw [eU5]; exact Xi_ne (by omega))
                        have w118 : 0 ≤ Xi U4 900 5 ∧ Xi U4 900 5 ≤ 301 := hHU4.c _ _
                        have w119 : 0 ≤ Xi U5 900 6 ∧ Xi U5 900 6 ≤ 1 := hHU5.c _ _
                        refine l_callV rfl rfl rfl (hrec hHU5 z67 noun dr (by omega) ⟨by omega, by omega⟩ ⟨by omega, by omega⟩ (CLok_sG hH (FR_sC hH hFU5 rfl rfl) (by omega) (by omega) (RUL_ph (i := rr) (k := Xi S (248 + rr) 4 + Xi S (248 + rr) 5 + v9) hR (by omega) (rN_n hn (by omega)) (by omega) (by omega) (by omega))) (by first | assumption | exact TX_FR hFU5 rfl hX) (by first | assumption | exact DEF_FR hH hFU5 rfl rfl hD) (by first | assumption | exact RUL_FR hH hFU5 rfl rfl hR) (by first | assumption | exact ORD_FR hFU5 rfl hO) (by first | assumption | exact AK_FR hFU5 rfl hA) (by first | assumption | omega) (by omega)) ?_
                        rintro _ T9 ⟨hHT9, w123, rfl, w120, w121⟩
                        have hFT9 : FR md_tu_runRules S T9 := FR.tr hFU5 w123 rfl
                        show Rl _ _ _ _ _ [] _ _
                        refine l_iinc rfl rfl rfl rfl ?_
                        refine l_goto rfl rfl ?_
                        have w124 : 0 ≤ Xi T9 900 5 ∧ Xi T9 900 5 ≤ 301 := hHT9.c _ _
                        have w125 : 0 ≤ Xi T9 900 6 ∧ Xi T9 900 6 ≤ 1 := hHT9.c _ _
                        exact Rl_weak (ih87 _ (by omega) T9 hHT9 hFT9 (v5) (rr) (1) (v8) ((v9 + 1)) (by omega) (by omega) (by omega) (by omega) (by omega) (by first | assumption | exact (by assumption : TX T9)) (by omega) (by omega) (by omega) (by omega) (by omega) (by omega) rfl) (And.intro rfl (And.intro rfl (And.intro rfl (And.intro rfl (And.intro rfl (And.intro rfl (And.intro rfl (And.intro rfl (And.intro rfl (And.intro rfl (True.intro)))))))))))
                    · refine l_aload rfl rfl ?_
                      refine l_gfi rfl rfl rfl (layCl (by omega)) rfl ?_
                      refine l_bipush rfl rfl ?_
                      refine l_icmp_ne rfl rfl (by unfold rg; omega) (by unfold rg; omega) (fun w126 => ?_) (fun w127 => ?_)
                      · refine l_aload_n rfl rfl ?_
                        refine l_gfi rfl rfl rfl rfl rfl ?_
                        refine l_if_ne rfl rfl (by unfold rg; omega) (fun w128 => ?_) (fun w129 => ?_)
                        · refine l_iinc rfl rfl rfl rfl ?_
                          refine l_goto rfl rfl ?_
                          have w130 : Xi U5 900 5 = Xi U4 900 5 := (show Xi U5 900 5 = Xi U4 900 5 from by rw [eU5]; exact Xi_ne (by omega))
                          have w131 : 0 ≤ Xi U4 900 5 ∧ Xi U4 900 5 ≤ 301 := hHU4.c _ _
                          have w132 : 0 ≤ Xi U5 900 6 ∧ Xi U5 900 6 ≤ 1 := hHU5.c _ _
                          exact Rl_weak (ih87 _ (by omega) U5 hHU5 hFU5 (v5) (rr) (1) (v8) ((v9 + 1)) (by omega) (by omega) (by omega) (by omega) (by omega) (by first | assumption | exact (TX_FR (FR_e eU5) rfl (TX_FR (FR_e eU4) rfl (by assumption : TX T2)))) (by omega) (by omega) (by omega) (by omega) (by omega) (by omega) rfl) (And.intro rfl (And.intro rfl (And.intro rfl (And.intro rfl (And.intro rfl (And.intro rfl (And.intro rfl (And.intro rfl (And.intro rfl (And.intro rfl (True.intro)))))))))))
                        · refine l_aload_n rfl rfl ?_
                          refine l_aload rfl rfl ?_
                          refine l_iload_n rfl rfl ?_
                          refine l_iload rfl rfl ?_
                          have w133 : Xi U5 900 5 = Xi U4 900 5 := (show Xi U5 900 5 = Xi U4 900 5 from by rw [eU5]; exact Xi_ne (by omega))
                          have w134 : 0 ≤ Xi U4 900 5 ∧ Xi U4 900 5 ≤ 301 := hHU4.c _ _
                          have w135 : 0 ≤ Xi U5 900 6 ∧ Xi U5 900 6 ≤ 1 := hHU5.c _ _
                          refine l_callV rfl rfl rfl (hrec hHU5 z67 noun dr (by omega) ⟨by omega, by omega⟩ ⟨by omega, by omega⟩ (CLok_sG hH (FR_sC hH hFU5 rfl rfl) (by omega) (by omega) (RUL_ph (i := rr) (k := Xi S (248 + rr) 4 + Xi S (248 + rr) 5 + v9) hR (by omega) (rN_n hn (by omega)) (by omega) (by omega) (by omega))) (by first | assumption | exact TX_FR hFU5 rfl hX) (by first | assumption | exact DEF_FR hH hFU5 rfl rfl hD) (by first | assumption | exact RUL_FR hH hFU5 rfl rfl hR) (by first | assumption | exact ORD_FR hFU5 rfl hO) (by first | assumption | exact AK_FR hFU5 rfl hA) (by first | assumption | omega) (by omega)) ?_
                          rintro _ T10 ⟨hHT10, w139, rfl, w136, w137⟩
                          have hFT10 : FR md_tu_runRules S T10 := FR.tr hFU5 w139 rfl
                          show Rl _ _ _ _ _ [] _ _
                          refine l_iinc rfl rfl rfl rfl ?_
                          refine l_goto rfl rfl ?_
                          have w140 : 0 ≤ Xi T10 900 5 ∧ Xi T10 900 5 ≤ 301 := hHT10.c _ _
                          have w141 : 0 ≤ Xi T10 900 6 ∧ Xi T10 900 6 ≤ 1 := hHT10.c _ _
                          exact Rl_weak (ih87 _ (by omega) T10 hHT10 hFT10 (v5) (rr) (1) (v8) ((v9 + 1)) (by omega) (by omega) (by omega) (by omega) (by omega) (by first | assumption | exact (by assumption : TX T10)) (by omega) (by omega) (by omega) (by omega) (by omega) (by omega) rfl) (And.intro rfl (And.intro rfl (And.intro rfl (And.intro rfl (And.intro rfl (And.intro rfl (And.intro rfl (And.intro rfl (And.intro rfl (And.intro rfl (True.intro)))))))))))
                      · refine l_aload_n rfl rfl ?_
                        refine l_aload rfl rfl ?_
                        refine l_iload_n rfl rfl ?_
                        refine l_callV rfl rfl rfl (t_tu_sayText hHU5 z67 noun (by omega) ⟨by omega, by omega⟩ (CLok_sG hH (FR_sC hH hFU5 rfl rfl) (by omega) (by omega) (RUL_ph (i := rr) (k := Xi S (248 + rr) 4 + Xi S (248 + rr) 5 + v9) hR (by omega) (rN_n hn (by omega)) (by omega) (by omega) (by omega))) (by first | assumption | omega) (by first | assumption | exact TX_FR hFU5 rfl hX) _) ?_
                        rintro _ T11 ⟨hHT11, w144, rfl, w142⟩
                        have hFT11 : FR md_tu_runRules S T11 := FR.tr hFU5 w144 rfl
                        show Rl _ _ _ _ _ [] _ _
                        refine l_goto rfl rfl ?_
                        refine l_iinc rfl rfl rfl rfl ?_
                        refine l_goto rfl rfl ?_
                        have w145 : Xi T11 900 5 = Xi U4 900 5 := (show Xi T11 900 5 = Xi U5 900 5 from w144.x _ _ rfl).trans ((show Xi U5 900 5 = Xi U4 900 5 from by rw [eU5]; exact Xi_ne (by omega)))
                        have w146 : 0 ≤ Xi U4 900 5 ∧ Xi U4 900 5 ≤ 301 := hHU4.c _ _
                        have w147 : Xi T11 900 6 = Xi U5 900 6 := (show Xi T11 900 6 = Xi U5 900 6 from w144.x _ _ rfl)
                        have w148 : 0 ≤ Xi U5 900 6 ∧ Xi U5 900 6 ≤ 1 := hHU5.c _ _
                        exact Rl_weak (ih87 _ (by omega) T11 hHT11 hFT11 (v5) (rr) (1) (v8) ((v9 + 1)) (by omega) (by omega) (by omega) (by omega) (by omega) (by first | assumption | exact (TX_FR w144 rfl (TX_FR (FR_e eU5) rfl (TX_FR (FR_e eU4) rfl (by assumption : TX T2))))) (by omega) (by omega) (by omega) (by omega) (by omega) (by omega) rfl) (And.intro rfl (And.intro rfl (And.intro rfl (And.intro rfl (And.intro rfl (And.intro rfl (And.intro rfl (And.intro rfl (And.intro rfl (And.intro rfl (True.intro)))))))))))
                · refine l_iconst rfl ?_
                  refine l_goto rfl rfl ?_
                  refine l_pfz rfl rfl rfl rfl (by omega) ?_
                  obtain ⟨U12, eU12⟩ : ∃ T : sS, T = uI U4 900 6 (Int32.ofInt 1) := ⟨_, rfl⟩
                  rw [← eU12]
                  have hHU12 : HI U12 := by rw [eU12]; exact HI_w hHU4 (show 0 ≤ 1 by omega) (show 1 ≤ 1 by omega)
                  have hFU12 : FR md_tu_runRules S U12 := by rw [eU12]; exact FR.wI hFU4 (mdf_i (r := (900, 901, 6, 7)) (List.mem_of_getElem? (i := 9) rfl) (inR_i (by omega) (by omega) (by omega) (by omega)))
                  have w149 : Xi U12 900 6 = 1 := by rw [eU12]; exact Xi_same (by unfold rg; omega)
                  have hXw2 : TX U12 := TX_w eU12 rfl (by assumption)
                  refine l_aload_n rfl rfl ?_
                  refine l_gfr rfl rfl rfl rfl rfl (hHU12.r 900 2 246 rfl) ?_
                  refine l_iload rfl rfl ?_
                  refine l_iload rfl rfl ?_
                  refine l_iadd rfl ?_
                  refine l_callV rfl rfl rfl (t_bo_clauseAt hHU12 (v8 + v9) ⟨by omega, by omega⟩ _) ?_
                  rintro _ _ ⟨rfl, z151, rfl, w151, w150⟩
                  show Rl _ _ _ _ _ [.ref (276 + z151)] _ _
                  refine l_astore rfl rfl rfl ?_
                  refine l_aload rfl rfl ?_
                  refine l_gfi rfl rfl rfl (layCl (by omega)) rfl ?_
                  have w152 : 0 ≤ (Xi U12 (276 + z151) 0) ∧ (Xi U12 (276 + z151) 0) ≤ 11 := clc0 hHU12 (by omega)
                  refine l_bipush rfl rfl ?_
                  refine l_icmp_ne rfl rfl (by unfold rg; omega) (by unfold rg; omega) (fun w153 => ?_) (fun w154 => ?_)
                  · refine l_iconst rfl ?_
                    refine l_istore rfl rfl rfl ?_
                    refine l_aload_n rfl rfl ?_
                    refine l_gfi rfl rfl rfl rfl rfl ?_
                    refine l_if_ne rfl rfl (by unfold rg; omega) (fun w155 => ?_) (fun w156 => ?_)
                    · refine l_aload_n rfl rfl ?_
                      refine l_gfi rfl rfl rfl rfl rfl ?_
                      refine l_if_ne rfl rfl (by unfold rg; omega) (fun w157 => ?_) (fun w158 => ?_)
                      · refine l_iinc rfl rfl rfl rfl ?_
                        refine l_goto rfl rfl ?_
                        have w159 : Xi U12 900 5 = Xi U4 900 5 := (show Xi U12 900 5 = Xi U4 900 5 from by rw [eU12]; exact Xi_ne (by omega))
                        have w160 : 0 ≤ Xi U4 900 5 ∧ Xi U4 900 5 ≤ 301 := hHU4.c _ _
                        have w161 : 0 ≤ Xi U12 900 6 ∧ Xi U12 900 6 ≤ 1 := hHU12.c _ _
                        exact Rl_weak (ih87 _ (by omega) U12 hHU12 hFU12 (v5) (rr) (0) (v8) ((v9 + 1)) (by omega) (by omega) (by omega) (by omega) (by omega) (by first | assumption | exact (TX_FR (FR_e eU12) rfl (TX_FR (FR_e eU4) rfl (by assumption : TX T2)))) (by omega) (by omega) (by omega) (by omega) (by omega) (by omega) rfl) (And.intro rfl (And.intro rfl (And.intro rfl (And.intro rfl (And.intro rfl (And.intro rfl (And.intro rfl (And.intro rfl (And.intro rfl (And.intro rfl (True.intro)))))))))))
                      · refine l_aload_n rfl rfl ?_
                        refine l_aload rfl rfl ?_
                        refine l_iload_n rfl rfl ?_
                        refine l_iload rfl rfl ?_
                        have w162 : Xi U12 900 5 = Xi U4 900 5 := (show Xi U12 900 5 = Xi U4 900 5 from by rw [eU12]; exact Xi_ne (by omega))
                        have w163 : 0 ≤ Xi U4 900 5 ∧ Xi U4 900 5 ≤ 301 := hHU4.c _ _
                        have w164 : 0 ≤ Xi U12 900 6 ∧ Xi U12 900 6 ≤ 1 := hHU12.c _ _
                        refine l_callV rfl rfl rfl (hrec hHU12 z151 noun dr (by omega) ⟨by omega, by omega⟩ ⟨by omega, by omega⟩ (CLok_sG hH (FR_sC hH hFU12 rfl rfl) (by omega) (by omega) (RUL_ph (i := rr) (k := Xi S (248 + rr) 4 + Xi S (248 + rr) 5 + v9) hR (by omega) (rN_n hn (by omega)) (by omega) (by omega) (by omega))) (by first | assumption | exact TX_FR hFU12 rfl hX) (by first | assumption | exact DEF_FR hH hFU12 rfl rfl hD) (by first | assumption | exact RUL_FR hH hFU12 rfl rfl hR) (by first | assumption | exact ORD_FR hFU12 rfl hO) (by first | assumption | exact AK_FR hFU12 rfl hA) (by first | assumption | omega) (by omega)) ?_
                        rintro _ T13 ⟨hHT13, w168, rfl, w165, w166⟩
                        have hFT13 : FR md_tu_runRules S T13 := FR.tr hFU12 w168 rfl
                        show Rl _ _ _ _ _ [] _ _
                        refine l_iinc rfl rfl rfl rfl ?_
                        refine l_goto rfl rfl ?_
                        have w169 : 0 ≤ Xi T13 900 5 ∧ Xi T13 900 5 ≤ 301 := hHT13.c _ _
                        have w170 : 0 ≤ Xi T13 900 6 ∧ Xi T13 900 6 ≤ 1 := hHT13.c _ _
                        exact Rl_weak (ih87 _ (by omega) T13 hHT13 hFT13 (v5) (rr) (0) (v8) ((v9 + 1)) (by omega) (by omega) (by omega) (by omega) (by omega) (by first | assumption | exact (by assumption : TX T13)) (by omega) (by omega) (by omega) (by omega) (by omega) (by omega) rfl) (And.intro rfl (And.intro rfl (And.intro rfl (And.intro rfl (And.intro rfl (And.intro rfl (And.intro rfl (And.intro rfl (And.intro rfl (And.intro rfl (True.intro)))))))))))
                    · refine l_aload rfl rfl ?_
                      refine l_gfi rfl rfl rfl (layCl (by omega)) rfl ?_
                      refine l_bipush rfl rfl ?_
                      refine l_icmp_ne rfl rfl (by unfold rg; omega) (by unfold rg; omega) (fun w171 => ?_) (fun w172 => ?_)
                      · refine l_aload_n rfl rfl ?_
                        refine l_gfi rfl rfl rfl rfl rfl ?_
                        refine l_if_ne rfl rfl (by unfold rg; omega) (fun w173 => ?_) (fun w174 => ?_)
                        · refine l_iinc rfl rfl rfl rfl ?_
                          refine l_goto rfl rfl ?_
                          have w175 : Xi U12 900 5 = Xi U4 900 5 := (show Xi U12 900 5 = Xi U4 900 5 from by rw [eU12]; exact Xi_ne (by omega))
                          have w176 : 0 ≤ Xi U4 900 5 ∧ Xi U4 900 5 ≤ 301 := hHU4.c _ _
                          have w177 : 0 ≤ Xi U12 900 6 ∧ Xi U12 900 6 ≤ 1 := hHU12.c _ _
                          exact Rl_weak (ih87 _ (by omega) U12 hHU12 hFU12 (v5) (rr) (0) (v8) ((v9 + 1)) (by omega) (by omega) (by omega) (by omega) (by omega) (by first | assumption | exact (TX_FR (FR_e eU12) rfl (TX_FR (FR_e eU4) rfl (by assumption : TX T2)))) (by omega) (by omega) (by omega) (by omega) (by omega) (by omega) rfl) (And.intro rfl (And.intro rfl (And.intro rfl (And.intro rfl (And.intro rfl (And.intro rfl (And.intro rfl (And.intro rfl (And.intro rfl (And.intro rfl (True.intro)))))))))))
                        · refine l_aload_n rfl rfl ?_
                          refine l_aload rfl rfl ?_
                          refine l_iload_n rfl rfl ?_
                          refine l_iload rfl rfl ?_
                          have w178 : Xi U12 900 5 = Xi U4 900 5 := (show Xi U12 900 5 = Xi U4 900 5 from by rw [eU12]; exact Xi_ne (by omega))
                          have w179 : 0 ≤ Xi U4 900 5 ∧ Xi U4 900 5 ≤ 301 := hHU4.c _ _
                          have w180 : 0 ≤ Xi U12 900 6 ∧ Xi U12 900 6 ≤ 1 := hHU12.c _ _
                          refine l_callV rfl rfl rfl (hrec hHU12 z151 noun dr (by omega) ⟨by omega, by omega⟩ ⟨by omega, by omega⟩ (CLok_sG hH (FR_sC hH hFU12 rfl rfl) (by omega) (by omega) (RUL_ph (i := rr) (k := Xi S (248 + rr) 4 + Xi S (248 + rr) 5 + v9) hR (by omega) (rN_n hn (by omega)) (by omega) (by omega) (by omega))) (by first | assumption | exact TX_FR hFU12 rfl hX) (by first | assumption | exact DEF_FR hH hFU12 rfl rfl hD) (by first | assumption | exact RUL_FR hH hFU12 rfl rfl hR) (by first | assumption | exact ORD_FR hFU12 rfl hO) (by first | assumption | exact AK_FR hFU12 rfl hA) (by first | assumption | omega) (by omega)) ?_
                          rintro _ T14 ⟨hHT14, w184, rfl, w181, w182⟩
                          have hFT14 : FR md_tu_runRules S T14 := FR.tr hFU12 w184 rfl
                          show Rl _ _ _ _ _ [] _ _
                          refine l_iinc rfl rfl rfl rfl ?_
                          refine l_goto rfl rfl ?_
                          have w185 : 0 ≤ Xi T14 900 5 ∧ Xi T14 900 5 ≤ 301 := hHT14.c _ _
                          have w186 : 0 ≤ Xi T14 900 6 ∧ Xi T14 900 6 ≤ 1 := hHT14.c _ _
                          exact Rl_weak (ih87 _ (by omega) T14 hHT14 hFT14 (v5) (rr) (0) (v8) ((v9 + 1)) (by omega) (by omega) (by omega) (by omega) (by omega) (by first | assumption | exact (by assumption : TX T14)) (by omega) (by omega) (by omega) (by omega) (by omega) (by omega) rfl) (And.intro rfl (And.intro rfl (And.intro rfl (And.intro rfl (And.intro rfl (And.intro rfl (And.intro rfl (And.intro rfl (And.intro rfl (And.intro rfl (True.intro)))))))))))
                      · refine l_aload_n rfl rfl ?_
                        refine l_aload rfl rfl ?_
                        refine l_iload_n rfl rfl ?_
                        refine l_callV rfl rfl rfl (t_tu_sayText hHU12 z151 noun (by omega) ⟨by omega, by omega⟩ (CLok_sG hH (FR_sC hH hFU12 rfl rfl) (by omega) (by omega) (RUL_ph (i := rr) (k := Xi S (248 + rr) 4 + Xi S (248 + rr) 5 + v9) hR (by omega) (rN_n hn (by omega)) (by omega) (by omega) (by omega))) (by first | assumption | omega) (by first | assumption | exact TX_FR hFU12 rfl hX) _) ?_
                        rintro _ T15 ⟨hHT15, w189, rfl, w187⟩
                        have hFT15 : FR md_tu_runRules S T15 := FR.tr hFU12 w189 rfl
                        show Rl _ _ _ _ _ [] _ _
                        refine l_goto rfl rfl ?_
                        refine l_iinc rfl rfl rfl rfl ?_
                        refine l_goto rfl rfl ?_
                        have w190 : Xi T15 900 5 = Xi U4 900 5 := (show Xi T15 900 5 = Xi U12 900 5 from w189.x _ _ rfl).trans ((show Xi U12 900 5 = Xi U4 900 5 from by rw [eU12]; exact Xi_ne (by omega)))
                        have w191 : 0 ≤ Xi U4 900 5 ∧ Xi U4 900 5 ≤ 301 := hHU4.c _ _
                        have w192 : Xi T15 900 6 = Xi U12 900 6 := (show Xi T15 900 6 = Xi U12 900 6 from w189.x _ _ rfl)
                        have w193 : 0 ≤ Xi U12 900 6 ∧ Xi U12 900 6 ≤ 1 := hHU12.c _ _
                        exact Rl_weak (ih87 _ (by omega) T15 hHT15 hFT15 (v5) (rr) (0) (v8) ((v9 + 1)) (by omega) (by omega) (by omega) (by omega) (by omega) (by first | assumption | exact (TX_FR w189 rfl (TX_FR (FR_e eU12) rfl (TX_FR (FR_e eU4) rfl (by assumption : TX T2))))) (by omega) (by omega) (by omega) (by omega) (by omega) (by omega) rfl) (And.intro rfl (And.intro rfl (And.intro rfl (And.intro rfl (And.intro rfl (And.intro rfl (And.intro rfl (And.intro rfl (And.intro rfl (And.intro rfl (True.intro)))))))))))
                  · refine l_iconst rfl ?_
                    refine l_goto rfl rfl ?_
                    refine l_istore rfl rfl rfl ?_
                    refine l_aload_n rfl rfl ?_
                    refine l_gfi rfl rfl rfl rfl rfl ?_
                    refine l_if_ne rfl rfl (by unfold rg; omega) (fun w194 => ?_) (fun w195 => ?_)
                    · refine l_aload_n rfl rfl ?_
                      refine l_gfi rfl rfl rfl rfl rfl ?_
                      refine l_if_ne rfl rfl (by unfold rg; omega) (fun w196 => ?_) (fun w197 => ?_)
                      · refine l_iinc rfl rfl rfl rfl ?_
                        refine l_goto rfl rfl ?_
                        have w198 : Xi U12 900 5 = Xi U4 900 5 := (show Xi U12 900 5 = Xi U4 900 5 from by rw [eU12]; exact Xi_ne (by omega))
                        have w199 : 0 ≤ Xi U4 900 5 ∧ Xi U4 900 5 ≤ 301 := hHU4.c _ _
                        have w200 : 0 ≤ Xi U12 900 6 ∧ Xi U12 900 6 ≤ 1 := hHU12.c _ _
                        exact Rl_weak (ih87 _ (by omega) U12 hHU12 hFU12 (v5) (rr) (1) (v8) ((v9 + 1)) (by omega) (by omega) (by omega) (by omega) (by omega) (by first | assumption | exact (TX_FR (FR_e eU12) rfl (TX_FR (FR_e eU4) rfl (by assumption : TX T2)))) (by omega) (by omega) (by omega) (by omega) (by omega) (by omega) rfl) (And.intro rfl (And.intro rfl (And.intro rfl (And.intro rfl (And.intro rfl (And.intro rfl (And.intro rfl (And.intro rfl (And.intro rfl (And.intro rfl (True.intro)))))))))))
                      · refine l_aload_n rfl rfl ?_
                        refine l_aload rfl rfl ?_
                        refine l_iload_n rfl rfl ?_
                        refine l_iload rfl rfl ?_
                        have w201 : Xi U12 900 5 = Xi U4 900 5 := (show Xi U12 900 5 = Xi U4 900 5 from by rw [eU12]; exact Xi_ne (by omega))
                        have w202 : 0 ≤ Xi U4 900 5 ∧ Xi U4 900 5 ≤ 301 := hHU4.c _ _
                        have w203 : 0 ≤ Xi U12 900 6 ∧ Xi U12 900 6 ≤ 1 := hHU12.c _ _
                        refine l_callV rfl rfl rfl (hrec hHU12 z151 noun dr (by omega) ⟨by omega, by omega⟩ ⟨by omega, by omega⟩ (CLok_sG hH (FR_sC hH hFU12 rfl rfl) (by omega) (by omega) (RUL_ph (i := rr) (k := Xi S (248 + rr) 4 + Xi S (248 + rr) 5 + v9) hR (by omega) (rN_n hn (by omega)) (by omega) (by omega) (by omega))) (by first | assumption | exact TX_FR hFU12 rfl hX) (by first | assumption | exact DEF_FR hH hFU12 rfl rfl hD) (by first | assumption | exact RUL_FR hH hFU12 rfl rfl hR) (by first | assumption | exact ORD_FR hFU12 rfl hO) (by first | assumption | exact AK_FR hFU12 rfl hA) (by first | assumption | omega) (by omega)) ?_
                        rintro _ T16 ⟨hHT16, w207, rfl, w204, w205⟩
                        have hFT16 : FR md_tu_runRules S T16 := FR.tr hFU12 w207 rfl
                        show Rl _ _ _ _ _ [] _ _
                        refine l_iinc rfl rfl rfl rfl ?_
                        refine l_goto rfl rfl ?_
                        have w208 : 0 ≤ Xi T16 900 5 ∧ Xi T16 900 5 ≤ 301 := hHT16.c _ _
                        have w209 : 0 ≤ Xi T16 900 6 ∧ Xi T16 900 6 ≤ 1 := hHT16.c _ _
                        exact Rl_weak (ih87 _ (by omega) T16 hHT16 hFT16 (v5) (rr) (1) (v8) ((v9 + 1)) (by omega) (by omega) (by omega) (by omega) (by omega) (by first | assumption | exact (by assumption : TX T16)) (by omega) (by omega) (by omega) (by omega) (by omega) (by omega) rfl) (And.intro rfl (And.intro rfl (And.intro rfl (And.intro rfl (And.intro rfl (And.intro rfl (And.intro rfl (And.intro rfl (And.intro rfl (And.intro rfl (True.intro)))))))))))
                    · refine l_aload rfl rfl ?_
                      refine l_gfi rfl rfl rfl (layCl (by omega)) rfl ?_
                      refine l_bipush rfl rfl ?_
                      refine l_icmp_ne rfl rfl (by unfold rg; omega) (by unfold rg; omega) (fun w210 => ?_) (fun w211 => ?_)
                      · refine l_aload_n rfl rfl ?_
                        refine l_gfi rfl rfl rfl rfl rfl ?_
                        refine l_if_ne rfl rfl (by unfold rg; omega) (fun w212 => ?_) (fun w213 => ?_)
                        · refine l_iinc rfl rfl rfl rfl ?_
                          refine l_goto rfl rfl ?_
                          have w214 : Xi U12 900 5 = Xi U4 900 5 := (show Xi U12 900 5 = Xi U4 900 5 from by rw [eU12]; exact Xi_ne (by omega))
                          have w215 : 0 ≤ Xi U4 900 5 ∧ Xi U4 900 5 ≤ 301 := hHU4.c _ _
                          have w216 : 0 ≤ Xi U12 900 6 ∧ Xi U12 900 6 ≤ 1 := hHU12.c _ _
                          exact Rl_weak (ih87 _ (by omega) U12 hHU12 hFU12 (v5) (rr) (1) (v8) ((v9 + 1)) (by omega) (by omega) (by omega) (by omega) (by omega) (by first | assumption | exact (TX_FR (FR_e eU12) rfl (TX_FR (FR_e eU4) rfl (by assumption : TX T2)))) (by omega) (by omega) (by omega) (by omega) (by omega) (by omega) rfl) (And.intro rfl (And.intro rfl (And.intro rfl (And.intro rfl (And.intro rfl (And.intro rfl (And.intro rfl (And.intro rfl (And.intro rfl (And.intro rfl (True.intro)))))))))))
                        · refine l_aload_n rfl rfl ?_
                          refine l_aload rfl rfl ?_
                          refine l_iload_n rfl rfl ?_
                          refine l_iload rfl rfl ?_
                          have w217 : Xi U12 900 5 = Xi U4 900 5 := (show Xi U12 900 5 = Xi U4 900 5 from by rw [eU12]; exact Xi_ne (by omega))
                          have w218 : 0 ≤ Xi U4 900 5 ∧ Xi U4 900 5 ≤ 301 := hHU4.c _ _
                          have w219 : 0 ≤ Xi U12 900 6 ∧ Xi U12 900 6 ≤ 1 := hHU12.c _ _
                          refine l_callV rfl rfl rfl (hrec hHU12 z151 noun dr (by omega) ⟨by omega, by omega⟩ ⟨by omega, by omega⟩ (CLok_sG hH (FR_sC hH hFU12 rfl rfl) (by omega) (by omega) (RUL_ph (i := rr) (k := Xi S (248 + rr) 4 + Xi S (248 + rr) 5 + v9) hR (by omega) (rN_n hn (by omega)) (by omega) (by omega) (by omega))) (by first | assumption | exact TX_FR hFU12 rfl hX) (by first | assumption | exact DEF_FR hH hFU12 rfl rfl hD) (by first | assumption | exact RUL_FR hH hFU12 rfl rfl hR) (by first | assumption | exact ORD_FR hFU12 rfl hO) (by first | assumption | exact AK_FR hFU12 rfl hA) (by first | assumption | omega) (by omega)) ?_
                          rintro _ T17 ⟨hHT17, w223, rfl, w220, w221⟩
                          have hFT17 : FR md_tu_runRules S T17 := FR.tr hFU12 w223 rfl
                          show Rl _ _ _ _ _ [] _ _
                          refine l_iinc rfl rfl rfl rfl ?_
                          refine l_goto rfl rfl ?_
                          have w224 : 0 ≤ Xi T17 900 5 ∧ Xi T17 900 5 ≤ 301 := hHT17.c _ _
                          have w225 : 0 ≤ Xi T17 900 6 ∧ Xi T17 900 6 ≤ 1 := hHT17.c _ _
                          exact Rl_weak (ih87 _ (by omega) T17 hHT17 hFT17 (v5) (rr) (1) (v8) ((v9 + 1)) (by omega) (by omega) (by omega) (by omega) (by omega) (by first | assumption | exact (by assumption : TX T17)) (by omega) (by omega) (by omega) (by omega) (by omega) (by omega) rfl) (And.intro rfl (And.intro rfl (And.intro rfl (And.intro rfl (And.intro rfl (And.intro rfl (And.intro rfl (And.intro rfl (And.intro rfl (And.intro rfl (True.intro)))))))))))
                      · refine l_aload_n rfl rfl ?_
                        refine l_aload rfl rfl ?_
                        refine l_iload_n rfl rfl ?_
                        refine l_callV rfl rfl rfl (t_tu_sayText hHU12 z151 noun (by omega) ⟨by omega, by omega⟩ (CLok_sG hH (FR_sC hH hFU12 rfl rfl) (by omega) (by omega) (RUL_ph (i := rr) (k := Xi S (248 + rr) 4 + Xi S (248 + rr) 5 + v9) hR (by omega) (rN_n hn (by omega)) (by omega) (by omega) (by omega))) (by first | assumption | omega) (by first | assumption | exact TX_FR hFU12 rfl hX) _) ?_
                        rintro _ T18 ⟨hHT18, w228, rfl, w226⟩
                        have hFT18 : FR md_tu_runRules S T18 := FR.tr hFU12 w228 rfl
                        show Rl _ _ _ _ _ [] _ _
                        refine l_goto rfl rfl ?_
                        refine l_iinc rfl rfl rfl rfl ?_
                        refine l_goto rfl rfl ?_
                        have w229 : Xi T18 900 5 = Xi U4 900 5 := (show Xi T18 900 5 = Xi U12 900 5 from w228.x _ _ rfl).trans ((show Xi U12 900 5 = Xi U4 900 5 from by rw [eU12]; exact Xi_ne (by omega)))
                        have w230 : 0 ≤ Xi U4 900 5 ∧ Xi U4 900 5 ≤ 301 := hHU4.c _ _
                        have w231 : Xi T18 900 6 = Xi U12 900 6 := (show Xi T18 900 6 = Xi U12 900 6 from w228.x _ _ rfl)
                        have w232 : 0 ≤ Xi U12 900 6 ∧ Xi U12 900 6 ≤ 1 := hHU12.c _ _
                        exact Rl_weak (ih87 _ (by omega) T18 hHT18 hFT18 (v5) (rr) (1) (v8) ((v9 + 1)) (by omega) (by omega) (by omega) (by omega) (by omega) (by first | assumption | exact (TX_FR w228 rfl (TX_FR (FR_e eU12) rfl (TX_FR (FR_e eU4) rfl (by assumption : TX T2))))) (by omega) (by omega) (by omega) (by omega) (by omega) (by omega) rfl) (And.intro rfl (And.intro rfl (And.intro rfl (And.intro rfl (And.intro rfl (And.intro rfl (And.intro rfl (And.intro rfl (And.intro rfl (And.intro rfl (True.intro)))))))))))
      refine l_iload rfl rfl ?_
      refine l_aload_n rfl rfl ?_
      refine l_gfr rfl rfl rfl rfl rfl (hHT1.r 900 2 246 rfl) ?_
      refine l_gfi rfl rfl rfl rfl rfl ?_
      refine l_icmp_ge rfl rfl (by unfold rg; omega) (by unfold rg; omega) (fun w233 => ?_) (fun w234 => ?_)
      · refine l_iconst rfl ?_
        refine l_ireturn rfl rfl ?_
        have w235 : 0 ≤ Xi T1 900 5 ∧ Xi T1 900 5 ≤ 301 := hHT1.c _ _
        have w236 : 0 ≤ Xi T1 900 6 ∧ Xi T1 900 6 ≤ 1 := hHT1.c _ _
        exact ⟨hHT1, hFT1, _, rfl, ⟨by omega, by omega⟩, (by first | assumption | exact TX_FR hFT1 rfl hX), (by first | assumption | omega)⟩
      · refine l_aload_n rfl rfl ?_
        refine l_gfi rfl rfl rfl rfl rfl ?_
        refine l_if_ne rfl rfl (by unfold rg; omega) (fun w237 => ?_) (fun w238 => ?_)
        · refine l_iconst rfl ?_
          refine l_ireturn rfl rfl ?_
          have w239 : 0 ≤ Xi T1 900 5 ∧ Xi T1 900 5 ≤ 301 := hHT1.c _ _
          have w240 : 0 ≤ Xi T1 900 6 ∧ Xi T1 900 6 ≤ 1 := hHT1.c _ _
          exact ⟨hHT1, hFT1, _, rfl, ⟨by omega, by omega⟩, (by first | assumption | exact TX_FR hFT1 rfl hX), (by first | assumption | omega)⟩
        · refine l_aload_n rfl rfl ?_
          refine l_gfr rfl rfl rfl rfl rfl (hHT1.r 900 2 246 rfl) ?_
          refine l_gfr rfl rfl rfl rfl rfl (hHT1.r 246 1 247 rfl) ?_
          refine l_aload_n rfl rfl ?_
          refine l_gfr rfl rfl rfl rfl rfl (hHT1.r 900 2 246 rfl) ?_
          refine l_gfr rfl rfl rfl rfl rfl (hHT1.r 246 3 272 rfl) ?_
          refine l_iload rfl rfl ?_
          refine l_iaload (n := 24) rfl rfl (by omega) (by omega) (by unfold rg; omega) ?_
          have w241 : 0 ≤ (Xi T1 272 ((v5).toNat)) ∧ (Xi T1 272 ((v5).toNat)) ≤ 23 := hHT1.c _ _
          have ho1 : Xi T1 272 (v5).toNat < Xi T1 246 2 := (ORD_FR hFT1 rfl hO) v5.toNat (by omega)
          refine l_aaload (n := 24) (a := 248 + ((Xi T1 272 ((v5).toNat))).toNat) rfl rfl (by decide) (by omega) (by omega) (by unfold rg; omega) (RW_247 hHT1 (by omega)) ?_
          refine l_astore rfl rfl rfl ?_
          have hr1 : Xi T1 (248 + ((Xi T1 272 ((v5).toNat))).toNat) 1 = Xi S (248 + ((Xi T1 272 ((v5).toNat))).toNat) 1 := FR_ru hFT1 rfl (by omega)
          have hr4 : Xi T1 (248 + ((Xi T1 272 ((v5).toNat))).toNat) 4 = Xi S (248 + ((Xi T1 272 ((v5).toNat))).toNat) 4 := FR_ru hFT1 rfl (by omega)
          have hr5 : Xi T1 (248 + ((Xi T1 272 ((v5).toNat))).toNat) 5 = Xi S (248 + ((Xi T1 272 ((v5).toNat))).toNat) 5 := FR_ru hFT1 rfl (by omega)
          have hr6 : Xi T1 (248 + ((Xi T1 272 ((v5).toNat))).toNat) 6 = Xi S (248 + ((Xi T1 272 ((v5).toNat))).toNat) 6 := FR_ru hFT1 rfl (by omega)
          have hr7 : Xi T1 (248 + ((Xi T1 272 ((v5).toNat))).toNat) 7 = Xi S (248 + ((Xi T1 272 ((v5).toNat))).toNat) 7 := FR_ru hFT1 rfl (by omega)
          have hrb0 : 0 ≤ Xi S (248 + ((Xi T1 272 ((v5).toNat))).toNat) 7 ∧ Xi S (248 + ((Xi T1 272 ((v5).toNat))).toNat) 7 + Xi S (248 + ((Xi T1 272 ((v5).toNat))).toNat) 4 + Xi S (248 + ((Xi T1 272 ((v5).toNat))).toNat) 5 + Xi S (248 + ((Xi T1 272 ((v5).toNat))).toNat) 6 ≤ 600 := RUL_b hR (by omega)
          have hp6 : 0 ≤ Xi S (248 + ((Xi T1 272 ((v5).toNat))).toNat) 6 ∧ Xi S (248 + ((Xi T1 272 ((v5).toNat))).toNat) 6 ≤ 8 := ruc6 hH (by omega)
          refine l_aload rfl rfl ?_
          refine l_iconst rfl ?_
          refine l_iaload (n := 8) rfl (lay_248 (by omega)) (by omega) (by omega) (by unfold rg; omega) ?_
          have w242 : 0 ≤ (Xi T1 (248 + ((Xi T1 272 ((v5).toNat))).toNat) ((0 : Int).toNat)) ∧ (Xi T1 (248 + ((Xi T1 272 ((v5).toNat))).toNat) ((0 : Int).toNat)) ≤ 3 := ruc0 hHT1 (by omega)
          have w243 : (Xi T1 (248 + ((Xi T1 272 ((v5).toNat))).toNat) ((0 : Int).toNat)) = Xi T1 (248 + ((Xi T1 272 ((v5).toNat))).toNat) 0 := rfl
          refine l_iload_n rfl rfl ?_
          refine l_icmp_ne rfl rfl (by unfold rg; omega) (by unfold rg; omega) (fun w244 => ?_) (fun w245 => ?_)
          · refine l_iinc rfl rfl rfl rfl ?_
            refine l_goto rfl rfl ?_
            have w246 : 0 ≤ Xi T1 900 5 ∧ Xi T1 900 5 ≤ 301 := hHT1.c _ _
            have w247 : 0 ≤ Xi T1 900 6 ∧ Xi T1 900 6 ≤ 1 := hHT1.c _ _
            exact Rl_weak (ih3 _ (by omega) T1 hHT1 hFT1 ((v5 + 1)) (by omega) (by first | assumption | exact (by assumption : TX T1)) (by omega) rfl) (And.intro rfl (And.intro rfl (And.intro rfl (And.intro rfl (And.intro rfl (And.intro rfl (True.intro)))))))
          · refine l_aload_n rfl rfl ?_
            refine l_aload rfl rfl ?_
            refine l_iload_n rfl rfl ?_
            refine l_iload_n rfl rfl ?_
            have w248 : 0 ≤ Xi T1 246 2 ∧ Xi T1 246 2 ≤ 24 := hHT1.c _ _
            refine l_callV rfl rfl rfl (t_tu_applies hHT1 (((Xi T1 272 ((v5).toNat))).toNat) action noun (by omega) ⟨by omega, by omega⟩ ⟨by omega, by omega⟩ (by first | assumption | omega) (by first | assumption | exact RUL_FR hH hFT1 rfl rfl hR) (by first | assumption | exact DEF_FR hH hFT1 rfl rfl hD) (by first | assumption | exact TX_FR hFT1 rfl hX) (fun h1 h2 => hn h1 (by rw [(hFT1.cx 19 rfl _).1] at h2; exact h2)) _) ?_
            rintro _ _ ⟨rfl, z250, rfl, w250, w249⟩
            show Rl _ _ _ _ _ [iv z250] _ _
            refine l_if_ne rfl rfl (by unfold rg; omega) (fun w251 => ?_) (fun w252 => ?_)
            · refine l_iconst rfl ?_
              refine l_istore rfl rfl rfl ?_
              refine l_aload rfl rfl ?_
              refine l_bipush rfl rfl ?_
              refine l_iaload (n := 8) rfl (lay_248 (by omega)) (by omega) (by omega) (by unfold rg; omega) ?_
              have w253 : 0 ≤ (Xi T1 (248 + ((Xi T1 272 ((v5).toNat))).toNat) ((7 : Int).toNat)) ∧ (Xi T1 (248 + ((Xi T1 272 ((v5).toNat))).toNat) ((7 : Int).toNat)) ≤ 200000 := ruc7 hHT1 (by omega)
              have w254 : (Xi T1 (248 + ((Xi T1 272 ((v5).toNat))).toNat) ((7 : Int).toNat)) = Xi T1 (248 + ((Xi T1 272 ((v5).toNat))).toNat) 7 := rfl
              refine l_aload rfl rfl ?_
              refine l_iconst rfl ?_
              refine l_iaload (n := 8) rfl (lay_248 (by omega)) (by omega) (by omega) (by unfold rg; omega) ?_
              have w255 : 0 ≤ (Xi T1 (248 + ((Xi T1 272 ((v5).toNat))).toNat) ((4 : Int).toNat)) ∧ (Xi T1 (248 + ((Xi T1 272 ((v5).toNat))).toNat) ((4 : Int).toNat)) ≤ 5 := ruc4 hHT1 (by omega)
              have w256 : (Xi T1 (248 + ((Xi T1 272 ((v5).toNat))).toNat) ((4 : Int).toNat)) = Xi T1 (248 + ((Xi T1 272 ((v5).toNat))).toNat) 4 := rfl
              refine l_iadd rfl ?_
              refine l_aload rfl rfl ?_
              refine l_iconst rfl ?_
              refine l_iaload (n := 8) rfl (lay_248 (by omega)) (by omega) (by omega) (by unfold rg; omega) ?_
              have w257 : 0 ≤ (Xi T1 (248 + ((Xi T1 272 ((v5).toNat))).toNat) ((5 : Int).toNat)) ∧ (Xi T1 (248 + ((Xi T1 272 ((v5).toNat))).toNat) ((5 : Int).toNat)) ≤ 6 := ruc5 hHT1 (by omega)
              have w258 : (Xi T1 (248 + ((Xi T1 272 ((v5).toNat))).toNat) ((5 : Int).toNat)) = Xi T1 (248 + ((Xi T1 272 ((v5).toNat))).toNat) 5 := rfl
              refine l_iadd rfl ?_
              refine l_istore rfl rfl rfl ?_
              refine l_iconst rfl ?_
              refine l_istore rfl rfl rfl ?_
              have w259 : 0 ≤ Xi T1 900 5 ∧ Xi T1 900 5 ≤ 301 := hHT1.c _ _
              have w260 : 0 ≤ Xi T1 900 6 ∧ Xi T1 900 6 ≤ 1 := hHT1.c _ _
              exact Rl_weak (C87 _ T1 hHT1 hFT1 (v5) ((((Xi T1 272 ((v5).toNat))).toNat)) (0) ((((Xi T1 (248 + ((Xi T1 272 ((v5).toNat))).toNat) ((7 : Int).toNat)) + (Xi T1 (248 + ((Xi T1 272 ((v5).toNat))).toNat) ((4 : Int).toNat))) + (Xi T1 (248 + ((Xi T1 272 ((v5).toNat))).toNat) ((5 : Int).toNat)))) (0) (by omega) (by omega) (by omega) (by omega) (by omega) (by first | assumption | exact (by assumption : TX T1)) (by omega) (by omega) (by omega) (by omega) (by omega) (by omega) rfl) (And.intro rfl (And.intro rfl (And.intro rfl (And.intro rfl (And.intro rfl (And.intro rfl (And.intro rfl (And.intro rfl (And.intro rfl (And.intro rfl (True.intro)))))))))))
            · refine l_goto rfl rfl ?_
              refine l_iinc rfl rfl rfl rfl ?_
              refine l_goto rfl rfl ?_
              have w261 : 0 ≤ Xi T1 900 5 ∧ Xi T1 900 5 ≤ 301 := hHT1.c _ _
              have w262 : 0 ≤ Xi T1 900 6 ∧ Xi T1 900 6 ≤ 1 := hHT1.c _ _
              exact Rl_weak (ih3 _ (by omega) T1 hHT1 hFT1 ((v5 + 1)) (by omega) (by first | assumption | exact (by assumption : TX T1)) (by omega) rfl) (And.intro rfl (And.intro rfl (And.intro rfl (And.intro rfl (And.intro rfl (And.intro rfl (True.intro)))))))
  refine l_iconst rfl ?_
  refine l_istore rfl rfl rfl ?_
  have w263 : 0 ≤ Xi S 900 5 ∧ Xi S 900 5 ≤ 301 := hH.c _ _
  have w264 : 0 ≤ Xi S 900 6 ∧ Xi S 900 6 ≤ 1 := hH.c _ _
  exact Rl_weak (C3 _ S hH hF (0) (by omega) (by first | assumption | exact (by assumption : TX S)) (by omega) rfl) (And.intro rfl (And.intro rfl (And.intro rfl (And.intro rfl (And.intro rfl (And.intro rfl (True.intro)))))))
set_option maxRecDepth 100000 in
theorem u_tu_doAction {S : sS} (hH : HI S) (action : Int) (noun : Int) (dd : Int) (haction : 0 ≤ action ∧ action ≤ 11) (hnoun : -1 ≤ noun ∧ noun ≤ 23) (hdd : 0 ≤ dd ∧ dd ≤ 8) (hn : Xi S 19 action.toNat ≠ -1 → 0 ≤ noun) (hg : Xi S 19 action.toNat = -2 → noun ≤ 5) (hX : TX S) (hD : DEF S) (hR : RUL S) (hO : ORD S) (hA : AK S) (hE : Xi S 900 6 = 0 → Xi S 900 5 ≤ 300) (d : Nat) (hrec : ∀ {S : sS} (_ : HI S) (sort : Int) (action : Int) (noun : Int) (dr : Int) (hsort : 0 ≤ sort ∧ sort ≤ 3) (haction : -1 ≤ action ∧ action ≤ 11) (hnoun : -1 ≤ noun ∧ noun ≤ 23) (hdr : 0 ≤ dr ∧ dr ≤ 8) (hn : 0 ≤ action → Xi S 19 action.toNat ≠ -1 → 0 ≤ noun) (hX : TX S) (hD : DEF S) (hR : RUL S) (hO : ORD S) (hA : AK S) (hE : Xi S 900 6 = 0 → Xi S 900 5 ≤ 300), (dr = dd) → Mt lay0 (d + 31) m_tu_runRules [.ref 900, iv sort, iv action, iv noun, iv dr] S (Q_tu_runRules S sort action noun dr)) : Mt lay0 (d + 32) m_tu_doAction [.ref 900, iv action, iv noun, iv dd] S (Q_tu_doAction S action noun dd) := by
  refine Mt_R rfl rfl ?_
  have hF : FR md_tu_doAction S S := FR.rf
  have w1 : 0 ≤ Xi S 900 5 ∧ Xi S 900 5 ≤ 301 := hH.c _ _
  have w2 : 0 ≤ Xi S 900 6 ∧ Xi S 900 6 ≤ 1 := hH.c _ _
  refine l_aload_n rfl rfl ?_
  refine l_iconst rfl ?_
  refine l_iload_n rfl rfl ?_
  refine l_iload_n rfl rfl ?_
  refine l_iload_n rfl rfl ?_
  have w3 : 0 ≤ Xi S 900 5 ∧ Xi S 900 5 ≤ 301 := hH.c _ _
  have w4 : 0 ≤ Xi S 900 6 ∧ Xi S 900 6 ≤ 1 := hH.c _ _
  refine l_callV rfl rfl rfl (hrec hH 0 action noun dd ⟨by omega, by omega⟩ ⟨by omega, by omega⟩ ⟨by omega, by omega⟩ ⟨by omega, by omega⟩ (fun _ => by rw [(hF.cx 19 rfl _).1]; exact hn) (by first | assumption | exact TX_FR hF rfl hX) (by first | assumption | exact DEF_FR hH hF rfl rfl hD) (by first | assumption | exact RUL_FR hH hF rfl rfl hR) (by first | assumption | exact ORD_FR hF rfl hO) (by first | assumption | exact AK_FR hF rfl hA) (by first | assumption | omega) (by omega)) ?_
  rintro _ T1 ⟨hHT1, w8, z7, rfl, w7, w5, w6⟩
  have hFT1 : FR md_tu_doAction S T1 := FR.tr hF w8 rfl
  show Rl _ _ _ _ _ [iv z7] _ _
  refine l_if_eq rfl rfl (by unfold rg; omega) (fun w9 => ?_) (fun w10 => ?_)
  · refine l_aload_n rfl rfl ?_
    refine l_gfi rfl rfl rfl rfl rfl ?_
    have w11 : 0 ≤ (Xi T1 900 6) ∧ (Xi T1 900 6) ≤ 1 := hHT1.c _ _
    refine l_if_ne rfl rfl (by unfold rg; omega) (fun w12 => ?_) (fun w13 => ?_)
    · refine l_iconst rfl ?_
      refine l_ireturn rfl rfl ?_
      have w14 : 0 ≤ Xi T1 900 5 ∧ Xi T1 900 5 ≤ 301 := hHT1.c _ _
      have w15 : 0 ≤ Xi T1 900 6 ∧ Xi T1 900 6 ≤ 1 := hHT1.c _ _
      exact ⟨hHT1, hFT1, _, rfl, ⟨by omega, by omega⟩, (by first | assumption | exact TX_FR hFT1 rfl hX), (by first | assumption | omega)⟩
    · refine l_aload_n rfl rfl ?_
      refine l_iconst rfl ?_
      refine l_iload_n rfl rfl ?_
      refine l_iload_n rfl rfl ?_
      refine l_iload_n rfl rfl ?_
      have w16 : 0 ≤ Xi T1 900 5 ∧ Xi T1 900 5 ≤ 301 := hHT1.c _ _
      have w17 : 0 ≤ Xi T1 900 6 ∧ Xi T1 900 6 ≤ 1 := hHT1.c _ _
      refine l_callV rfl rfl rfl (hrec hHT1 1 action noun dd ⟨by omega, by omega⟩ ⟨by omega, by omega⟩ ⟨by omega, by omega⟩ ⟨by omega, by omega⟩ (fun _ => by rw [(hFT1.cx 19 rfl _).1]; exact hn) (by first | assumption | exact TX_FR hFT1 rfl hX) (by first | assumption | exact DEF_FR hH hFT1 rfl rfl hD) (by first | assumption | exact RUL_FR hH hFT1 rfl rfl hR) (by first | assumption | exact ORD_FR hFT1 rfl hO) (by first | assumption | exact AK_FR hFT1 rfl hA) (by first | assumption | omega) (by omega)) ?_
      rintro _ T2 ⟨hHT2, w21, z20, rfl, w20, w18, w19⟩
      have hFT2 : FR md_tu_doAction S T2 := FR.tr hFT1 w21 rfl
      show Rl _ _ _ _ _ [iv z20] _ _
      refine l_if_eq rfl rfl (by unfold rg; omega) (fun w22 => ?_) (fun w23 => ?_)
      · refine l_aload_n rfl rfl ?_
        refine l_gfi rfl rfl rfl rfl rfl ?_
        have w24 : 0 ≤ (Xi T2 900 6) ∧ (Xi T2 900 6) ≤ 1 := hHT2.c _ _
        refine l_if_ne rfl rfl (by unfold rg; omega) (fun w25 => ?_) (fun w26 => ?_)
        · refine l_iconst rfl ?_
          refine l_ireturn rfl rfl ?_
          have w27 : 0 ≤ Xi T2 900 5 ∧ Xi T2 900 5 ≤ 301 := hHT2.c _ _
          have w28 : 0 ≤ Xi T2 900 6 ∧ Xi T2 900 6 ≤ 1 := hHT2.c _ _
          exact ⟨hHT2, hFT2, _, rfl, ⟨by omega, by omega⟩, (by first | assumption | exact TX_FR hFT2 rfl hX), (by first | assumption | omega)⟩
        · refine l_aload_n rfl rfl ?_
          refine l_iload_n rfl rfl ?_
          refine l_iload_n rfl rfl ?_
          refine l_callV rfl rfl rfl (t_tu_succeeds hHT2 action noun ⟨by omega, by omega⟩ ⟨by omega, by omega⟩ (by first | assumption | exact TX_FR hFT2 rfl hX) (by first | assumption | exact AK_FR hFT2 rfl hA) (by rw [(hFT2.cx 19 rfl _).1]; exact hn) (by rw [(hFT2.cx 19 rfl _).1]; exact hg) _) ?_
          rintro _ T3 ⟨hHT3, w31, z30, rfl, w30, w29⟩
          have hFT3 : FR md_tu_doAction S T3 := FR.tr hFT2 w31 rfl
          show Rl _ _ _ _ _ [iv z30] _ _
          refine l_if_ne rfl rfl (by unfold rg; omega) (fun w32 => ?_) (fun w33 => ?_)
          · refine l_aload_n rfl rfl ?_
            refine l_iconst rfl ?_
            refine l_iload_n rfl rfl ?_
            refine l_iload_n rfl rfl ?_
            refine l_iload_n rfl rfl ?_
            have w34 : Xi T3 900 5 = Xi T2 900 5 := (show Xi T3 900 5 = Xi T2 900 5 from w31.x _ _ rfl)
            have w35 : 0 ≤ Xi T2 900 5 ∧ Xi T2 900 5 ≤ 301 := hHT2.c _ _
            have w36 : Xi T3 900 6 = Xi T2 900 6 := (show Xi T3 900 6 = Xi T2 900 6 from w31.x _ _ rfl)
            have w37 : 0 ≤ Xi T2 900 6 ∧ Xi T2 900 6 ≤ 1 := hHT2.c _ _
            refine l_callV rfl rfl rfl (hrec hHT3 2 action noun dd ⟨by omega, by omega⟩ ⟨by omega, by omega⟩ ⟨by omega, by omega⟩ ⟨by omega, by omega⟩ (fun _ => by rw [(hFT3.cx 19 rfl _).1]; exact hn) (by first | assumption | exact TX_FR hFT3 rfl hX) (by first | assumption | exact DEF_FR hH hFT3 rfl rfl hD) (by first | assumption | exact RUL_FR hH hFT3 rfl rfl hR) (by first | assumption | exact ORD_FR hFT3 rfl hO) (by first | assumption | exact AK_FR hFT3 rfl hA) (by first | assumption | omega) (by omega)) ?_
            rintro _ T4 ⟨hHT4, w41, z40, rfl, w40, w38, w39⟩
            have hFT4 : FR md_tu_doAction S T4 := FR.tr hFT3 w41 rfl
            show Rl _ _ _ _ _ [iv z40] _ _
            refine l_if_eq rfl rfl (by unfold rg; omega) (fun w42 => ?_) (fun w43 => ?_)
            · refine l_iconst rfl ?_
              refine l_ireturn rfl rfl ?_
              have w44 : 0 ≤ Xi T4 900 5 ∧ Xi T4 900 5 ≤ 301 := hHT4.c _ _
              have w45 : 0 ≤ Xi T4 900 6 ∧ Xi T4 900 6 ≤ 1 := hHT4.c _ _
              exact ⟨hHT4, hFT4, _, rfl, ⟨by omega, by omega⟩, (by first | assumption | exact TX_FR hFT4 rfl hX), (by first | assumption | omega)⟩
            · refine l_iconst rfl ?_
              refine l_goto rfl rfl ?_
              refine l_ireturn rfl rfl ?_
              have w46 : 0 ≤ Xi T4 900 5 ∧ Xi T4 900 5 ≤ 301 := hHT4.c _ _
              have w47 : 0 ≤ Xi T4 900 6 ∧ Xi T4 900 6 ≤ 1 := hHT4.c _ _
              exact ⟨hHT4, hFT4, _, rfl, ⟨by omega, by omega⟩, (by first | assumption | exact TX_FR hFT4 rfl hX), (by first | assumption | omega)⟩
          · refine l_iconst rfl ?_
            refine l_ireturn rfl rfl ?_
            have w48 : Xi T3 900 5 = Xi T2 900 5 := (show Xi T3 900 5 = Xi T2 900 5 from w31.x _ _ rfl)
            have w49 : 0 ≤ Xi T2 900 5 ∧ Xi T2 900 5 ≤ 301 := hHT2.c _ _
            have w50 : Xi T3 900 6 = Xi T2 900 6 := (show Xi T3 900 6 = Xi T2 900 6 from w31.x _ _ rfl)
            have w51 : 0 ≤ Xi T2 900 6 ∧ Xi T2 900 6 ≤ 1 := hHT2.c _ _
            exact ⟨hHT3, hFT3, _, rfl, ⟨by omega, by omega⟩, (by first | assumption | exact TX_FR hFT3 rfl hX), (by first | assumption | omega)⟩
      · refine l_iconst rfl ?_
        refine l_ireturn rfl rfl ?_
        have w52 : 0 ≤ Xi T2 900 5 ∧ Xi T2 900 5 ≤ 301 := hHT2.c _ _
        have w53 : 0 ≤ Xi T2 900 6 ∧ Xi T2 900 6 ≤ 1 := hHT2.c _ _
        exact ⟨hHT2, hFT2, _, rfl, ⟨by omega, by omega⟩, (by first | assumption | exact TX_FR hFT2 rfl hX), (by first | assumption | omega)⟩
  · refine l_iconst rfl ?_
    refine l_ireturn rfl rfl ?_
    have w54 : 0 ≤ Xi T1 900 5 ∧ Xi T1 900 5 ≤ 301 := hHT1.c _ _
    have w55 : 0 ≤ Xi T1 900 6 ∧ Xi T1 900 6 ≤ 1 := hHT1.c _ _
    exact ⟨hHT1, hFT1, _, rfl, ⟨by omega, by omega⟩, (by first | assumption | exact TX_FR hFT1 rfl hX), (by first | assumption | omega)⟩
theorem k_perf (n : Nat) : ∀ (d : Nat) {S : sS} (_ : HI S) (cl : Nat) (noun : Int) (dq : Int) (hcl : cl < 600) (hnoun : -1 ≤ noun ∧ noun ≤ 23) (hdq : 0 ≤ dq ∧ dq ≤ 8) (hk : CLok S (0 ≤ noun) cl) (hX : TX S) (hD : DEF S) (hR : RUL S) (hO : ORD S) (hA : AK S) (hE : Xi S 900 6 = 0 → Xi S 900 5 ≤ 300), (8 - dq).toNat = n → Mt lay0 (d + 3 * n + 30) m_tu_perform [.ref 900, .ref (276 + cl), iv noun, iv dq] S (Q_tu_perform S cl noun dq) := by
  induction n with
  | zero => intro d S hH cl noun dq hcl hnoun hdq hk hX hD hR hO hA hE hm; exact u_tu_perform hH cl noun dq hcl hnoun hdq hk hX hD hR hO hA hE d (fun {_} _ _ _ _ _ _ _ _ _ _ _ _ _ _ _ hlt => absurd hlt.1 (by omega))
  | succ n ih =>
    intro d S hH cl noun dq hcl hnoun hdq hk hX hD hR hO hA hE hm
    have t := u_tu_perform hH cl noun dq hcl hnoun hdq hk hX hD hR hO hA hE (d + 3 * n + 3) (fun {S} hH xaction xnoun xdd xhaction xhnoun xhdd xhn xhg xhX xhD xhR xhO xhA xhE hlt => u_tu_doAction hH xaction xnoun xdd xhaction xhnoun xhdd xhn xhg xhX xhD xhR xhO xhA xhE (d + 3 * n) (fun {S} hH ysort yaction ynoun ydr yhsort yhaction yhnoun yhdr yhn yhX yhD yhR yhO yhA yhE he => u_tu_runRules hH ysort yaction ynoun ydr yhsort yhaction yhnoun yhdr yhn yhX yhD yhR yhO yhA yhE (d + 3 * n) (fun {S} hH zcl znoun zdq zhcl zhnoun zhdq zhk zhX zhD zhR zhO zhA zhE he2 => ih d hH zcl znoun zdq zhcl zhnoun zhdq zhk zhX zhD zhR zhO zhA zhE (by omega))))
    rw [show d + 3 * n + 3 + 30 = d + 3 * (n + 1) + 30 by omega] at t
    exact t
theorem t_tu_perform {S : sS} (hH : HI S) (cl : Nat) (noun : Int) (dq : Int) (hcl : cl < 600) (hnoun : -1 ≤ noun ∧ noun ≤ 23) (hdq : 0 ≤ dq ∧ dq ≤ 8) (hk : CLok S (0 ≤ noun) cl) (hX : TX S) (hD : DEF S) (hR : RUL S) (hO : ORD S) (hA : AK S) (hE : Xi S 900 6 = 0 → Xi S 900 5 ≤ 300) (d : Nat) : Mt lay0 (d + 54) m_tu_perform [.ref 900, .ref (276 + cl), iv noun, iv dq] S (Q_tu_perform S cl noun dq) := by
  have t := k_perf (8 - dq).toNat (d + (24 - 3 * (8 - dq).toNat)) hH cl noun dq hcl hnoun hdq hk hX hD hR hO hA hE rfl
  rw [show d + (24 - 3 * (8 - dq).toNat) + 3 * (8 - dq).toNat + 30 = d + 54 by omega] at t
  exact t
theorem t_tu_runRules {S : sS} (hH : HI S) (sort : Int) (action : Int) (noun : Int) (dr : Int) (hsort : 0 ≤ sort ∧ sort ≤ 3) (haction : -1 ≤ action ∧ action ≤ 11) (hnoun : -1 ≤ noun ∧ noun ≤ 23) (hdr : 0 ≤ dr ∧ dr ≤ 8) (hn : 0 ≤ action → Xi S 19 action.toNat ≠ -1 → 0 ≤ noun) (hX : TX S) (hD : DEF S) (hR : RUL S) (hO : ORD S) (hA : AK S) (hE : Xi S 900 6 = 0 → Xi S 900 5 ≤ 300) (d : Nat) : Mt lay0 (d + 55) m_tu_runRules [.ref 900, iv sort, iv action, iv noun, iv dr] S (Q_tu_runRules S sort action noun dr) :=
  u_tu_runRules hH sort action noun dr hsort haction hnoun hdr hn hX hD hR hO hA hE (d + 24) (fun {S} hH2 zcl znoun zdq zhcl zhnoun zhdq zhk zhX zhD zhR zhO zhA zhE he => t_tu_perform hH2 zcl znoun zdq zhcl zhnoun zhdq zhk zhX zhD zhR zhO zhA zhE d)
theorem t_tu_doAction {S : sS} (hH : HI S) (action : Int) (noun : Int) (dd : Int) (haction : 0 ≤ action ∧ action ≤ 11) (hnoun : -1 ≤ noun ∧ noun ≤ 23) (hdd : 0 ≤ dd ∧ dd ≤ 8) (hn : Xi S 19 action.toNat ≠ -1 → 0 ≤ noun) (hg : Xi S 19 action.toNat = -2 → noun ≤ 5) (hX : TX S) (hD : DEF S) (hR : RUL S) (hO : ORD S) (hA : AK S) (hE : Xi S 900 6 = 0 → Xi S 900 5 ≤ 300) (d : Nat) : Mt lay0 (d + 56) m_tu_doAction [.ref 900, iv action, iv noun, iv dd] S (Q_tu_doAction S action noun dd) :=
  u_tu_doAction hH action noun dd haction hnoun hdd hn hg hX hD hR hO hA hE (d + 24) (fun {S} hH2 ysort yaction ynoun ydr yhsort yhaction yhnoun yhdr yhn yhX yhD yhR yhO yhA yhE he => t_tu_runRules hH2 ysort yaction ynoun ydr yhsort yhaction yhnoun yhdr yhn yhX yhD yhR yhO yhA yhE d)

def md_tu_takeTurn : List rec := [(22, 23, 0, 100000), (23, 24, 0, 100000), (25, 65, 0, 100000), (66, 106, 0, 100000), (107, 147, 0, 100000), (148, 188, 0, 100000), (189, 195, 0, 100000), (900, 901, 4, 5), (900, 901, 5, 6), (900, 901, 6, 7), (901, 902, 0, 100000)]
abbrev Q_tu_takeTurn (S : sS) (action : Int) (noun : Int) : pst := fun r S1 => HI S1 ∧ FR md_tu_takeTurn S S1 ∧ (∃ z : Int, r = some (iv z) ∧ (0 ≤ z ∧ z ≤ 5) ∧ (TX S1))
set_option maxRecDepth 100000 in
theorem t_tu_takeTurn {S : sS} (hH : HI S) (action : Int) (noun : Int) (haction : 0 ≤ action ∧ action ≤ 11) (hnoun : -1 ≤ noun ∧ noun ≤ 23) (hn : Xi S 19 action.toNat ≠ -1 → 0 ≤ noun) (hg : Xi S 19 action.toNat = -2 → noun ≤ 5) (hX : TX S) (hD : DEF S) (hR : RUL S) (hO : ORD S) (hA : AK S) (d : Nat) : Mt lay0 (d + 57) m_tu_takeTurn [.ref 900, iv action, iv noun] S (Q_tu_takeTurn S action noun) := by
  refine Mt_R rfl rfl ?_
  have hF : FR md_tu_takeTurn S S := FR.rf
  have C34 : ∀  (T1 : sS) (_ : HI T1) (_ : FR md_tu_takeTurn S T1) (v3 : Int), (0 ≤ v3 ∧ v3 ≤ 5) → (TX T1) → Rl lay0 (d + 56) m_tu_takeTurn 34 [(0, .ref 900), (3, iv v3)] [] T1 (Q_tu_takeTurn S action noun) := by
    intro T1 hHT1 hFT1 v3 w1 hX34
    refine l_aload_n rfl rfl ?_
    refine l_gfi rfl rfl rfl rfl rfl ?_
    have w2 : 0 ≤ (Xi T1 900 6) ∧ (Xi T1 900 6) ≤ 1 := hHT1.c _ _
    refine l_if_eq rfl rfl (by unfold rg; omega) (fun w3 => ?_) (fun w4 => ?_)
    · refine l_iload_n rfl rfl ?_
      refine l_ireturn rfl rfl ?_
      exact ⟨hHT1, hFT1, _, rfl, ⟨by omega, by omega⟩, (by first | assumption | exact TX_FR hFT1 rfl hX)⟩
    · refine l_iconst rfl ?_
      refine l_goto rfl rfl ?_
      refine l_ireturn rfl rfl ?_
      exact ⟨hHT1, hFT1, _, rfl, ⟨by omega, by omega⟩, (by first | assumption | exact TX_FR hFT1 rfl hX)⟩
  refine l_aload_n rfl rfl ?_
  refine l_iconst rfl ?_
  refine l_pfi rfl rfl rfl rfl ?_
  obtain ⟨U2, eU2⟩ : ∃ T : sS, T = uI S 900 5 (Int32.ofInt 0) := ⟨_, rfl⟩
  rw [← eU2]
  have hHU2 : HI U2 := by rw [eU2]; exact HI_w hH (show 0 ≤ 0 by omega) (show 0 ≤ 301 by omega)
  have hFU2 : FR md_tu_takeTurn S U2 := by rw [eU2]; exact FR.wI hF (mdf_i (r := (900, 901, 5, 6)) (List.mem_of_getElem? (i := 8) rfl) (inR_i (by omega) (by omega) (by omega) (by omega)))
  have w5 : Xi U2 900 5 = 0 := by rw [eU2]; exact Xi_same (by unfold rg; omega)
  have hXw1 : TX U2 := TX_w eU2 rfl (by assumption)
  refine l_aload_n rfl rfl ?_
  refine l_iconst rfl ?_
  refine l_pfz rfl rfl rfl rfl (by omega) ?_
  obtain ⟨U3, eU3⟩ : ∃ T : sS, T = uI U2 900 6 (Int32.ofInt 0) := ⟨_, rfl⟩
  rw [← eU3]
  have hHU3 : HI U3 := by rw [eU3]; exact HI_w hHU2 (show 0 ≤ 0 by omega) (show 0 ≤ 1 by omega)
  have hFU3 : FR md_tu_takeTurn S U3 := by rw [eU3]; exact FR.wI hFU2 (mdf_i (r := (900, 901, 6, 7)) (List.mem_of_getElem? (i := 9) rfl) (inR_i (by omega) (by omega) (by omega) (by omega)))
  have w6 : Xi U3 900 6 = 0 := by rw [eU3]; exact Xi_same (by unfold rg; omega)
  have hXw2 : TX U3 := TX_w eU3 rfl (by assumption)
  refine l_aload_n rfl rfl ?_
  refine l_iload_n rfl rfl ?_
  refine l_iload_n rfl rfl ?_
  refine l_iconst rfl ?_
  have w7 : Xi U3 900 5 = Xi U2 900 5 := (show Xi U3 900 5 = Xi U2 900 5 from by rw [eU3]; exact Xi_ne (by omega))
  have w8 : 0 ≤ Xi U2 900 5 ∧ Xi U2 900 5 ≤ 301 := hHU2.c _ _
  have w9 : 0 ≤ Xi U3 900 6 ∧ Xi U3 900 6 ≤ 1 := hHU3.c _ _
  refine l_callV rfl rfl rfl (t_tu_doAction hHU3 action noun 1 ⟨by omega, by omega⟩ ⟨by omega, by omega⟩ ⟨by omega, by omega⟩ (by rw [(hFU3.cx 19 rfl _).1]; exact hn) (by rw [(hFU3.cx 19 rfl _).1]; exact hg) (by first | assumption | exact TX_FR hFU3 rfl hX) (by first | assumption | exact DEF_FR hH hFU3 rfl rfl hD) (by first | assumption | exact RUL_FR hH hFU3 rfl rfl hR) (by first | assumption | exact ORD_FR hFU3 rfl hO) (by first | assumption | exact AK_FR hFU3 rfl hA) (by first | assumption | omega) _) ?_
  rintro _ T4 ⟨hHT4, w13, z12, rfl, w12, w10, w11⟩
  have hFT4 : FR md_tu_takeTurn S T4 := FR.tr hFU3 w13 rfl
  show Rl _ _ _ _ _ [iv z12] _ _
  refine l_istore_n rfl rfl rfl ?_
  refine l_aload_n rfl rfl ?_
  refine l_gfi rfl rfl rfl rfl rfl ?_
  have w14 : 0 ≤ (Xi T4 900 6) ∧ (Xi T4 900 6) ≤ 1 := hHT4.c _ _
  refine l_if_ne rfl rfl (by unfold rg; omega) (fun w15 => ?_) (fun w16 => ?_)
  · exact Rl_weak (C34 T4 hHT4 hFT4 (z12) (by omega) (by first | assumption | exact (by assumption : TX T4))) (And.intro rfl (And.intro rfl (True.intro)))
  · refine l_aload_n rfl rfl ?_
    refine l_iconst rfl ?_
    refine l_iconst rfl ?_
    refine l_iconst rfl ?_
    refine l_iconst rfl ?_
    have w17 : 0 ≤ Xi T4 900 5 ∧ Xi T4 900 5 ≤ 301 := hHT4.c _ _
    have w18 : 0 ≤ Xi T4 900 6 ∧ Xi T4 900 6 ≤ 1 := hHT4.c _ _
    refine l_callV rfl rfl rfl (t_tu_runRules hHT4 3 (-1) (-1) 0 ⟨by omega, by omega⟩ ⟨by omega, by omega⟩ ⟨by omega, by omega⟩ ⟨by omega, by omega⟩ (fun h => absurd h (by decide)) (by first | assumption | exact TX_FR hFT4 rfl hX) (by first | assumption | exact DEF_FR hH hFT4 rfl rfl hD) (by first | assumption | exact RUL_FR hH hFT4 rfl rfl hR) (by first | assumption | exact ORD_FR hFT4 rfl hO) (by first | assumption | exact AK_FR hFT4 rfl hA) (by first | assumption | omega) _) ?_
    rintro _ T5 ⟨hHT5, w22, z21, rfl, w21, w19, w20⟩
    have hFT5 : FR md_tu_takeTurn S T5 := FR.tr hFT4 w22 rfl
    show Rl _ _ _ _ _ [iv z21] _ _
    refine l_pop rfl rfl ?_
    exact Rl_weak (C34 T5 hHT5 hFT5 (z12) (by omega) (by first | assumption | exact (by assumption : TX T5))) (And.intro rfl (And.intro rfl (True.intro)))

