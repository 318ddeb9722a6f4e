/-! SAFETY of methods: printed by wip/safe (vc.py, decl.py) -/
def md_mo_doDescribed : List rec := [(904, 905, 15, 16), (904, 905, 19, 20), (904, 905, 60, 61), (904, 905, 105, 106), (904, 905, 106, 107), (912, 913, 0, 100000), (913, 914, 0, 100000), (914, 915, 0, 100000), (915, 916, 0, 100000), (916, 917, 0, 100000), (918, 919, 0, 100000), (919, 920, 0, 100000), (920, 921, 0, 100000), (925, 926, 0, 100000), (926, 927, 0, 100000), (930, 931, 0, 100000), (931, 932, 0, 100000), (932, 933, 0, 100000)]
abbrev Q_mo_doDescribed (S : sS) (n : Nat) : pst := fun r S1 => HI S1 ∧ FR md_mo_doDescribed S S1 ∧ (r = none ∧ (TXM S1) ∧ (WYM S1) ∧ (LXM S1) ∧ (LCN S1) ∧ (GR S1 S) ∧ (Xi S1 904 60 < Xi S1 904 19))
set_option maxRecDepth 100000 in
set_option maxHeartbeats 4000000 in
theorem c2_mo_doDescribed {S : sS} (hH : HI S) (n : Nat) (hT : TK S n) (hv : RNV S n) (hM : LXM S) (hX : TXM S) (hW : WYM S) (hLC : LCN S) (hB : ABV S) (hl : Xi S 904 71 + Xi S 904 72 ≤ Xi S 904 69) (hO : ONA S) (hd : Xi S 904 60 < Xi S 904 19) (h1 : 1 ≤ Xi S 904 16) (hr : Xi S 904 70 ≠ 13 → Xi S 904 110 < Xi S 904 16 ∧ ∀ i : Nat, (i : Int) < Xi S 904 112 → ADM S (Xi S 967 i)) (hp : 0 < Xi S 904 73 → Xi S 904 74 < Xi S 904 69 ∧ rnR S (Xi S 904 74) 4 ≠ -1) (d : Nat) : ∀ (n2 : Nat) (T1 : sS) (_ : HI T1) (_ : FR md_mo_doDescribed S T1) (v1 : Int), (0 ≤ v1 ∧ v1 ≤ 2600) → (v1 ≤ Xi S 904 72) → (Xi T1 904 69 = Xi S 904 69) → (Xi T1 904 70 = Xi S 904 70) → (Xi T1 904 71 = Xi S 904 71) → (Xi T1 904 72 = Xi S 904 72) → (Xi T1 904 73 = Xi S 904 73) → (Xi T1 904 74 = Xi S 904 74) → (Xi T1 904 110 = Xi S 904 110) → (Xi T1 904 112 = Xi S 904 112) → (Xi T1 904 16 = Xi S 904 16) → (Xi T1 904 23 = Xi S 904 23) → (Xi T1 904 32 = Xi S 904 32) → (TXM T1) → (WYM T1) → (LXM T1) → (LCN T1) → (GR T1 S) → (LXK T1 S (Xi S 904 15)) → (Xi S 904 15 ≤ Xi T1 904 15) → (Xi T1 904 60 < Xi T1 904 19) → (Xi T1 904 19 ≤ Xi S 904 19 + cnR S (Xi S 904 71) 4 (v1).toNat) → n2 = (2601 - v1).toNat → Rl lay0 (d + 5) m_mo_doDescribed 2 [(0, .ref 904), (1, iv v1)] [] T1 (Q_mo_doDescribed S n) := by
  have hF : FR md_mo_doDescribed S S := FR.rf
  have w1 : 0 ≤ Xi S 904 110 ∧ Xi S 904 110 ≤ 15 := hH.c _ _
  have w2 : 0 ≤ Xi S 904 112 ∧ Xi S 904 112 ≤ 6 := hH.c _ _
  have w3 : 0 ≤ Xi S 904 15 ∧ Xi S 904 15 ≤ 300 := hH.c _ _
  have w4 : 0 ≤ Xi S 904 16 ∧ Xi S 904 16 ≤ 16 := hH.c _ _
  have w5 : 0 ≤ Xi S 904 19 ∧ Xi S 904 19 ≤ 24 := hH.c _ _
  have w6 : 0 ≤ Xi S 904 23 ∧ Xi S 904 23 ≤ 24 := hH.c _ _
  have w7 : 0 ≤ Xi S 904 32 ∧ Xi S 904 32 ≤ 12 := hH.c _ _
  have w8 : -1 ≤ Xi S 904 60 ∧ Xi S 904 60 ≤ 23 := hH.c _ _
  have w9 : 0 ≤ Xi S 904 69 ∧ Xi S 904 69 ≤ 2600 := hH.c _ _
  have w10 : 0 ≤ Xi S 904 70 ∧ Xi S 904 70 ≤ 20 := hH.c _ _
  have w11 : 0 ≤ Xi S 904 71 ∧ Xi S 904 71 ≤ 2600 := hH.c _ _
  have w12 : 0 ≤ Xi S 904 72 ∧ Xi S 904 72 ≤ 2600 := hH.c _ _
  have w13 : 0 ≤ Xi S 904 73 ∧ Xi S 904 73 ≤ 5 := hH.c _ _
  have w14 : 0 ≤ Xi S 904 74 ∧ Xi S 904 74 ≤ 2600 := hH.c _ _
  have hn5 := hT.1
  have hc69 : 0 ≤ Xi S 904 69 ∧ Xi S 904 69 ≤ 2600 := hH.c _ _
  have hc71 : 0 ≤ Xi S 904 71 ∧ Xi S 904 71 ≤ 2600 := hH.c _ _
  have hc72 : 0 ≤ Xi S 904 72 ∧ Xi S 904 72 ≤ 2600 := hH.c _ _
  have hrf : ∀ r : Int, 0 ≤ r → r < Xi S 904 69 → Xi S 950 r.toNat ≤ n := fun r a b => by have := hv r.toNat (by omega); omega
  have hc15 : 0 ≤ Xi S 904 15 ∧ Xi S 904 15 ≤ 300 := hH.c _ _
  have hl9 := lcn_le hH hLC
  have hc3 : 0 ≤ Xi S 904 23 ∧ Xi S 904 23 ≤ 24 := hH.c _ _
  have hc19 : 0 ≤ Xi S 904 19 ∧ Xi S 904 19 ≤ 24 := hH.c _ _
  have hc32 : 0 ≤ Xi S 904 32 ∧ Xi S 904 32 ≤ 12 := hH.c _ _
  have hc16 : 0 ≤ Xi S 904 16 ∧ Xi S 904 16 ≤ 16 := hH.c _ _
  have hc74 : 0 ≤ Xi S 904 74 := (hH.c 904 74).1
  intro n2
  induction n2 using Nat.strongRecOn with
  | ind n2 ih2 =>
    intro T1 hHT1 hFT1 v1 w15 w16 w17 w18 w19 w20 w21 w22 w23 w24 w25 w26 w27 X2 W2 M2 L2 G2 K2 w28 w29 N2 hm2
    have w30 : Xi T1 904 110 = Xi S 904 110 := hFT1.x _ _ rfl
    have w31 : Xi T1 904 112 = Xi S 904 112 := hFT1.x _ _ rfl
    have w32 : Xi T1 904 16 = Xi S 904 16 := hFT1.x _ _ rfl
    have w33 : Xi T1 904 23 = Xi S 904 23 := hFT1.x _ _ rfl
    have w34 : Xi T1 904 32 = Xi S 904 32 := hFT1.x _ _ rfl
    have w35 : Xi T1 904 69 = Xi S 904 69 := hFT1.x _ _ rfl
    have w36 : Xi T1 904 70 = Xi S 904 70 := hFT1.x _ _ rfl
    have w37 : Xi T1 904 71 = Xi S 904 71 := hFT1.x _ _ rfl
    have w38 : Xi T1 904 72 = Xi S 904 72 := hFT1.x _ _ rfl
    have w39 : Xi T1 904 73 = Xi S 904 73 := hFT1.x _ _ rfl
    have w40 : Xi T1 904 74 = Xi S 904 74 := hFT1.x _ _ rfl
    have w41 : 0 ≤ Xi T1 904 110 ∧ Xi T1 904 110 ≤ 15 := hHT1.c _ _
    have w42 : 0 ≤ Xi T1 904 112 ∧ Xi T1 904 112 ≤ 6 := hHT1.c _ _
    have w43 : 0 ≤ Xi T1 904 15 ∧ Xi T1 904 15 ≤ 300 := hHT1.c _ _
    have w44 : 0 ≤ Xi T1 904 16 ∧ Xi T1 904 16 ≤ 16 := hHT1.c _ _
    have w45 : 0 ≤ Xi T1 904 19 ∧ Xi T1 904 19 ≤ 24 := hHT1.c _ _
    have w46 : 0 ≤ Xi T1 904 23 ∧ Xi T1 904 23 ≤ 24 := hHT1.c _ _
    have w47 : 0 ≤ Xi T1 904 32 ∧ Xi T1 904 32 ≤ 12 := hHT1.c _ _
    have w48 : -1 ≤ Xi T1 904 60 ∧ Xi T1 904 60 ≤ 23 := hHT1.c _ _
    have w49 : 0 ≤ Xi T1 904 69 ∧ Xi T1 904 69 ≤ 2600 := hHT1.c _ _
    have w50 : 0 ≤ Xi T1 904 70 ∧ Xi T1 904 70 ≤ 20 := hHT1.c _ _
    have w51 : 0 ≤ Xi T1 904 71 ∧ Xi T1 904 71 ≤ 2600 := hHT1.c _ _
    have w52 : 0 ≤ Xi T1 904 72 ∧ Xi T1 904 72 ≤ 2600 := hHT1.c _ _
    have w53 : 0 ≤ Xi T1 904 73 ∧ Xi T1 904 73 ≤ 5 := hHT1.c _ _
    have w54 : 0 ≤ Xi T1 904 74 ∧ Xi T1 904 74 ≤ 2600 := hHT1.c _ _
    have C182 : ∀  (T2 : sS) (_ : HI T2) (_ : FR md_mo_doDescribed S T2) (v1 : Int) (v2 : Int) (v3 : Int), (0 ≤ v1 ∧ v1 ≤ 2599) → (0 ≤ v2 ∧ v2 ≤ 2600) → (0 ≤ v3 ∧ v3 ≤ 23) → (Xi T2 904 69 = Xi S 904 69) → (Xi T2 904 70 = Xi S 904 70) → (Xi T2 904 71 = Xi S 904 71) → (Xi T2 904 72 = Xi S 904 72) → (Xi T2 904 73 = Xi S 904 73) → (Xi T2 904 74 = Xi S 904 74) → (Xi T2 904 110 = Xi S 904 110) → (Xi T2 904 112 = Xi S 904 112) → (Xi T2 904 16 = Xi S 904 16) → (Xi T2 904 23 = Xi S 904 23) → (Xi T2 904 32 = Xi S 904 32) → (TXM T2) → (WYM T2) → (LXM T2) → (LCN T2) → (GR T2 S) → (LXK T2 S (Xi S 904 15)) → (Xi S 904 15 ≤ Xi T2 904 15) → (Xi T2 904 60 < Xi T2 904 19) → (Xi T2 904 19 ≤ Xi S 904 19 + cnR S (Xi S 904 71) 4 (v1 + 1).toNat) → (v1 < Xi S 904 72) → (v2 = Xi S 904 71 + v1) → (v3 < Xi T2 904 19) → ((2601 - v1).toNat ≤ n2) → Rl lay0 (d + 5) m_mo_doDescribed 182 [(0, .ref 904), (1, iv v1), (2, iv v2), (3, iv v3)] [] T2 (Q_mo_doDescribed S n) := by
      intro T2 hHT2 hFT2 v1 v2 v3 w55 w56 w57 w58 w59 w60 w61 w62 w63 w64 w65 w66 w67 w68 X182 W182 M182 L182 G182 K182 w69 w70 N182 w71 w72 w73 w74
      have w75 : Xi T2 904 110 = Xi S 904 110 := hFT2.x _ _ rfl
      have w76 : Xi T2 904 112 = Xi S 904 112 := hFT2.x _ _ rfl
      have w77 : Xi T2 904 16 = Xi S 904 16 := hFT2.x _ _ rfl
      have w78 : Xi T2 904 23 = Xi S 904 23 := hFT2.x _ _ rfl
      have w79 : Xi T2 904 32 = Xi S 904 32 := hFT2.x _ _ rfl
      have w80 : Xi T2 904 69 = Xi S 904 69 := hFT2.x _ _ rfl
      have w81 : Xi T2 904 70 = Xi S 904 70 := hFT2.x _ _ rfl
      have w82 : Xi T2 904 71 = Xi S 904 71 := hFT2.x _ _ rfl
      have w83 : Xi T2 904 72 = Xi S 904 72 := hFT2.x _ _ rfl
      have w84 : Xi T2 904 73 = Xi S 904 73 := hFT2.x _ _ rfl
      have w85 : Xi T2 904 74 = Xi S 904 74 := hFT2.x _ _ rfl
      have w86 : 0 ≤ Xi T2 904 110 ∧ Xi T2 904 110 ≤ 15 := hHT2.c _ _
      have w87 : 0 ≤ Xi T2 904 112 ∧ Xi T2 904 112 ≤ 6 := hHT2.c _ _
      have w88 : 0 ≤ Xi T2 904 15 ∧ Xi T2 904 15 ≤ 300 := hHT2.c _ _
      have w89 : 0 ≤ Xi T2 904 16 ∧ Xi T2 904 16 ≤ 16 := hHT2.c _ _
      have w90 : 0 ≤ Xi T2 904 19 ∧ Xi T2 904 19 ≤ 24 := hHT2.c _ _
      have w91 : 0 ≤ Xi T2 904 23 ∧ Xi T2 904 23 ≤ 24 := hHT2.c _ _
      have w92 : 0 ≤ Xi T2 904 32 ∧ Xi T2 904 32 ≤ 12 := hHT2.c _ _
      have w93 : -1 ≤ Xi T2 904 60 ∧ Xi T2 904 60 ≤ 23 := hHT2.c _ _
      have w94 : 0 ≤ Xi T2 904 69 ∧ Xi T2 904 69 ≤ 2600 := hHT2.c _ _
      have w95 : 0 ≤ Xi T2 904 70 ∧ Xi T2 904 70 ≤ 20 := hHT2.c _ _
      have w96 : 0 ≤ Xi T2 904 71 ∧ Xi T2 904 71 ≤ 2600 := hHT2.c _ _
      have w97 : 0 ≤ Xi T2 904 72 ∧ Xi T2 904 72 ≤ 2600 := hHT2.c _ _
      have w98 : 0 ≤ Xi T2 904 73 ∧ Xi T2 904 73 ≤ 5 := hHT2.c _ _
      have w99 : 0 ≤ Xi T2 904 74 ∧ Xi T2 904 74 ≤ 2600 := hHT2.c _ _
      refine l_aload_n rfl rfl ?_
      refine l_gfi rfl rfl rfl rfl rfl ?_
      refine l_if_le rfl rfl (by unfold rg; omega) (fun w100 => ?_) (fun w101 => ?_)
      · refine l_iinc rfl rfl rfl rfl ?_
        refine l_goto rfl rfl ?_
        have w102 : 0 ≤ Xi T2 904 106 ∧ Xi T2 904 106 ≤ 9 := hHT2.c _ _
        exact Rl_weak (ih2 _ (by omega) T2 hHT2 hFT2 ((v1 + 1)) (by omega) (by omega) (by omega) (by omega) (by omega) (by omega) (by omega) (by omega) (by omega) (by omega) (by omega) (by omega) (by omega) (by first | assumption | exact (by assumption : TXM T2)) (by first | assumption | exact (by assumption : WYM T2)) (by first | assumption | exact (by assumption : LXM T2)) (by first | assumption | exact (by assumption : LCN T2)) (by first | exact GR.rf | exact (by assumption : GR T2 S)) (by first | exact LXK.rf | exact (by assumption : LXK T2 S (Xi S 904 15))) (by omega) (by omega) (by first | exact Int.le_of_eq (Int.add_zero _).symm | assumption | (have t : Xi T2 904 19 = Xi T2 904 19 := (by omega); rw [t]; assumption)) rfl) (And.intro rfl (And.intro rfl (True.intro)))
      · refine l_aload_n rfl rfl ?_
        refine l_gfi rfl rfl rfl rfl rfl ?_
        have w117 : 0 ≤ (Xi T2 904 106) ∧ (Xi T2 904 106) ≤ 9 := hHT2.c _ _
        refine l_if_ne rfl rfl (by unfold rg; omega) (fun w118 => ?_) (fun w119 => ?_)
        · refine l_iinc rfl rfl rfl rfl ?_
          refine l_goto rfl rfl ?_
          have w120 : 0 ≤ Xi T2 904 106 ∧ Xi T2 904 106 ≤ 9 := hHT2.c _ _
          exact Rl_weak (ih2 _ (by omega) T2 hHT2 hFT2 ((v1 + 1)) (by omega) (by omega) (by omega) (by omega) (by omega) (by omega) (by omega) (by omega) (by omega) (by omega) (by omega) (by omega) (by omega) (by first | assumption | exact (by assumption : TXM T2)) (by first | assumption | exact (by assumption : WYM T2)) (by first | assumption | exact (by assumption : LXM T2)) (by first | assumption | exact (by assumption : LCN T2)) (by first | exact GR.rf | exact (by assumption : GR T2 S)) (by first | exact LXK.rf | exact (by assumption : LXK T2 S (Xi S 904 15))) (by omega) (by omega) (by first | exact Int.le_of_eq (Int.add_zero _).symm | assumption | (have t : Xi T2 904 19 = Xi T2 904 19 := (by omega); rw [t]; assumption)) rfl) (And.intro rfl (And.intro rfl (True.intro)))
        · refine l_aload_n rfl rfl ?_
          refine l_iload_n rfl rfl ?_
          refine l_aload_n rfl rfl ?_
          have h198 : Xi S 904 74 < Xi S 904 69 := (hp (by omega)).1
          refine l_gfr rfl rfl rfl rfl rfl (hHT2.r 904 67 950 rfl) ?_
          refine l_iload_n rfl rfl ?_
          refine l_iaload (n := 2600) rfl rfl (by omega) (by omega) (by unfold rg; omega) ?_
          have w135 : 0 ≤ (Xi T2 950 ((v2).toNat)) ∧ (Xi T2 950 ((v2).toNat)) ≤ 5010 := hHT2.c _ _
          have e203 : (Xi T2 950 ((v2).toNat)) ≤ n := by rw [(hFT2.cx 950 rfl _).1]; exact hrf _ (by omega) (by omega)
          have w136 : 0 ≤ Xi T2 904 106 ∧ Xi T2 904 106 ≤ 9 := hHT2.c _ _
          refine l_callV rfl rfl rfl (t_mo_placeObject hHT2 n v3 (Xi T2 950 ((v2).toNat)) ⟨by omega, by omega⟩ ⟨by omega, by omega⟩ (by first | assumption | exact (TK_FR hFT2 rfl (by assumption : TK S _))) (by first | assumption | exact (RNV_FR hFT2 rfl (by assumption : RNV S _))) (by first | assumption | exact (by assumption : LXM T2)) (by first | assumption | exact (ABV_FR hFT2 rfl (by assumption : ABV S))) (by first | assumption | exact (by assumption : WYM T2)) (by first | assumption | omega) (rn_up2 (hp (by omega)).2 (by assumption : LXK T2 S (Xi S 904 15)) (by omega) (by omega) (fun j => (hFT2.cx 910 rfl j).2) (fun j => (hFT2.cx 950 rfl j).1) (fun j => (hFT2.cx 951 rfl j).1) (by omega)) _) ?_
          rintro _ T3 ⟨hHT3, w153, rfl, w151⟩
          have hFT3 : FR md_mo_doDescribed S T3 := FR.tr hFT2 w153 rfl
          show Rl _ _ _ _ _ [] _ _
          refine l_iinc rfl rfl rfl rfl ?_
          refine l_goto rfl rfl ?_
          have w154 : 0 ≤ Xi T3 904 106 ∧ Xi T3 904 106 ≤ 9 := hHT3.c _ _
          have w155 : Xi T3 904 110 = Xi T2 904 110 := (show Xi T3 904 110 = Xi T2 904 110 from w153.x _ _ rfl)
          have w157 : Xi T3 904 112 = Xi T2 904 112 := (show Xi T3 904 112 = Xi T2 904 112 from w153.x _ _ rfl)
          have w159 : Xi T3 904 15 = Xi T2 904 15 := (show Xi T3 904 15 = Xi T2 904 15 from w153.x _ _ rfl)
          have w161 : Xi T3 904 16 = Xi T2 904 16 := (show Xi T3 904 16 = Xi T2 904 16 from w153.x _ _ rfl)
          have w163 : Xi T3 904 19 = Xi T2 904 19 := (show Xi T3 904 19 = Xi T2 904 19 from w153.x _ _ rfl)
          have w165 : Xi T3 904 23 = Xi T2 904 23 := (show Xi T3 904 23 = Xi T2 904 23 from w153.x _ _ rfl)
          have w167 : Xi T3 904 32 = Xi T2 904 32 := (show Xi T3 904 32 = Xi T2 904 32 from w153.x _ _ rfl)
          have w169 : Xi T3 904 60 = Xi T2 904 60 := (show Xi T3 904 60 = Xi T2 904 60 from w153.x _ _ rfl)
          have w171 : Xi T3 904 69 = Xi T2 904 69 := (show Xi T3 904 69 = Xi T2 904 69 from w153.x _ _ rfl)
          have w173 : Xi T3 904 70 = Xi T2 904 70 := (show Xi T3 904 70 = Xi T2 904 70 from w153.x _ _ rfl)
          have w175 : Xi T3 904 71 = Xi T2 904 71 := (show Xi T3 904 71 = Xi T2 904 71 from w153.x _ _ rfl)
          have w177 : Xi T3 904 72 = Xi T2 904 72 := (show Xi T3 904 72 = Xi T2 904 72 from w153.x _ _ rfl)
          have w179 : Xi T3 904 73 = Xi T2 904 73 := (show Xi T3 904 73 = Xi T2 904 73 from w153.x _ _ rfl)
          have w181 : Xi T3 904 74 = Xi T2 904 74 := (show Xi T3 904 74 = Xi T2 904 74 from w153.x _ _ rfl)
          exact Rl_weak (ih2 _ (by omega) T3 hHT3 hFT3 ((v1 + 1)) (by omega) (by omega) (by omega) (by omega) (by omega) (by omega) (by omega) (by omega) (by omega) (by omega) (by omega) (by omega) (by omega) (by first | assumption | exact (TXM_FR w153 rfl (by assumption : TXM T2))) (by first | assumption | exact (by assumption : WYM T3)) (by first | assumption | exact (LXM_FR w153 rfl (by assumption : LXM T2))) (by first | assumption | exact (LCN_FR w153 rfl (by assumption : LCN T2))) (by first | exact GR.rf | exact (GR_FR w153 rfl (by assumption : GR T2 S))) (by first | exact LXK.rf | exact (LXK.fr (by assumption : LXK T2 S (Xi S 904 15)) w153 rfl)) (by omega) (by omega) (by first | exact Int.le_of_eq (Int.add_zero _).symm | assumption | (have t : Xi T3 904 19 = Xi T2 904 19 := (by omega); rw [t]; assumption)) rfl) (And.intro rfl (And.intro rfl (True.intro)))
    have C133 : ∀ (n133 : Nat) (T4 : sS) (_ : HI T4) (_ : FR md_mo_doDescribed S T4) (v1 : Int) (v2 : Int) (v3 : Int) (v4 : Int), (0 ≤ v1 ∧ v1 ≤ 2599) → (0 ≤ v2 ∧ v2 ≤ 2600) → (0 ≤ v3 ∧ v3 ≤ 23) → (0 ≤ v4 ∧ v4 ≤ 6) → (Xi T4 904 69 = Xi S 904 69) → (Xi T4 904 70 = Xi S 904 70) → (Xi T4 904 71 = Xi S 904 71) → (Xi T4 904 72 = Xi S 904 72) → (Xi T4 904 73 = Xi S 904 73) → (Xi T4 904 74 = Xi S 904 74) → (Xi T4 904 110 = Xi S 904 110) → (Xi T4 904 112 = Xi S 904 112) → (Xi T4 904 16 = Xi S 904 16) → (Xi T4 904 23 = Xi S 904 23) → (Xi T4 904 32 = Xi S 904 32) → (TXM T4) → (WYM T4) → (LXM T4) → (LCN T4) → (GR T4 S) → (LXK T4 S (Xi S 904 15)) → (Xi S 904 15 ≤ Xi T4 904 15) → (Xi T4 904 60 < Xi T4 904 19) → (Xi T4 904 19 ≤ Xi S 904 19 + cnR S (Xi S 904 71) 4 (v1 + 1).toNat) → (v1 < Xi S 904 72) → (v2 = Xi S 904 71 + v1) → (v3 < Xi T4 904 19) → (Xi S 904 70 ≠ 13) → ((2601 - v1).toNat ≤ n2) → n133 = (7 - v4).toNat → Rl lay0 (d + 5) m_mo_doDescribed 133 [(0, .ref 904), (1, iv v1), (2, iv v2), (3, iv v3), (4, iv v4)] [] T4 (Q_mo_doDescribed S n) := by
      intro n133
      induction n133 using Nat.strongRecOn with
      | ind n133 ih133 =>
        intro T4 hHT4 hFT4 v1 v2 v3 v4 w183 w184 w185 w186 w187 w188 w189 w190 w191 w192 w193 w194 w195 w196 w197 X133 W133 M133 L133 G133 K133 w198 w199 N133 w200 w201 w202 w203 w204 hm133
        have w205 : Xi T4 904 110 = Xi S 904 110 := hFT4.x _ _ rfl
        have w206 : Xi T4 904 112 = Xi S 904 112 := hFT4.x _ _ rfl
        have w207 : Xi T4 904 16 = Xi S 904 16 := hFT4.x _ _ rfl
        have w208 : Xi T4 904 23 = Xi S 904 23 := hFT4.x _ _ rfl
        have w209 : Xi T4 904 32 = Xi S 904 32 := hFT4.x _ _ rfl
        have w210 : Xi T4 904 69 = Xi S 904 69 := hFT4.x _ _ rfl
        have w211 : Xi T4 904 70 = Xi S 904 70 := hFT4.x _ _ rfl
        have w212 : Xi T4 904 71 = Xi S 904 71 := hFT4.x _ _ rfl
        have w213 : Xi T4 904 72 = Xi S 904 72 := hFT4.x _ _ rfl
        have w214 : Xi T4 904 73 = Xi S 904 73 := hFT4.x _ _ rfl
        have w215 : Xi T4 904 74 = Xi S 904 74 := hFT4.x _ _ rfl
        have w216 : 0 ≤ Xi T4 904 110 ∧ Xi T4 904 110 ≤ 15 := hHT4.c _ _
        have w217 : 0 ≤ Xi T4 904 112 ∧ Xi T4 904 112 ≤ 6 := hHT4.c _ _
        have w218 : 0 ≤ Xi T4 904 15 ∧ Xi T4 904 15 ≤ 300 := hHT4.c _ _
        have w219 : 0 ≤ Xi T4 904 16 ∧ Xi T4 904 16 ≤ 16 := hHT4.c _ _
        have w220 : 0 ≤ Xi T4 904 19 ∧ Xi T4 904 19 ≤ 24 := hHT4.c _ _
        have w221 : 0 ≤ Xi T4 904 23 ∧ Xi T4 904 23 ≤ 24 := hHT4.c _ _
        have w222 : 0 ≤ Xi T4 904 32 ∧ Xi T4 904 32 ≤ 12 := hHT4.c _ _
        have w223 : -1 ≤ Xi T4 904 60 ∧ Xi T4 904 60 ≤ 23 := hHT4.c _ _
        have w224 : 0 ≤ Xi T4 904 69 ∧ Xi T4 904 69 ≤ 2600 := hHT4.c _ _
        have w225 : 0 ≤ Xi T4 904 70 ∧ Xi T4 904 70 ≤ 20 := hHT4.c _ _
        have w226 : 0 ≤ Xi T4 904 71 ∧ Xi T4 904 71 ≤ 2600 := hHT4.c _ _
        have w227 : 0 ≤ Xi T4 904 72 ∧ Xi T4 904 72 ≤ 2600 := hHT4.c _ _
        have w228 : 0 ≤ Xi T4 904 73 ∧ Xi T4 904 73 ≤ 5 := hHT4.c _ _
        have w229 : 0 ≤ Xi T4 904 74 ∧ Xi T4 904 74 ≤ 2600 := hHT4.c _ _
        refine l_iload rfl rfl ?_
        refine l_aload_n rfl rfl ?_
        refine l_gfi rfl rfl rfl rfl rfl ?_
        refine l_icmp_ge rfl rfl (by unfold rg; omega) (by unfold rg; omega) (fun w230 => ?_) (fun w231 => ?_)
        · have w232 : 0 ≤ Xi T4 904 106 ∧ Xi T4 904 106 ≤ 9 := hHT4.c _ _
          exact Rl_weak (C182 T4 hHT4 hFT4 (v1) (v2) (v3) (by omega) (by omega) (by omega) (by omega) (by omega) (by omega) (by omega) (by omega) (by omega) (by omega) (by omega) (by omega) (by omega) (by omega) (by first | assumption | exact (by assumption : TXM T4)) (by first | assumption | exact (by assumption : WYM T4)) (by first | assumption | exact (by assumption : LXM T4)) (by first | assumption | exact (by assumption : LCN T4)) ((by assumption : GR T4 S)) ((by assumption : LXK T4 S (Xi S 904 15))) (by omega) (by omega) (by first | assumption | (have t : Xi T4 904 19 = Xi T4 904 19 := (by omega); rw [t]; assumption)) (by omega) (by omega) (by omega) (by omega)) (And.intro rfl (And.intro rfl (And.intro rfl (And.intro rfl (True.intro)))))
        · refine l_aload_n rfl rfl ?_
          refine l_gfi rfl rfl rfl rfl rfl ?_
          have w247 : 0 ≤ (Xi T4 904 106) ∧ (Xi T4 904 106) ≤ 9 := hHT4.c _ _
          refine l_if_ne rfl rfl (by unfold rg; omega) (fun w248 => ?_) (fun w249 => ?_)
          · have w250 : 0 ≤ Xi T4 904 106 ∧ Xi T4 904 106 ≤ 9 := hHT4.c _ _
            exact Rl_weak (C182 T4 hHT4 hFT4 (v1) (v2) (v3) (by omega) (by omega) (by omega) (by omega) (by omega) (by omega) (by omega) (by omega) (by omega) (by omega) (by omega) (by omega) (by omega) (by omega) (by first | assumption | exact (by assumption : TXM T4)) (by first | assumption | exact (by assumption : WYM T4)) (by first | assumption | exact (by assumption : LXM T4)) (by first | assumption | exact (by assumption : LCN T4)) ((by assumption : GR T4 S)) ((by assumption : LXK T4 S (Xi S 904 15))) (by omega) (by omega) (by first | assumption | (have t : Xi T4 904 19 = Xi T4 904 19 := (by omega); rw [t]; assumption)) (by omega) (by omega) (by omega) (by omega)) (And.intro rfl (And.intro rfl (And.intro rfl (And.intro rfl (True.intro)))))
          · refine l_aload_n rfl rfl ?_
            refine l_iload_n rfl rfl ?_
            refine l_aload_n rfl rfl ?_
            refine l_gfr rfl rfl rfl rfl rfl (hHT4.r 904 111 967 rfl) ?_
            refine l_iload rfl rfl ?_
            refine l_iaload (n := 6) rfl rfl (by omega) (by omega) (by unfold rg; omega) ?_
            have w265 : -1 ≤ (Xi T4 967 ((v4).toNat)) ∧ (Xi T4 967 ((v4).toNat)) ≤ 6411 := hHT4.c _ _
            have a157 : ADM S (Xi T4 967 ((v4).toNat)) := by rw [(hFT4.cx 967 rfl _).1]; exact (hr (by omega)).2 (v4).toNat (by omega)
            have d157 : 0 ≤ (Xi T4 967 ((v4).toNat)) ∧ (Xi T4 967 ((v4).toNat)) ≤ 6411 := by have t := a157; unfold ADM at t; omega
            refine l_iconst rfl ?_
            refine l_callV rfl rfl rfl (t_mo_tellRead hHT4 v3 (Xi T4 967 ((v4).toNat)) 1 ⟨by omega, by omega⟩ ⟨by omega, by omega⟩ ⟨by omega, by omega⟩ (by have t := a157; unfold ADM at t; have a := hFT4.x 904 23 rfl; have b := hFT4.x 904 32 rfl; omega) (by first | assumption | omega) (by first | assumption | exact (by assumption : TXM T4)) _) ?_
            rintro _ T5 ⟨hHT5, w283, z282, rfl, w282, w281⟩
            have hFT5 : FR md_mo_doDescribed S T5 := FR.tr hFT4 w283 rfl
            show Rl _ _ _ _ _ [iv z282] _ _
            refine l_if_ne rfl rfl (by unfold rg; omega) (fun w284 => ?_) (fun w285 => ?_)
            · refine l_iinc rfl rfl rfl rfl ?_
              refine l_goto rfl rfl ?_
              have w286 : Xi T5 904 106 = Xi T4 904 106 := (show Xi T5 904 106 = Xi T4 904 106 from w283.x _ _ rfl)
              have w287 : 0 ≤ Xi T4 904 106 ∧ Xi T4 904 106 ≤ 9 := hHT4.c _ _
              have w288 : Xi T5 904 110 = Xi T4 904 110 := (show Xi T5 904 110 = Xi T4 904 110 from w283.x _ _ rfl)
              have w290 : Xi T5 904 112 = Xi T4 904 112 := (show Xi T5 904 112 = Xi T4 904 112 from w283.x _ _ rfl)
              have w292 : Xi T5 904 15 = Xi T4 904 15 := (show Xi T5 904 15 = Xi T4 904 15 from w283.x _ _ rfl)
              have w294 : Xi T5 904 16 = Xi T4 904 16 := (show Xi T5 904 16 = Xi T4 904 16 from w283.x _ _ rfl)
              have w296 : Xi T5 904 19 = Xi T4 904 19 := (show Xi T5 904 19 = Xi T4 904 19 from w283.x _ _ rfl)
              have w298 : Xi T5 904 23 = Xi T4 904 23 := (show Xi T5 904 23 = Xi T4 904 23 from w283.x _ _ rfl)
              have w300 : Xi T5 904 32 = Xi T4 904 32 := (show Xi T5 904 32 = Xi T4 904 32 from w283.x _ _ rfl)
              have w302 : Xi T5 904 60 = Xi T4 904 60 := (show Xi T5 904 60 = Xi T4 904 60 from w283.x _ _ rfl)
              have w304 : Xi T5 904 69 = Xi T4 904 69 := (show Xi T5 904 69 = Xi T4 904 69 from w283.x _ _ rfl)
              have w306 : Xi T5 904 70 = Xi T4 904 70 := (show Xi T5 904 70 = Xi T4 904 70 from w283.x _ _ rfl)
              have w308 : Xi T5 904 71 = Xi T4 904 71 := (show Xi T5 904 71 = Xi T4 904 71 from w283.x _ _ rfl)
              have w310 : Xi T5 904 72 = Xi T4 904 72 := (show Xi T5 904 72 = Xi T4 904 72 from w283.x _ _ rfl)
              have w312 : Xi T5 904 73 = Xi T4 904 73 := (show Xi T5 904 73 = Xi T4 904 73 from w283.x _ _ rfl)
              have w314 : Xi T5 904 74 = Xi T4 904 74 := (show Xi T5 904 74 = Xi T4 904 74 from w283.x _ _ rfl)
              exact Rl_weak (ih133 _ (by omega) T5 hHT5 hFT5 (v1) (v2) (v3) ((v4 + 1)) (by omega) (by omega) (by omega) (by omega) (by omega) (by omega) (by omega) (by omega) (by omega) (by omega) (by omega) (by omega) (by omega) (by omega) (by omega) (by first | assumption | exact (by assumption : TXM T5)) (by first | assumption | exact (WYM_FR w283 rfl (by assumption : WYM T4))) (by first | assumption | exact (LXM_FR w283 rfl (by assumption : LXM T4))) (by first | assumption | exact (LCN_FR w283 rfl (by assumption : LCN T4))) ((GR_FR w283 rfl (by assumption : GR T4 S))) ((LXK.fr (by assumption : LXK T4 S (Xi S 904 15)) w283 rfl)) (by omega) (by omega) (by first | assumption | (have t : Xi T5 904 19 = Xi T4 904 19 := (by omega); rw [t]; assumption)) (by omega) (by omega) (by omega) (by omega) (by omega) rfl) (And.intro rfl (And.intro rfl (And.intro rfl (And.intro rfl (And.intro rfl (True.intro))))))
            · refine l_aload_n rfl rfl ?_
              refine l_iconst rfl ?_
              refine l_aload_n rfl rfl ?_
              refine l_gfr rfl rfl rfl rfl rfl (hHT5.r 904 67 950 rfl) ?_
              refine l_iload_n rfl rfl ?_
              refine l_iaload (n := 2600) rfl rfl (by omega) (by omega) (by unfold rg; omega) ?_
              have w316 : 0 ≤ (Xi T5 950 ((v2).toNat)) ∧ (Xi T5 950 ((v2).toNat)) ≤ 5010 := hHT5.c _ _
              have e172 : (Xi T5 950 ((v2).toNat)) ≤ n := by rw [(hFT5.cx 950 rfl _).1]; exact hrf _ (by omega) (by omega)
              have w317 : Xi T5 904 106 = Xi T4 904 106 := (show Xi T5 904 106 = Xi T4 904 106 from w283.x _ _ rfl)
              have w318 : 0 ≤ Xi T4 904 106 ∧ Xi T4 904 106 ≤ 9 := hHT4.c _ _
              refine l_callV rfl rfl rfl (t_mo_wrong hHT5 5 (Xi T5 950 ((v2).toNat)) ⟨by omega, by omega⟩ ⟨by omega, by omega⟩ _) ?_
              rintro _ T6 ⟨hHT6, w349, rfl, w347⟩
              have hFT6 : FR md_mo_doDescribed S T6 := FR.tr hFT5 w349 rfl
              show Rl _ _ _ _ _ [] _ _
              refine l_iinc rfl rfl rfl rfl ?_
              refine l_goto rfl rfl ?_
              have w350 : 0 ≤ Xi T6 904 106 ∧ Xi T6 904 106 ≤ 9 := hHT6.c _ _
              have w351 : Xi T6 904 110 = Xi T4 904 110 := (show Xi T6 904 110 = Xi T5 904 110 from w349.x _ _ rfl).trans ((show Xi T5 904 110 = Xi T4 904 110 from w283.x _ _ rfl))
              have w353 : Xi T6 904 112 = Xi T4 904 112 := (show Xi T6 904 112 = Xi T5 904 112 from w349.x _ _ rfl).trans ((show Xi T5 904 112 = Xi T4 904 112 from w283.x _ _ rfl))
              have w355 : Xi T6 904 15 = Xi T4 904 15 := (show Xi T6 904 15 = Xi T5 904 15 from w349.x _ _ rfl).trans ((show Xi T5 904 15 = Xi T4 904 15 from w283.x _ _ rfl))
              have w357 : Xi T6 904 16 = Xi T4 904 16 := (show Xi T6 904 16 = Xi T5 904 16 from w349.x _ _ rfl).trans ((show Xi T5 904 16 = Xi T4 904 16 from w283.x _ _ rfl))
              have w359 : Xi T6 904 19 = Xi T4 904 19 := (show Xi T6 904 19 = Xi T5 904 19 from w349.x _ _ rfl).trans ((show Xi T5 904 19 = Xi T4 904 19 from w283.x _ _ rfl))
              have w361 : Xi T6 904 23 = Xi T4 904 23 := (show Xi T6 904 23 = Xi T5 904 23 from w349.x _ _ rfl).trans ((show Xi T5 904 23 = Xi T4 904 23 from w283.x _ _ rfl))
              have w363 : Xi T6 904 32 = Xi T4 904 32 := (show Xi T6 904 32 = Xi T5 904 32 from w349.x _ _ rfl).trans ((show Xi T5 904 32 = Xi T4 904 32 from w283.x _ _ rfl))
              have w365 : Xi T6 904 60 = Xi T4 904 60 := (show Xi T6 904 60 = Xi T5 904 60 from w349.x _ _ rfl).trans ((show Xi T5 904 60 = Xi T4 904 60 from w283.x _ _ rfl))
              have w367 : Xi T6 904 69 = Xi T4 904 69 := (show Xi T6 904 69 = Xi T5 904 69 from w349.x _ _ rfl).trans ((show Xi T5 904 69 = Xi T4 904 69 from w283.x _ _ rfl))
              have w369 : Xi T6 904 70 = Xi T4 904 70 := (show Xi T6 904 70 = Xi T5 904 70 from w349.x _ _ rfl).trans ((show Xi T5 904 70 = Xi T4 904 70 from w283.x _ _ rfl))
              have w371 : Xi T6 904 71 = Xi T4 904 71 := (show Xi T6 904 71 = Xi T5 904 71 from w349.x _ _ rfl).trans ((show Xi T5 904 71 = Xi T4 904 71 from w283.x _ _ rfl))
              have w373 : Xi T6 904 72 = Xi T4 904 72 := (show Xi T6 904 72 = Xi T5 904 72 from w349.x _ _ rfl).trans ((show Xi T5 904 72 = Xi T4 904 72 from w283.x _ _ rfl))
              have w375 : Xi T6 904 73 = Xi T4 904 73 := (show Xi T6 904 73 = Xi T5 904 73 from w349.x _ _ rfl).trans ((show Xi T5 904 73 = Xi T4 904 73 from w283.x _ _ rfl))
              have w377 : Xi T6 904 74 = Xi T4 904 74 := (show Xi T6 904 74 = Xi T5 904 74 from w349.x _ _ rfl).trans ((show Xi T5 904 74 = Xi T4 904 74 from w283.x _ _ rfl))
              exact Rl_weak (ih133 _ (by omega) T6 hHT6 hFT6 (v1) (v2) (v3) ((v4 + 1)) (by omega) (by omega) (by omega) (by omega) (by omega) (by omega) (by omega) (by omega) (by omega) (by omega) (by omega) (by omega) (by omega) (by omega) (by omega) (by first | assumption | exact (TXM_FR w349 rfl (by assumption : TXM T5))) (by first | assumption | exact (WYM_FR w349 rfl (WYM_FR w283 rfl (by assumption : WYM T4)))) (by first | assumption | exact (LXM_FR w349 rfl (LXM_FR w283 rfl (by assumption : LXM T4)))) (by first | assumption | exact (LCN_FR w349 rfl (LCN_FR w283 rfl (by assumption : LCN T4)))) ((GR_FR w349 rfl (GR_FR w283 rfl (by assumption : GR T4 S)))) ((LXK.fr (LXK.fr (by assumption : LXK T4 S (Xi S 904 15)) w283 rfl) w349 rfl)) (by omega) (by omega) (by first | assumption | (have t : Xi T6 904 19 = Xi T4 904 19 := (by omega); rw [t]; assumption)) (by omega) (by omega) (by omega) (by omega) (by omega) rfl) (And.intro rfl (And.intro rfl (And.intro rfl (And.intro rfl (And.intro rfl (True.intro))))))
    have C130 : ∀  (T7 : sS) (_ : HI T7) (_ : FR md_mo_doDescribed S T7) (v1 : Int) (v2 : Int) (v3 : Int), (0 ≤ v1 ∧ v1 ≤ 2599) → (0 ≤ v2 ∧ v2 ≤ 2600) → (0 ≤ v3 ∧ v3 ≤ 23) → (Xi T7 904 69 = Xi S 904 69) → (Xi T7 904 70 = Xi S 904 70) → (Xi T7 904 71 = Xi S 904 71) → (Xi T7 904 72 = Xi S 904 72) → (Xi T7 904 73 = Xi S 904 73) → (Xi T7 904 74 = Xi S 904 74) → (Xi T7 904 110 = Xi S 904 110) → (Xi T7 904 112 = Xi S 904 112) → (Xi T7 904 16 = Xi S 904 16) → (Xi T7 904 23 = Xi S 904 23) → (Xi T7 904 32 = Xi S 904 32) → (TXM T7) → (WYM T7) → (LXM T7) → (LCN T7) → (GR T7 S) → (LXK T7 S (Xi S 904 15)) → (Xi S 904 15 ≤ Xi T7 904 15) → (Xi T7 904 60 < Xi T7 904 19) → (Xi T7 904 19 ≤ Xi S 904 19 + cnR S (Xi S 904 71) 4 (v1 + 1).toNat) → (v1 < Xi S 904 72) → (v2 = Xi S 904 71 + v1) → (v3 < Xi T7 904 19) → (Xi S 904 70 ≠ 13) → ((2601 - v1).toNat ≤ n2) → Rl lay0 (d + 5) m_mo_doDescribed 130 [(0, .ref 904), (1, iv v1), (2, iv v2), (3, iv v3)] [] T7 (Q_mo_doDescribed S n) := by
      intro T7 hHT7 hFT7 v1 v2 v3 w379 w380 w381 w382 w383 w384 w385 w386 w387 w388 w389 w390 w391 w392 X130 W130 M130 L130 G130 K130 w393 w394 N130 w395 w396 w397 w398 w399
      have w400 : Xi T7 904 110 = Xi S 904 110 := hFT7.x _ _ rfl
      have w401 : Xi T7 904 112 = Xi S 904 112 := hFT7.x _ _ rfl
      have w402 : Xi T7 904 16 = Xi S 904 16 := hFT7.x _ _ rfl
      have w403 : Xi T7 904 23 = Xi S 904 23 := hFT7.x _ _ rfl
      have w404 : Xi T7 904 32 = Xi S 904 32 := hFT7.x _ _ rfl
      have w405 : Xi T7 904 69 = Xi S 904 69 := hFT7.x _ _ rfl
      have w406 : Xi T7 904 70 = Xi S 904 70 := hFT7.x _ _ rfl
      have w407 : Xi T7 904 71 = Xi S 904 71 := hFT7.x _ _ rfl
      have w408 : Xi T7 904 72 = Xi S 904 72 := hFT7.x _ _ rfl
      have w409 : Xi T7 904 73 = Xi S 904 73 := hFT7.x _ _ rfl
      have w410 : Xi T7 904 74 = Xi S 904 74 := hFT7.x _ _ rfl
      have w411 : 0 ≤ Xi T7 904 110 ∧ Xi T7 904 110 ≤ 15 := hHT7.c _ _
      have w412 : 0 ≤ Xi T7 904 112 ∧ Xi T7 904 112 ≤ 6 := hHT7.c _ _
      have w413 : 0 ≤ Xi T7 904 15 ∧ Xi T7 904 15 ≤ 300 := hHT7.c _ _
      have w414 : 0 ≤ Xi T7 904 16 ∧ Xi T7 904 16 ≤ 16 := hHT7.c _ _
      have w415 : 0 ≤ Xi T7 904 19 ∧ Xi T7 904 19 ≤ 24 := hHT7.c _ _
      have w416 : 0 ≤ Xi T7 904 23 ∧ Xi T7 904 23 ≤ 24 := hHT7.c _ _
      have w417 : 0 ≤ Xi T7 904 32 ∧ Xi T7 904 32 ≤ 12 := hHT7.c _ _
      have w418 : -1 ≤ Xi T7 904 60 ∧ Xi T7 904 60 ≤ 23 := hHT7.c _ _
      have w419 : 0 ≤ Xi T7 904 69 ∧ Xi T7 904 69 ≤ 2600 := hHT7.c _ _
      have w420 : 0 ≤ Xi T7 904 70 ∧ Xi T7 904 70 ≤ 20 := hHT7.c _ _
      have w421 : 0 ≤ Xi T7 904 71 ∧ Xi T7 904 71 ≤ 2600 := hHT7.c _ _
      have w422 : 0 ≤ Xi T7 904 72 ∧ Xi T7 904 72 ≤ 2600 := hHT7.c _ _
      have w423 : 0 ≤ Xi T7 904 73 ∧ Xi T7 904 73 ≤ 5 := hHT7.c _ _
      have w424 : 0 ≤ Xi T7 904 74 ∧ Xi T7 904 74 ≤ 2600 := hHT7.c _ _
      refine l_iconst rfl ?_
      refine l_istore rfl rfl rfl ?_
      have w425 : 0 ≤ Xi T7 904 106 ∧ Xi T7 904 106 ≤ 9 := hHT7.c _ _
      exact Rl_weak (C133 _ T7 hHT7 hFT7 (v1) (v2) (v3) (0) (by omega) (by omega) (by omega) (by omega) (by omega) (by omega) (by omega) (by omega) (by omega) (by omega) (by omega) (by omega) (by omega) (by omega) (by omega) (by first | assumption | exact (by assumption : TXM T7)) (by first | assumption | exact (by assumption : WYM T7)) (by first | assumption | exact (by assumption : LXM T7)) (by first | assumption | exact (by assumption : LCN T7)) ((by assumption : GR T7 S)) ((by assumption : LXK T7 S (Xi S 904 15))) (by omega) (by omega) (by first | assumption | (have t : Xi T7 904 19 = Xi T7 904 19 := (by omega); rw [t]; assumption)) (by omega) (by omega) (by omega) (by omega) (by omega) rfl) (And.intro rfl (And.intro rfl (And.intro rfl (And.intro rfl (And.intro rfl (True.intro))))))
    have C63 : ∀  (T8 : sS) (_ : HI T8) (_ : FR md_mo_doDescribed S T8) (v1 : Int) (v2 : Int) (v3 : Int), (0 ≤ v1 ∧ v1 ≤ 2599) → (0 ≤ v2 ∧ v2 ≤ 2600) → (0 ≤ v3 ∧ v3 ≤ 23) → (Xi T8 904 69 = Xi S 904 69) → (Xi T8 904 70 = Xi S 904 70) → (Xi T8 904 71 = Xi S 904 71) → (Xi T8 904 72 = Xi S 904 72) → (Xi T8 904 73 = Xi S 904 73) → (Xi T8 904 74 = Xi S 904 74) → (Xi T8 904 110 = Xi S 904 110) → (Xi T8 904 112 = Xi S 904 112) → (Xi T8 904 16 = Xi S 904 16) → (Xi T8 904 23 = Xi S 904 23) → (Xi T8 904 32 = Xi S 904 32) → (TXM T8) → (WYM T8) → (LXM T8) → (LCN T8) → (GR T8 S) → (LXK T8 S (Xi S 904 15)) → (Xi S 904 15 ≤ Xi T8 904 15) → (Xi T8 904 60 < Xi T8 904 19) → (Xi T8 904 19 ≤ Xi S 904 19 + cnR S (Xi S 904 71) 4 (v1 + 1).toNat) → (v1 < Xi S 904 72) → (v2 = Xi S 904 71 + v1) → (v3 < Xi T8 904 19) → ((2601 - v1).toNat ≤ n2) → Rl lay0 (d + 5) m_mo_doDescribed 63 [(0, .ref 904), (1, iv v1), (2, iv v2), (3, iv v3)] [] T8 (Q_mo_doDescribed S n) := by
      intro T8 hHT8 hFT8 v1 v2 v3 w440 w441 w442 w443 w444 w445 w446 w447 w448 w449 w450 w451 w452 w453 X63 W63 M63 L63 G63 K63 w454 w455 N63 w456 w457 w458 w459
      have w460 : Xi T8 904 110 = Xi S 904 110 := hFT8.x _ _ rfl
      have w461 : Xi T8 904 112 = Xi S 904 112 := hFT8.x _ _ rfl
      have w462 : Xi T8 904 16 = Xi S 904 16 := hFT8.x _ _ rfl
      have w463 : Xi T8 904 23 = Xi S 904 23 := hFT8.x _ _ rfl
      have w464 : Xi T8 904 32 = Xi S 904 32 := hFT8.x _ _ rfl
      have w465 : Xi T8 904 69 = Xi S 904 69 := hFT8.x _ _ rfl
      have w466 : Xi T8 904 70 = Xi S 904 70 := hFT8.x _ _ rfl
      have w467 : Xi T8 904 71 = Xi S 904 71 := hFT8.x _ _ rfl
      have w468 : Xi T8 904 72 = Xi S 904 72 := hFT8.x _ _ rfl
      have w469 : Xi T8 904 73 = Xi S 904 73 := hFT8.x _ _ rfl
      have w470 : Xi T8 904 74 = Xi S 904 74 := hFT8.x _ _ rfl
      have w471 : 0 ≤ Xi T8 904 110 ∧ Xi T8 904 110 ≤ 15 := hHT8.c _ _
      have w472 : 0 ≤ Xi T8 904 112 ∧ Xi T8 904 112 ≤ 6 := hHT8.c _ _
      have w473 : 0 ≤ Xi T8 904 15 ∧ Xi T8 904 15 ≤ 300 := hHT8.c _ _
      have w474 : 0 ≤ Xi T8 904 16 ∧ Xi T8 904 16 ≤ 16 := hHT8.c _ _
      have w475 : 0 ≤ Xi T8 904 19 ∧ Xi T8 904 19 ≤ 24 := hHT8.c _ _
      have w476 : 0 ≤ Xi T8 904 23 ∧ Xi T8 904 23 ≤ 24 := hHT8.c _ _
      have w477 : 0 ≤ Xi T8 904 32 ∧ Xi T8 904 32 ≤ 12 := hHT8.c _ _
      have w478 : -1 ≤ Xi T8 904 60 ∧ Xi T8 904 60 ≤ 23 := hHT8.c _ _
      have w479 : 0 ≤ Xi T8 904 69 ∧ Xi T8 904 69 ≤ 2600 := hHT8.c _ _
      have w480 : 0 ≤ Xi T8 904 70 ∧ Xi T8 904 70 ≤ 20 := hHT8.c _ _
      have w481 : 0 ≤ Xi T8 904 71 ∧ Xi T8 904 71 ≤ 2600 := hHT8.c _ _
      have w482 : 0 ≤ Xi T8 904 72 ∧ Xi T8 904 72 ≤ 2600 := hHT8.c _ _
      have w483 : 0 ≤ Xi T8 904 73 ∧ Xi T8 904 73 ≤ 5 := hHT8.c _ _
      have w484 : 0 ≤ Xi T8 904 74 ∧ Xi T8 904 74 ≤ 2600 := hHT8.c _ _
      refine l_aload_n rfl rfl ?_
      refine l_gfi rfl rfl rfl rfl rfl ?_
      refine l_bipush rfl rfl ?_
      refine l_icmp_eq rfl rfl (by unfold rg; omega) (by unfold rg; omega) (fun w485 => ?_) (fun w486 => ?_)
      · have w487 : 0 ≤ Xi T8 904 106 ∧ Xi T8 904 106 ≤ 9 := hHT8.c _ _
        exact Rl_weak (C182 T8 hHT8 hFT8 (v1) (v2) (v3) (by omega) (by omega) (by omega) (by omega) (by omega) (by omega) (by omega) (by omega) (by omega) (by omega) (by omega) (by omega) (by omega) (by omega) (by first | assumption | exact (by assumption : TXM T8)) (by first | assumption | exact (by assumption : WYM T8)) (by first | assumption | exact (by assumption : LXM T8)) (by first | assumption | exact (by assumption : LCN T8)) ((by assumption : GR T8 S)) ((by assumption : LXK T8 S (Xi S 904 15))) (by omega) (by omega) (by first | assumption | (have t : Xi T8 904 19 = Xi T8 904 19 := (by omega); rw [t]; assumption)) (by omega) (by omega) (by omega) (by omega)) (And.intro rfl (And.intro rfl (And.intro rfl (And.intro rfl (True.intro)))))
      · refine l_aload_n rfl rfl ?_
        refine l_aload_n rfl rfl ?_
        refine l_gfi rfl rfl rfl rfl rfl ?_
        have h74 : Xi S 904 110 < Xi S 904 16 := (hr (by omega)).1
        refine l_aload_n rfl rfl ?_
        refine l_gfr rfl rfl rfl rfl rfl (hHT8.r 904 20 918 rfl) ?_
        refine l_iload_n rfl rfl ?_
        refine l_iaload (n := 24) rfl rfl (by omega) (by omega) (by unfold rg; omega) ?_
        have w502 : 0 ≤ (Xi T8 918 ((v3).toNat)) ∧ (Xi T8 918 ((v3).toNat)) ≤ 15 := hHT8.c _ _
        refine l_callV rfl rfl rfl (t_mo_isBelow hHT8 (Xi T8 904 110) (Xi T8 918 ((v3).toNat)) ⟨by omega, by omega⟩ ⟨by omega, by omega⟩ (by first | assumption | exact (ABV_FR hFT8 rfl (by assumption : ABV S))) _) ?_
        rintro _ _ ⟨rfl, z519, rfl, w519, w518⟩
        show Rl _ _ _ _ _ [iv z519] _ _
        refine l_if_eq rfl rfl (by unfold rg; omega) (fun w520 => ?_) (fun w521 => ?_)
        · refine l_aload_n rfl rfl ?_
          refine l_aload_n rfl rfl ?_
          refine l_gfr rfl rfl rfl rfl rfl (hHT8.r 904 20 918 rfl) ?_
          refine l_iload_n rfl rfl ?_
          refine l_iaload (n := 24) rfl rfl (by omega) (by omega) (by unfold rg; omega) ?_
          refine l_aload_n rfl rfl ?_
          refine l_gfi rfl rfl rfl rfl rfl ?_
          refine l_callV rfl rfl rfl (t_mo_isBelow hHT8 (Xi T8 918 ((v3).toNat)) (Xi T8 904 110) ⟨by omega, by omega⟩ ⟨by omega, by omega⟩ (by first | assumption | exact (ABV_FR hFT8 rfl (by assumption : ABV S))) _) ?_
          rintro _ _ ⟨rfl, z538, rfl, w538, w537⟩
          show Rl _ _ _ _ _ [iv z538] _ _
          refine l_if_ne rfl rfl (by unfold rg; omega) (fun w539 => ?_) (fun w540 => ?_)
          · have w541 : 0 ≤ Xi T8 904 106 ∧ Xi T8 904 106 ≤ 9 := hHT8.c _ _
            exact Rl_weak (C130 T8 hHT8 hFT8 (v1) (v2) (v3) (by omega) (by omega) (by omega) (by omega) (by omega) (by omega) (by omega) (by omega) (by omega) (by omega) (by omega) (by omega) (by omega) (by omega) (by first | assumption | exact (by assumption : TXM T8)) (by first | assumption | exact (by assumption : WYM T8)) (by first | assumption | exact (by assumption : LXM T8)) (by first | assumption | exact (by assumption : LCN T8)) ((by assumption : GR T8 S)) ((by assumption : LXK T8 S (Xi S 904 15))) (by omega) (by omega) (by first | assumption | (have t : Xi T8 904 19 = Xi T8 904 19 := (by omega); rw [t]; assumption)) (by omega) (by omega) (by omega) (by omega) (by omega)) (And.intro rfl (And.intro rfl (And.intro rfl (And.intro rfl (True.intro)))))
          · refine l_aload_n rfl rfl ?_
            refine l_iconst rfl ?_
            refine l_aload_n rfl rfl ?_
            refine l_gfr rfl rfl rfl rfl rfl (hHT8.r 904 67 950 rfl) ?_
            refine l_iload_n rfl rfl ?_
            refine l_iaload (n := 2600) rfl rfl (by omega) (by omega) (by unfold rg; omega) ?_
            have w556 : 0 ≤ (Xi T8 950 ((v2).toNat)) ∧ (Xi T8 950 ((v2).toNat)) ≤ 5010 := hHT8.c _ _
            have e126 : (Xi T8 950 ((v2).toNat)) ≤ n := by rw [(hFT8.cx 950 rfl _).1]; exact hrf _ (by omega) (by omega)
            have w557 : 0 ≤ Xi T8 904 106 ∧ Xi T8 904 106 ≤ 9 := hHT8.c _ _
            refine l_callV rfl rfl rfl (t_mo_wrong hHT8 5 (Xi T8 950 ((v2).toNat)) ⟨by omega, by omega⟩ ⟨by omega, by omega⟩ _) ?_
            rintro _ T9 ⟨hHT9, w574, rfl, w572⟩
            have hFT9 : FR md_mo_doDescribed S T9 := FR.tr hFT8 w574 rfl
            show Rl _ _ _ _ _ [] _ _
            have w575 : 0 ≤ Xi T9 904 106 ∧ Xi T9 904 106 ≤ 9 := hHT9.c _ _
            have w576 : Xi T9 904 110 = Xi T8 904 110 := (show Xi T9 904 110 = Xi T8 904 110 from w574.x _ _ rfl)
            have w578 : Xi T9 904 112 = Xi T8 904 112 := (show Xi T9 904 112 = Xi T8 904 112 from w574.x _ _ rfl)
            have w580 : Xi T9 904 15 = Xi T8 904 15 := (show Xi T9 904 15 = Xi T8 904 15 from w574.x _ _ rfl)
            have w582 : Xi T9 904 16 = Xi T8 904 16 := (show Xi T9 904 16 = Xi T8 904 16 from w574.x _ _ rfl)
            have w584 : Xi T9 904 19 = Xi T8 904 19 := (show Xi T9 904 19 = Xi T8 904 19 from w574.x _ _ rfl)
            have w586 : Xi T9 904 23 = Xi T8 904 23 := (show Xi T9 904 23 = Xi T8 904 23 from w574.x _ _ rfl)
            have w588 : Xi T9 904 32 = Xi T8 904 32 := (show Xi T9 904 32 = Xi T8 904 32 from w574.x _ _ rfl)
            have w590 : Xi T9 904 60 = Xi T8 904 60 := (show Xi T9 904 60 = Xi T8 904 60 from w574.x _ _ rfl)
            have w592 : Xi T9 904 69 = Xi T8 904 69 := (show Xi T9 904 69 = Xi T8 904 69 from w574.x _ _ rfl)
            have w594 : Xi T9 904 70 = Xi T8 904 70 := (show Xi T9 904 70 = Xi T8 904 70 from w574.x _ _ rfl)
            have w596 : Xi T9 904 71 = Xi T8 904 71 := (show Xi T9 904 71 = Xi T8 904 71 from w574.x _ _ rfl)
            have w598 : Xi T9 904 72 = Xi T8 904 72 := (show Xi T9 904 72 = Xi T8 904 72 from w574.x _ _ rfl)
            have w600 : Xi T9 904 73 = Xi T8 904 73 := (show Xi T9 904 73 = Xi T8 904 73 from w574.x _ _ rfl)
            have w602 : Xi T9 904 74 = Xi T8 904 74 := (show Xi T9 904 74 = Xi T8 904 74 from w574.x _ _ rfl)
            exact Rl_weak (C130 T9 hHT9 hFT9 (v1) (v2) (v3) (by omega) (by omega) (by omega) (by omega) (by omega) (by omega) (by omega) (by omega) (by omega) (by omega) (by omega) (by omega) (by omega) (by omega) (by first | assumption | exact (TXM_FR w574 rfl (by assumption : TXM T8))) (by first | assumption | exact (WYM_FR w574 rfl (by assumption : WYM T8))) (by first | assumption | exact (LXM_FR w574 rfl (by assumption : LXM T8))) (by first | assumption | exact (LCN_FR w574 rfl (by assumption : LCN T8))) ((GR_FR w574 rfl (by assumption : GR T8 S))) ((LXK.fr (by assumption : LXK T8 S (Xi S 904 15)) w574 rfl)) (by omega) (by omega) (by first | assumption | (have t : Xi T9 904 19 = Xi T8 904 19 := (by omega); rw [t]; assumption)) (by omega) (by omega) (by omega) (by omega) (by omega)) (And.intro rfl (And.intro rfl (And.intro rfl (And.intro rfl (True.intro)))))
        · refine l_aload_n rfl rfl ?_
          refine l_gfr rfl rfl rfl rfl rfl (hHT8.r 904 20 918 rfl) ?_
          refine l_iload_n rfl rfl ?_
          refine l_aload_n rfl rfl ?_
          refine l_gfi rfl rfl rfl rfl rfl ?_
          refine l_iastore (n := 24) rfl rfl (by omega) (by omega) (by unfold rg; omega) ?_
          obtain ⟨U10, eU10⟩ : ∃ T : sS, T = uI T8 918 ((v3).toNat) (Int32.ofInt (Xi T8 904 110)) := ⟨_, rfl⟩
          rw [← eU10]
          have hHU10 : HI U10 := by rw [eU10]; exact HI_w hHT8 (show 0 ≤ (Xi T8 904 110) by omega) (show (Xi T8 904 110) ≤ 15 by omega)
          have hFU10 : FR md_mo_doDescribed S U10 := by rw [eU10]; exact FR.wI hFT8 (mdf_i (r := (918, 919, 0, 100000)) (List.mem_of_getElem? (i := 10) rfl) (inR_i (by omega) (by omega) (by omega) (by omega)))
          have w604 : Xi U10 918 ((v3).toNat) = (Xi T8 904 110) := by rw [eU10]; exact Xi_same (by unfold rg; omega)
          have X98 : TXM U10 := txm_kw (by assumption : TXM T8) eU10 (by unfold rg; omega) (by omega)
          refine l_goto rfl rfl ?_
          have w605 : Xi U10 904 106 = Xi T8 904 106 := (show Xi U10 904 106 = Xi T8 904 106 from by rw [eU10]; exact Xi_ne (by omega))
          have w606 : 0 ≤ Xi T8 904 106 ∧ Xi T8 904 106 ≤ 9 := hHT8.c _ _
          have w607 : Xi U10 904 110 = Xi T8 904 110 := (show Xi U10 904 110 = Xi T8 904 110 from by rw [eU10]; exact Xi_ne (by omega))
          have w609 : Xi U10 904 112 = Xi T8 904 112 := (show Xi U10 904 112 = Xi T8 904 112 from by rw [eU10]; exact Xi_ne (by omega))
          have w611 : Xi U10 904 15 = Xi T8 904 15 := (show Xi U10 904 15 = Xi T8 904 15 from by rw [eU10]; exact Xi_ne (by omega))
          have w613 : Xi U10 904 16 = Xi T8 904 16 := (show Xi U10 904 16 = Xi T8 904 16 from by rw [eU10]; exact Xi_ne (by omega))
          have w615 : Xi U10 904 19 = Xi T8 904 19 := (show Xi U10 904 19 = Xi T8 904 19 from by rw [eU10]; exact Xi_ne (by omega))
          have w617 : Xi U10 904 23 = Xi T8 904 23 := (show Xi U10 904 23 = Xi T8 904 23 from by rw [eU10]; exact Xi_ne (by omega))
          have w619 : Xi U10 904 32 = Xi T8 904 32 := (show Xi U10 904 32 = Xi T8 904 32 from by rw [eU10]; exact Xi_ne (by omega))
          have w621 : Xi U10 904 60 = Xi T8 904 60 := (show Xi U10 904 60 = Xi T8 904 60 from by rw [eU10]; exact Xi_ne (by omega))
          have w623 : Xi U10 904 69 = Xi T8 904 69 := (show Xi U10 904 69 = Xi T8 904 69 from by rw [eU10]; exact Xi_ne (by omega))
          have w625 : Xi U10 904 70 = Xi T8 904 70 := (show Xi U10 904 70 = Xi T8 904 70 from by rw [eU10]; exact Xi_ne (by omega))
          have w627 : Xi U10 904 71 = Xi T8 904 71 := (show Xi U10 904 71 = Xi T8 904 71 from by rw [eU10]; exact Xi_ne (by omega))
          have w629 : Xi U10 904 72 = Xi T8 904 72 := (show Xi U10 904 72 = Xi T8 904 72 from by rw [eU10]; exact Xi_ne (by omega))
          have w631 : Xi U10 904 73 = Xi T8 904 73 := (show Xi U10 904 73 = Xi T8 904 73 from by rw [eU10]; exact Xi_ne (by omega))
          have w633 : Xi U10 904 74 = Xi T8 904 74 := (show Xi U10 904 74 = Xi T8 904 74 from by rw [eU10]; exact Xi_ne (by omega))
          exact Rl_weak (C130 U10 hHU10 hFU10 (v1) (v2) (v3) (by omega) (by omega) (by omega) (by omega) (by omega) (by omega) (by omega) (by omega) (by omega) (by omega) (by omega) (by omega) (by omega) (by omega) (by first | assumption | exact (by assumption : TXM U10)) (by first | assumption | exact (WYM_FR (FR_e eU10) rfl (by assumption : WYM T8))) (by first | assumption | exact (LXM_FR (FR_e eU10) rfl (by assumption : LXM T8))) (by first | assumption | exact (LCN_FR (FR_e eU10) rfl (by assumption : LCN T8))) ((GR_FR (FR_e eU10) rfl (by assumption : GR T8 S))) ((LXK.fr (by assumption : LXK T8 S (Xi S 904 15)) (FR_e eU10) rfl)) (by omega) (by omega) (by first | assumption | (have t : Xi U10 904 19 = Xi T8 904 19 := (by omega); rw [t]; assumption)) (by omega) (by omega) (by omega) (by omega) (by omega)) (And.intro rfl (And.intro rfl (And.intro rfl (And.intro rfl (True.intro)))))
    refine l_iload_n rfl rfl ?_
    refine l_aload_n rfl rfl ?_
    refine l_gfi rfl rfl rfl rfl rfl ?_
    refine l_icmp_ge rfl rfl (by unfold rg; omega) (by unfold rg; omega) (fun w635 => ?_) (fun w636 => ?_)
    · refine l_return rfl rfl ?_
      exact ⟨hHT1, hFT1, rfl, (X2), (W2), (M2), (L2), (G2), (by omega)⟩
    · refine l_aload_n rfl rfl ?_
      refine l_gfi rfl rfl rfl rfl rfl ?_
      have w652 : 0 ≤ (Xi T1 904 106) ∧ (Xi T1 904 106) ≤ 9 := hHT1.c _ _
      refine l_if_ne rfl rfl (by unfold rg; omega) (fun w653 => ?_) (fun w654 => ?_)
      · refine l_return rfl rfl ?_
        exact ⟨hHT1, hFT1, rfl, (X2), (W2), (M2), (L2), (G2), (by omega)⟩
      · refine l_aload_n rfl rfl ?_
        refine l_gfi rfl rfl rfl rfl rfl ?_
        refine l_iload_n rfl rfl ?_
        refine l_iadd rfl ?_
        refine l_istore_n rfl rfl rfl ?_
        refine l_aload_n rfl rfl ?_
        refine l_iload_n rfl rfl ?_
        refine l_aload_n rfl rfl ?_
        refine l_gfi rfl rfl rfl rfl rfl ?_
        refine l_bipush rfl rfl ?_
        refine l_icmp_ne rfl rfl (by unfold rg; omega) (by unfold rg; omega) (fun w670 => ?_) (fun w671 => ?_)
        · refine l_aload_n rfl rfl ?_
          refine l_gfi rfl rfl rfl rfl rfl ?_
          have h40 : Xi S 904 110 < Xi S 904 16 := (hr (by omega)).1
          have w672 : 0 ≤ Xi T1 904 106 ∧ Xi T1 904 106 ≤ 9 := hHT1.c _ _
          refine l_callV rfl rfl rfl (t_mo_objectTold hHT1 n ((Xi T1 904 71) + v1) (Xi T1 904 110) ⟨by omega, by omega⟩ ⟨by omega, by omega⟩ (by first | assumption | exact (TK_FR hFT1 rfl (by assumption : TK S _))) (by first | assumption | exact (RNV_FR hFT1 rfl (by assumption : RNV S _))) (by first | assumption | exact (by assumption : LXM T1)) (by first | assumption | omega) (by first | assumption | exact (by assumption : TXM T1)) (by first | assumption | exact (by assumption : WYM T1)) (by first | assumption | exact (by assumption : LCN T1)) (by first | assumption | omega) (on_at hO K2 (by omega) (by omega) (fun j => (hFT1.cx 910 rfl j).2) (fun j => (hFT1.cx 950 rfl j).1) (fun j => (hFT1.cx 951 rfl j).1) ⟨by omega, by omega⟩ (by omega) N2) _) ?_
          rintro _ T11 ⟨hHT11, w694, z693, rfl, w693, w687, c43, w688, w689, w690, w691, g43, k43, w692⟩
          have hFT11 : FR md_mo_doDescribed S T11 := FR.tr hFT1 w694 rfl
          show Rl _ _ _ _ _ [iv z693] _ _
          have N43 : Xi T11 904 19 ≤ Xi S 904 19 + cnR S (Xi S 904 71) 4 (v1 + 1).toNat := on_nx K2 (by omega) (by omega) (fun j => (hFT1.cx 910 rfl j).2) (fun j => (hFT1.cx 950 rfl j).1) (fun j => (hFT1.cx 951 rfl j).1) (by omega) (by omega) N2 c43
          have q43 : Xi T1 904 19 ≤ Xi T11 904 19 ∧ Xi T11 904 19 ≤ Xi T1 904 19 + 1 := ⟨c43.1, c43.2.1⟩
          clear c43
          refine l_istore_n rfl rfl rfl ?_
          refine l_aload_n rfl rfl ?_
          refine l_iload_n rfl rfl ?_
          refine l_if_ne rfl rfl (by unfold rg; omega) (fun w695 => ?_) (fun w696 => ?_)
          · refine l_aload_n rfl rfl ?_
            refine l_gfi rfl rfl rfl rfl rfl ?_
            have w697 : (Xi T11 904 60) = (Xi T1 904 60) := (show Xi T11 904 60 = Xi T1 904 60 from w694.x _ _ rfl)
            rw [w697]
            refine l_pfi rfl rfl rfl rfl ?_
            obtain ⟨U12, eU12⟩ : ∃ T : sS, T = uI T11 904 60 (Int32.ofInt (Xi T1 904 60)) := ⟨_, rfl⟩
            rw [← eU12]
            have hHU12 : HI U12 := by rw [eU12]; exact HI_w hHT11 (show -1 ≤ (Xi T1 904 60) by omega) (show (Xi T1 904 60) ≤ 23 by omega)
            have hFU12 : FR md_mo_doDescribed S U12 := by rw [eU12]; exact FR.wI hFT11 (mdf_i (r := (904, 905, 60, 61)) (List.mem_of_getElem? (i := 2) rfl) (inR_i (by omega) (by omega) (by omega) (by omega)))
            have w698 : Xi U12 904 60 = (Xi T1 904 60) := by rw [eU12]; exact Xi_same (by unfold rg; omega)
            have w699 : Xi U12 904 106 = Xi T1 904 106 := (show Xi U12 904 106 = Xi T11 904 106 from by rw [eU12]; exact Xi_ne (by omega)).trans ((show Xi T11 904 106 = Xi T1 904 106 from w694.x _ _ rfl))
            have w701 : Xi U12 904 110 = Xi T1 904 110 := (show Xi U12 904 110 = Xi T11 904 110 from by rw [eU12]; exact Xi_ne (by omega)).trans ((show Xi T11 904 110 = Xi T1 904 110 from w694.x _ _ rfl))
            have w703 : Xi U12 904 112 = Xi T1 904 112 := (show Xi U12 904 112 = Xi T11 904 112 from by rw [eU12]; exact Xi_ne (by omega)).trans ((show Xi T11 904 112 = Xi T1 904 112 from w694.x _ _ rfl))
            have w705 : Xi U12 904 15 = Xi T11 904 15 := (show Xi U12 904 15 = Xi T11 904 15 from by rw [eU12]; exact Xi_ne (by omega))
            have w706 : 0 ≤ Xi T11 904 15 ∧ Xi T11 904 15 ≤ 300 := hHT11.c _ _
            have w707 : Xi U12 904 16 = Xi T1 904 16 := (show Xi U12 904 16 = Xi T11 904 16 from by rw [eU12]; exact Xi_ne (by omega)).trans ((show Xi T11 904 16 = Xi T1 904 16 from w694.x _ _ rfl))
            have w709 : Xi U12 904 19 = Xi T11 904 19 := (show Xi U12 904 19 = Xi T11 904 19 from by rw [eU12]; exact Xi_ne (by omega))
            have w710 : 0 ≤ Xi T11 904 19 ∧ Xi T11 904 19 ≤ 24 := hHT11.c _ _
            have w711 : Xi U12 904 23 = Xi T1 904 23 := (show Xi U12 904 23 = Xi T11 904 23 from by rw [eU12]; exact Xi_ne (by omega)).trans ((show Xi T11 904 23 = Xi T1 904 23 from w694.x _ _ rfl))
            have w713 : Xi U12 904 32 = Xi T1 904 32 := (show Xi U12 904 32 = Xi T11 904 32 from by rw [eU12]; exact Xi_ne (by omega)).trans ((show Xi T11 904 32 = Xi T1 904 32 from w694.x _ _ rfl))
            have w715 : -1 ≤ Xi U12 904 60 ∧ Xi U12 904 60 ≤ 23 := hHU12.c _ _
            have w716 : Xi U12 904 69 = Xi T1 904 69 := (show Xi U12 904 69 = Xi T11 904 69 from by rw [eU12]; exact Xi_ne (by omega)).trans ((show Xi T11 904 69 = Xi T1 904 69 from w694.x _ _ rfl))
            have w718 : Xi U12 904 70 = Xi T1 904 70 := (show Xi U12 904 70 = Xi T11 904 70 from by rw [eU12]; exact Xi_ne (by omega)).trans ((show Xi T11 904 70 = Xi T1 904 70 from w694.x _ _ rfl))
            have w720 : Xi U12 904 71 = Xi T1 904 71 := (show Xi U12 904 71 = Xi T11 904 71 from by rw [eU12]; exact Xi_ne (by omega)).trans ((show Xi T11 904 71 = Xi T1 904 71 from w694.x _ _ rfl))
            have w722 : Xi U12 904 72 = Xi T1 904 72 := (show Xi U12 904 72 = Xi T11 904 72 from by rw [eU12]; exact Xi_ne (by omega)).trans ((show Xi T11 904 72 = Xi T1 904 72 from w694.x _ _ rfl))
            have w724 : Xi U12 904 73 = Xi T1 904 73 := (show Xi U12 904 73 = Xi T11 904 73 from by rw [eU12]; exact Xi_ne (by omega)).trans ((show Xi T11 904 73 = Xi T1 904 73 from w694.x _ _ rfl))
            have w726 : Xi U12 904 74 = Xi T1 904 74 := (show Xi U12 904 74 = Xi T11 904 74 from by rw [eU12]; exact Xi_ne (by omega)).trans ((show Xi T11 904 74 = Xi T1 904 74 from w694.x _ _ rfl))
            exact Rl_weak (C63 U12 hHU12 hFU12 (v1) (((Xi T1 904 71) + v1)) (z693) (by omega) (by omega) (by omega) (by omega) (by omega) (by omega) (by omega) (by omega) (by omega) (by omega) (by omega) (by omega) (by omega) (by omega) (by first | assumption | exact (TXM_FR (FR_e eU12) rfl (by assumption : TXM T11))) (by first | assumption | exact (WYM_FR (FR_e eU12) rfl (by assumption : WYM T11))) (by first | assumption | exact (LXM_FR (FR_e eU12) rfl (by assumption : LXM T11))) (by first | assumption | exact (LCN_FR (FR_e eU12) rfl (by assumption : LCN T11))) ((GR_FR (FR_e eU12) rfl (GR.tr (by assumption : GR T1 S) (by assumption : GR T11 T1)))) ((LXK.fr (LXK.tr (by assumption : LXK T1 S (Xi S 904 15)) (by assumption : LXK T11 T1 _) (by omega)) (FR_e eU12) rfl)) (by omega) (by omega) (by have t : Xi U12 904 19 = Xi T11 904 19 := (by rw [eU12, Xi_ne (by omega)]); rw [t]; exact N43) (by omega) (by omega) (by omega) (by omega)) (And.intro rfl (And.intro rfl (And.intro rfl (And.intro rfl (True.intro)))))
          · refine l_iload_n rfl rfl ?_
            refine l_goto rfl rfl ?_
            refine l_pfi rfl rfl rfl rfl ?_
            obtain ⟨U13, eU13⟩ : ∃ T : sS, T = uI T11 904 60 (Int32.ofInt z693) := ⟨_, rfl⟩
            rw [← eU13]
            have hHU13 : HI U13 := by rw [eU13]; exact HI_w hHT11 (show -1 ≤ z693 by omega) (show z693 ≤ 23 by omega)
            have hFU13 : FR md_mo_doDescribed S U13 := by rw [eU13]; exact FR.wI hFT11 (mdf_i (r := (904, 905, 60, 61)) (List.mem_of_getElem? (i := 2) rfl) (inR_i (by omega) (by omega) (by omega) (by omega)))
            have w728 : Xi U13 904 60 = z693 := by rw [eU13]; exact Xi_same (by unfold rg; omega)
            have w729 : Xi U13 904 106 = Xi T1 904 106 := (show Xi U13 904 106 = Xi T11 904 106 from by rw [eU13]; exact Xi_ne (by omega)).trans ((show Xi T11 904 106 = Xi T1 904 106 from w694.x _ _ rfl))
            have w731 : Xi U13 904 110 = Xi T1 904 110 := (show Xi U13 904 110 = Xi T11 904 110 from by rw [eU13]; exact Xi_ne (by omega)).trans ((show Xi T11 904 110 = Xi T1 904 110 from w694.x _ _ rfl))
            have w733 : Xi U13 904 112 = Xi T1 904 112 := (show Xi U13 904 112 = Xi T11 904 112 from by rw [eU13]; exact Xi_ne (by omega)).trans ((show Xi T11 904 112 = Xi T1 904 112 from w694.x _ _ rfl))
            have w735 : Xi U13 904 15 = Xi T11 904 15 := (show Xi U13 904 15 = Xi T11 904 15 from by rw [eU13]; exact Xi_ne (by omega))
            have w736 : 0 ≤ Xi T11 904 15 ∧ Xi T11 904 15 ≤ 300 := hHT11.c _ _
            have w737 : Xi U13 904 16 = Xi T1 904 16 := (show Xi U13 904 16 = Xi T11 904 16 from by rw [eU13]; exact Xi_ne (by omega)).trans ((show Xi T11 904 16 = Xi T1 904 16 from w694.x _ _ rfl))
            have w739 : Xi U13 904 19 = Xi T11 904 19 := (show Xi U13 904 19 = Xi T11 904 19 from by rw [eU13]; exact Xi_ne (by omega))
            have w740 : 0 ≤ Xi T11 904 19 ∧ Xi T11 904 19 ≤ 24 := hHT11.c _ _
            have w741 : Xi U13 904 23 = Xi T1 904 23 := (show Xi U13 904 23 = Xi T11 904 23 from by rw [eU13]; exact Xi_ne (by omega)).trans ((show Xi T11 904 23 = Xi T1 904 23 from w694.x _ _ rfl))
            have w743 : Xi U13 904 32 = Xi T1 904 32 := (show Xi U13 904 32 = Xi T11 904 32 from by rw [eU13]; exact Xi_ne (by omega)).trans ((show Xi T11 904 32 = Xi T1 904 32 from w694.x _ _ rfl))
            have w745 : -1 ≤ Xi U13 904 60 ∧ Xi U13 904 60 ≤ 23 := hHU13.c _ _
            have w746 : Xi U13 904 69 = Xi T1 904 69 := (show Xi U13 904 69 = Xi T11 904 69 from by rw [eU13]; exact Xi_ne (by omega)).trans ((show Xi T11 904 69 = Xi T1 904 69 from w694.x _ _ rfl))
            have w748 : Xi U13 904 70 = Xi T1 904 70 := (show Xi U13 904 70 = Xi T11 904 70 from by rw [eU13]; exact Xi_ne (by omega)).trans ((show Xi T11 904 70 = Xi T1 904 70 from w694.x _ _ rfl))
            have w750 : Xi U13 904 71 = Xi T1 904 71 := (show Xi U13 904 71 = Xi T11 904 71 from by rw [eU13]; exact Xi_ne (by omega)).trans ((show Xi T11 904 71 = Xi T1 904 71 from w694.x _ _ rfl))
            have w752 : Xi U13 904 72 = Xi T1 904 72 := (show Xi U13 904 72 = Xi T11 904 72 from by rw [eU13]; exact Xi_ne (by omega)).trans ((show Xi T11 904 72 = Xi T1 904 72 from w694.x _ _ rfl))
            have w754 : Xi U13 904 73 = Xi T1 904 73 := (show Xi U13 904 73 = Xi T11 904 73 from by rw [eU13]; exact Xi_ne (by omega)).trans ((show Xi T11 904 73 = Xi T1 904 73 from w694.x _ _ rfl))
            have w756 : Xi U13 904 74 = Xi T1 904 74 := (show Xi U13 904 74 = Xi T11 904 74 from by rw [eU13]; exact Xi_ne (by omega)).trans ((show Xi T11 904 74 = Xi T1 904 74 from w694.x _ _ rfl))
            exact Rl_weak (C63 U13 hHU13 hFU13 (v1) (((Xi T1 904 71) + v1)) (z693) (by omega) (by omega) (by omega) (by omega) (by omega) (by omega) (by omega) (by omega) (by omega) (by omega) (by omega) (by omega) (by omega) (by omega) (by first | assumption | exact (TXM_FR (FR_e eU13) rfl (by assumption : TXM T11))) (by first | assumption | exact (WYM_FR (FR_e eU13) rfl (by assumption : WYM T11))) (by first | assumption | exact (LXM_FR (FR_e eU13) rfl (by assumption : LXM T11))) (by first | assumption | exact (LCN_FR (FR_e eU13) rfl (by assumption : LCN T11))) ((GR_FR (FR_e eU13) rfl (GR.tr (by assumption : GR T1 S) (by assumption : GR T11 T1)))) ((LXK.fr (LXK.tr (by assumption : LXK T1 S (Xi S 904 15)) (by assumption : LXK T11 T1 _) (by omega)) (FR_e eU13) rfl)) (by omega) (by omega) (by have t : Xi U13 904 19 = Xi T11 904 19 := (by rw [eU13, Xi_ne (by omega)]); rw [t]; exact N43) (by omega) (by omega) (by omega) (by omega)) (And.intro rfl (And.intro rfl (And.intro rfl (And.intro rfl (True.intro)))))
        · refine l_iconst rfl ?_
          refine l_goto rfl rfl ?_
          have w758 : 0 ≤ Xi T1 904 106 ∧ Xi T1 904 106 ≤ 9 := hHT1.c _ _
          refine l_callV rfl rfl rfl (t_mo_objectTold hHT1 n ((Xi T1 904 71) + v1) 0 ⟨by omega, by omega⟩ ⟨by omega, by omega⟩ (by first | assumption | exact (TK_FR hFT1 rfl (by assumption : TK S _))) (by first | assumption | exact (RNV_FR hFT1 rfl (by assumption : RNV S _))) (by first | assumption | exact (by assumption : LXM T1)) (by first | assumption | omega) (by first | assumption | exact (by assumption : TXM T1)) (by first | assumption | exact (by assumption : WYM T1)) (by first | assumption | exact (by assumption : LCN T1)) (by first | assumption | omega) (on_at hO K2 (by omega) (by omega) (fun j => (hFT1.cx 910 rfl j).2) (fun j => (hFT1.cx 950 rfl j).1) (fun j => (hFT1.cx 951 rfl j).1) ⟨by omega, by omega⟩ (by omega) N2) _) ?_
          rintro _ T14 ⟨hHT14, w780, z779, rfl, w779, w773, c43, w774, w775, w776, w777, g43, k43, w778⟩
          have hFT14 : FR md_mo_doDescribed S T14 := FR.tr hFT1 w780 rfl
          show Rl _ _ _ _ _ [iv z779] _ _
          have N43 : Xi T14 904 19 ≤ Xi S 904 19 + cnR S (Xi S 904 71) 4 (v1 + 1).toNat := on_nx K2 (by omega) (by omega) (fun j => (hFT1.cx 910 rfl j).2) (fun j => (hFT1.cx 950 rfl j).1) (fun j => (hFT1.cx 951 rfl j).1) (by omega) (by omega) N2 c43
          have q43 : Xi T1 904 19 ≤ Xi T14 904 19 ∧ Xi T14 904 19 ≤ Xi T1 904 19 + 1 := ⟨c43.1, c43.2.1⟩
          clear c43
          refine l_istore_n rfl rfl rfl ?_
          refine l_aload_n rfl rfl ?_
          refine l_iload_n rfl rfl ?_
          refine l_if_ne rfl rfl (by unfold rg; omega) (fun w781 => ?_) (fun w782 => ?_)
          · refine l_aload_n rfl rfl ?_
            refine l_gfi rfl rfl rfl rfl rfl ?_
            have w783 : (Xi T14 904 60) = (Xi T1 904 60) := (show Xi T14 904 60 = Xi T1 904 60 from w780.x _ _ rfl)
            rw [w783]
            refine l_pfi rfl rfl rfl rfl ?_
            obtain ⟨U15, eU15⟩ : ∃ T : sS, T = uI T14 904 60 (Int32.ofInt (Xi T1 904 60)) := ⟨_, rfl⟩
            rw [← eU15]
            have hHU15 : HI U15 := by rw [eU15]; exact HI_w hHT14 (show -1 ≤ (Xi T1 904 60) by omega) (show (Xi T1 904 60) ≤ 23 by omega)
            have hFU15 : FR md_mo_doDescribed S U15 := by rw [eU15]; exact FR.wI hFT14 (mdf_i (r := (904, 905, 60, 61)) (List.mem_of_getElem? (i := 2) rfl) (inR_i (by omega) (by omega) (by omega) (by omega)))
            have w784 : Xi U15 904 60 = (Xi T1 904 60) := by rw [eU15]; exact Xi_same (by unfold rg; omega)
            have w785 : Xi U15 904 106 = Xi T1 904 106 := (show Xi U15 904 106 = Xi T14 904 106 from by rw [eU15]; exact Xi_ne (by omega)).trans ((show Xi T14 904 106 = Xi T1 904 106 from w780.x _ _ rfl))
            have w787 : Xi U15 904 110 = Xi T1 904 110 := (show Xi U15 904 110 = Xi T14 904 110 from by rw [eU15]; exact Xi_ne (by omega)).trans ((show Xi T14 904 110 = Xi T1 904 110 from w780.x _ _ rfl))
            have w789 : Xi U15 904 112 = Xi T1 904 112 := (show Xi U15 904 112 = Xi T14 904 112 from by rw [eU15]; exact Xi_ne (by omega)).trans ((show Xi T14 904 112 = Xi T1 904 112 from w780.x _ _ rfl))
            have w791 : Xi U15 904 15 = Xi T14 904 15 := (show Xi U15 904 15 = Xi T14 904 15 from by rw [eU15]; exact Xi_ne (by omega))
            have w792 : 0 ≤ Xi T14 904 15 ∧ Xi T14 904 15 ≤ 300 := hHT14.c _ _
            have w793 : Xi U15 904 16 = Xi T1 904 16 := (show Xi U15 904 16 = Xi T14 904 16 from by rw [eU15]; exact Xi_ne (by omega)).trans ((show Xi T14 904 16 = Xi T1 904 16 from w780.x _ _ rfl))
            have w795 : Xi U15 904 19 = Xi T14 904 19 := (show Xi U15 904 19 = Xi T14 904 19 from by rw [eU15]; exact Xi_ne (by omega))
            have w796 : 0 ≤ Xi T14 904 19 ∧ Xi T14 904 19 ≤ 24 := hHT14.c _ _
            have w797 : Xi U15 904 23 = Xi T1 904 23 := (show Xi U15 904 23 = Xi T14 904 23 from by rw [eU15]; exact Xi_ne (by omega)).trans ((show Xi T14 904 23 = Xi T1 904 23 from w780.x _ _ rfl))
            have w799 : Xi U15 904 32 = Xi T1 904 32 := (show Xi U15 904 32 = Xi T14 904 32 from by rw [eU15]; exact Xi_ne (by omega)).trans ((show Xi T14 904 32 = Xi T1 904 32 from w780.x _ _ rfl))
            have w801 : -1 ≤ Xi U15 904 60 ∧ Xi U15 904 60 ≤ 23 := hHU15.c _ _
            have w802 : Xi U15 904 69 = Xi T1 904 69 := (show Xi U15 904 69 = Xi T14 904 69 from by rw [eU15]; exact Xi_ne (by omega)).trans ((show Xi T14 904 69 = Xi T1 904 69 from w780.x _ _ rfl))
            have w804 : Xi U15 904 70 = Xi T1 904 70 := (show Xi U15 904 70 = Xi T14 904 70 from by rw [eU15]; exact Xi_ne (by omega)).trans ((show Xi T14 904 70 = Xi T1 904 70 from w780.x _ _ rfl))
            have w806 : Xi U15 904 71 = Xi T1 904 71 := (show Xi U15 904 71 = Xi T14 904 71 from by rw [eU15]; exact Xi_ne (by omega)).trans ((show Xi T14 904 71 = Xi T1 904 71 from w780.x _ _ rfl))
            have w808 : Xi U15 904 72 = Xi T1 904 72 := (show Xi U15 904 72 = Xi T14 904 72 from by rw [eU15]; exact Xi_ne (by omega)).trans ((show Xi T14 904 72 = Xi T1 904 72 from w780.x _ _ rfl))
            have w810 : Xi U15 904 73 = Xi T1 904 73 := (show Xi U15 904 73 = Xi T14 904 73 from by rw [eU15]; exact Xi_ne (by omega)).trans ((show Xi T14 904 73 = Xi T1 904 73 from w780.x _ _ rfl))
            have w812 : Xi U15 904 74 = Xi T1 904 74 := (show Xi U15 904 74 = Xi T14 904 74 from by rw [eU15]; exact Xi_ne (by omega)).trans ((show Xi T14 904 74 = Xi T1 904 74 from w780.x _ _ rfl))
            exact Rl_weak (C63 U15 hHU15 hFU15 (v1) (((Xi T1 904 71) + v1)) (z779) (by omega) (by omega) (by omega) (by omega) (by omega) (by omega) (by omega) (by omega) (by omega) (by omega) (by omega) (by omega) (by omega) (by omega) (by first | assumption | exact (TXM_FR (FR_e eU15) rfl (by assumption : TXM T14))) (by first | assumption | exact (WYM_FR (FR_e eU15) rfl (by assumption : WYM T14))) (by first | assumption | exact (LXM_FR (FR_e eU15) rfl (by assumption : LXM T14))) (by first | assumption | exact (LCN_FR (FR_e eU15) rfl (by assumption : LCN T14))) ((GR_FR (FR_e eU15) rfl (GR.tr (by assumption : GR T1 S) (by assumption : GR T14 T1)))) ((LXK.fr (LXK.tr (by assumption : LXK T1 S (Xi S 904 15)) (by assumption : LXK T14 T1 _) (by omega)) (FR_e eU15) rfl)) (by omega) (by omega) (by have t : Xi U15 904 19 = Xi T14 904 19 := (by rw [eU15, Xi_ne (by omega)]); rw [t]; exact N43) (by omega) (by omega) (by omega) (by omega)) (And.intro rfl (And.intro rfl (And.intro rfl (And.intro rfl (True.intro)))))
          · refine l_iload_n rfl rfl ?_
            refine l_goto rfl rfl ?_
            refine l_pfi rfl rfl rfl rfl ?_
            obtain ⟨U16, eU16⟩ : ∃ T : sS, T = uI T14 904 60 (Int32.ofInt z779) := ⟨_, rfl⟩
            rw [← eU16]
            have hHU16 : HI U16 := by rw [eU16]; exact HI_w hHT14 (show -1 ≤ z779 by omega) (show z779 ≤ 23 by omega)
            have hFU16 : FR md_mo_doDescribed S U16 := by rw [eU16]; exact FR.wI hFT14 (mdf_i (r := (904, 905, 60, 61)) (List.mem_of_getElem? (i := 2) rfl) (inR_i (by omega) (by omega) (by omega) (by omega)))
            have w814 : Xi U16 904 60 = z779 := by rw [eU16]; exact Xi_same (by unfold rg; omega)
            have w815 : Xi U16 904 106 = Xi T1 904 106 := (show Xi U16 904 106 = Xi T14 904 106 from by rw [eU16]; exact Xi_ne (by omega)).trans ((show Xi T14 904 106 = Xi T1 904 106 from w780.x _ _ rfl))
            have w817 : Xi U16 904 110 = Xi T1 904 110 := (show Xi U16 904 110 = Xi T14 904 110 from by rw [eU16]; exact Xi_ne (by omega)).trans ((show Xi T14 904 110 = Xi T1 904 110 from w780.x _ _ rfl))
            have w819 : Xi U16 904 112 = Xi T1 904 112 := (show Xi U16 904 112 = Xi T14 904 112 from by rw [eU16]; exact Xi_ne (by omega)).trans ((show Xi T14 904 112 = Xi T1 904 112 from w780.x _ _ rfl))
            have w821 : Xi U16 904 15 = Xi T14 904 15 := (show Xi U16 904 15 = Xi T14 904 15 from by rw [eU16]; exact Xi_ne (by omega))
            have w822 : 0 ≤ Xi T14 904 15 ∧ Xi T14 904 15 ≤ 300 := hHT14.c _ _
            have w823 : Xi U16 904 16 = Xi T1 904 16 := (show Xi U16 904 16 = Xi T14 904 16 from by rw [eU16]; exact Xi_ne (by omega)).trans ((show Xi T14 904 16 = Xi T1 904 16 from w780.x _ _ rfl))
            have w825 : Xi U16 904 19 = Xi T14 904 19 := (show Xi U16 904 19 = Xi T14 904 19 from by rw [eU16]; exact Xi_ne (by omega))
            have w826 : 0 ≤ Xi T14 904 19 ∧ Xi T14 904 19 ≤ 24 := hHT14.c _ _
            have w827 : Xi U16 904 23 = Xi T1 904 23 := (show Xi U16 904 23 = Xi T14 904 23 from by rw [eU16]; exact Xi_ne (by omega)).trans ((show Xi T14 904 23 = Xi T1 904 23 from w780.x _ _ rfl))
            have w829 : Xi U16 904 32 = Xi T1 904 32 := (show Xi U16 904 32 = Xi T14 904 32 from by rw [eU16]; exact Xi_ne (by omega)).trans ((show Xi T14 904 32 = Xi T1 904 32 from w780.x _ _ rfl))
            have w831 : -1 ≤ Xi U16 904 60 ∧ Xi U16 904 60 ≤ 23 := hHU16.c _ _
            have w832 : Xi U16 904 69 = Xi T1 904 69 := (show Xi U16 904 69 = Xi T14 904 69 from by rw [eU16]; exact Xi_ne (by omega)).trans ((show Xi T14 904 69 = Xi T1 904 69 from w780.x _ _ rfl))
            have w834 : Xi U16 904 70 = Xi T1 904 70 := (show Xi U16 904 70 = Xi T14 904 70 from by rw [eU16]; exact Xi_ne (by omega)).trans ((show Xi T14 904 70 = Xi T1 904 70 from w780.x _ _ rfl))
            have w836 : Xi U16 904 71 = Xi T1 904 71 := (show Xi U16 904 71 = Xi T14 904 71 from by rw [eU16]; exact Xi_ne (by omega)).trans ((show Xi T14 904 71 = Xi T1 904 71 from w780.x _ _ rfl))
            have w838 : Xi U16 904 72 = Xi T1 904 72 := (show Xi U16 904 72 = Xi T14 904 72 from by rw [eU16]; exact Xi_ne (by omega)).trans ((show Xi T14 904 72 = Xi T1 904 72 from w780.x _ _ rfl))
            have w840 : Xi U16 904 73 = Xi T1 904 73 := (show Xi U16 904 73 = Xi T14 904 73 from by rw [eU16]; exact Xi_ne (by omega)).trans ((show Xi T14 904 73 = Xi T1 904 73 from w780.x _ _ rfl))
            have w842 : Xi U16 904 74 = Xi T1 904 74 := (show Xi U16 904 74 = Xi T14 904 74 from by rw [eU16]; exact Xi_ne (by omega)).trans ((show Xi T14 904 74 = Xi T1 904 74 from w780.x _ _ rfl))
            exact Rl_weak (C63 U16 hHU16 hFU16 (v1) (((Xi T1 904 71) + v1)) (z779) (by omega) (by omega) (by omega) (by omega) (by omega) (by omega) (by omega) (by omega) (by omega) (by omega) (by omega) (by omega) (by omega) (by omega) (by first | assumption | exact (TXM_FR (FR_e eU16) rfl (by assumption : TXM T14))) (by first | assumption | exact (WYM_FR (FR_e eU16) rfl (by assumption : WYM T14))) (by first | assumption | exact (LXM_FR (FR_e eU16) rfl (by assumption : LXM T14))) (by first | assumption | exact (LCN_FR (FR_e eU16) rfl (by assumption : LCN T14))) ((GR_FR (FR_e eU16) rfl (GR.tr (by assumption : GR T1 S) (by assumption : GR T14 T1)))) ((LXK.fr (LXK.tr (by assumption : LXK T1 S (Xi S 904 15)) (by assumption : LXK T14 T1 _) (by omega)) (FR_e eU16) rfl)) (by omega) (by omega) (by have t : Xi U16 904 19 = Xi T14 904 19 := (by rw [eU16, Xi_ne (by omega)]); rw [t]; exact N43) (by omega) (by omega) (by omega) (by omega)) (And.intro rfl (And.intro rfl (And.intro rfl (And.intro rfl (True.intro)))))
set_option maxRecDepth 100000 in
set_option maxHeartbeats 4000000 in
theorem t_mo_doDescribed {S : sS} (hH : HI S) (n : Nat) (hT : TK S n) (hv : RNV S n) (hM : LXM S) (hX : TXM S) (hW : WYM S) (hLC : LCN S) (hB : ABV S) (hl : Xi S 904 71 + Xi S 904 72 ≤ Xi S 904 69) (hO : ONA S) (hd : Xi S 904 60 < Xi S 904 19) (h1 : 1 ≤ Xi S 904 16) (hr : Xi S 904 70 ≠ 13 → Xi S 904 110 < Xi S 904 16 ∧ ∀ i : Nat, (i : Int) < Xi S 904 112 → ADM S (Xi S 967 i)) (hp : 0 < Xi S 904 73 → Xi S 904 74 < Xi S 904 69 ∧ rnR S (Xi S 904 74) 4 ≠ -1) (d : Nat) : Mt lay0 (d + 6) m_mo_doDescribed [.ref 904] S (Q_mo_doDescribed S n) := by
  refine Mt_R rfl rfl ?_
  have C2 := c2_mo_doDescribed hH n hT hv hM hX hW hLC hB hl hO hd h1 hr hp d 
  have hF : FR md_mo_doDescribed S S := FR.rf
  have w1 : 0 ≤ Xi S 904 110 ∧ Xi S 904 110 ≤ 15 := hH.c _ _
  have w2 : 0 ≤ Xi S 904 112 ∧ Xi S 904 112 ≤ 6 := hH.c _ _
  have w3 : 0 ≤ Xi S 904 15 ∧ Xi S 904 15 ≤ 300 := hH.c _ _
  have w4 : 0 ≤ Xi S 904 16 ∧ Xi S 904 16 ≤ 16 := hH.c _ _
  have w5 : 0 ≤ Xi S 904 19 ∧ Xi S 904 19 ≤ 24 := hH.c _ _
  have w6 : 0 ≤ Xi S 904 23 ∧ Xi S 904 23 ≤ 24 := hH.c _ _
  have w7 : 0 ≤ Xi S 904 32 ∧ Xi S 904 32 ≤ 12 := hH.c _ _
  have w8 : -1 ≤ Xi S 904 60 ∧ Xi S 904 60 ≤ 23 := hH.c _ _
  have w9 : 0 ≤ Xi S 904 69 ∧ Xi S 904 69 ≤ 2600 := hH.c _ _
  have w10 : 0 ≤ Xi S 904 70 ∧ Xi S 904 70 ≤ 20 := hH.c _ _
  have w11 : 0 ≤ Xi S 904 71 ∧ Xi S 904 71 ≤ 2600 := hH.c _ _
  have w12 : 0 ≤ Xi S 904 72 ∧ Xi S 904 72 ≤ 2600 := hH.c _ _
  have w13 : 0 ≤ Xi S 904 73 ∧ Xi S 904 73 ≤ 5 := hH.c _ _
  have w14 : 0 ≤ Xi S 904 74 ∧ Xi S 904 74 ≤ 2600 := hH.c _ _
  have hn5 := hT.1
  have hc69 : 0 ≤ Xi S 904 69 ∧ Xi S 904 69 ≤ 2600 := hH.c _ _
  have hc71 : 0 ≤ Xi S 904 71 ∧ Xi S 904 71 ≤ 2600 := hH.c _ _
  have hc72 : 0 ≤ Xi S 904 72 ∧ Xi S 904 72 ≤ 2600 := hH.c _ _
  have hrf : ∀ r : Int, 0 ≤ r → r < Xi S 904 69 → Xi S 950 r.toNat ≤ n := fun r a b => by have := hv r.toNat (by omega); omega
  have hc15 : 0 ≤ Xi S 904 15 ∧ Xi S 904 15 ≤ 300 := hH.c _ _
  have hl9 := lcn_le hH hLC
  have hc3 : 0 ≤ Xi S 904 23 ∧ Xi S 904 23 ≤ 24 := hH.c _ _
  have hc19 : 0 ≤ Xi S 904 19 ∧ Xi S 904 19 ≤ 24 := hH.c _ _
  have hc32 : 0 ≤ Xi S 904 32 ∧ Xi S 904 32 ≤ 12 := hH.c _ _
  have hc16 : 0 ≤ Xi S 904 16 ∧ Xi S 904 16 ≤ 16 := hH.c _ _
  have hc74 : 0 ≤ Xi S 904 74 := (hH.c 904 74).1
  refine l_iconst rfl ?_
  refine l_istore_n rfl rfl rfl ?_
  have w844 : 0 ≤ Xi S 904 106 ∧ Xi S 904 106 ≤ 9 := hH.c _ _
  exact Rl_weak (C2 _ S hH hF (0) (by omega) (by omega) (by omega) (by omega) (by omega) (by omega) (by omega) (by omega) (by omega) (by omega) (by omega) (by omega) (by omega) (by first | assumption | exact (by assumption : TXM S)) (by first | assumption | exact (by assumption : WYM S)) (by first | assumption | exact (by assumption : LXM S)) (by first | assumption | exact (by assumption : LCN S)) (by first | exact GR.rf | exact GR.rf) (by first | exact LXK.rf | exact LXK.rf) (by omega) (by omega) (by first | exact Int.le_of_eq (Int.add_zero _).symm | assumption | (have t : Xi S 904 19 = Xi S 904 19 := (by omega); rw [t]; assumption)) rfl) (And.intro rfl (And.intro rfl (True.intro)))
