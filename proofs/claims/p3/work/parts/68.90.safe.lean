/-! SAFETY of methods: printed by wip/safe (vc.py, decl.py) -/
def md_mo_doDescribed : List rec := [(904, 905, 15, 16), (904, 905, 19, 20), (904, 905, 60, 61), (904, 905, 105, 106), (904, 905, 106, 107), (912, 913, 0, 100000), (913, 914, 0, 100000), (914, 915, 0, 100000), (915, 916, 0, 100000), (916, 917, 0, 100000), (918, 919, 0, 100000), (919, 920, 0, 100000), (920, 921, 0, 100000), (925, 926, 0, 100000), (926, 927, 0, 100000), (930, 931, 0, 100000), (931, 932, 0, 100000), (932, 933, 0, 100000)]
abbrev Q_mo_doDescribed (S : sS) (n : Nat) : pst := fun r S1 => HI S1 ∧ FR md_mo_doDescribed S S1 ∧ (r = none ∧ (TXM S1) ∧ (WYM S1) ∧ (LXM S1) ∧ (LCN S1) ∧ (GR S1 S) ∧ (Xi S1 904 60 < Xi S1 904 19))
set_option maxRecDepth 100000 in
set_option maxHeartbeats 4000000 in
theorem t_mo_doDescribed {S : sS} (hH : HI S) (n : Nat) (hT : TK S n) (hv : RNV S n) (hM : LXM S) (hX : TXM S) (hW : WYM S) (hLC : LCN S) (hB : ABV S) (hl : Xi S 904 71 + Xi S 904 72 ≤ Xi S 904 69) (hO : ONA S) (hd : Xi S 904 60 < Xi S 904 19) (h1 : 1 ≤ Xi S 904 16) (hr : Xi S 904 70 ≠ 13 → Xi S 904 110 < Xi S 904 16 ∧ ∀ i : Nat, (i : Int) < Xi S 904 112 → ADM S (Xi S 967 i)) (hp : 0 < Xi S 904 73 → Xi S 904 74 < Xi S 904 69 ∧ rnR S (Xi S 904 74) 4 ≠ -1) (d : Nat) : Mt lay0 (d + 6) m_mo_doDescribed [.ref 904] S (Q_mo_doDescribed S n) := by
  refine Mt_R rfl rfl ?_
  have hF : FR md_mo_doDescribed S S := FR.rf
  have w1 : 0 ≤ Xi S 904 110 ∧ Xi S 904 110 ≤ 15 := hH.c _ _
  have w2 : 0 ≤ Xi S 904 112 ∧ Xi S 904 112 ≤ 6 := hH.c _ _
  have w3 : 0 ≤ Xi S 904 15 ∧ Xi S 904 15 ≤ 300 := hH.c _ _
  have w4 : 0 ≤ Xi S 904 16 ∧ Xi S 904 16 ≤ 16 := hH.c _ _
  have w5 : 0 ≤ Xi S 904 19 ∧ Xi S 904 19 ≤ 24 := hH.c _ _
  have w6 : 0 ≤ Xi S 904 23 ∧ Xi S 904 23 ≤ 24 := hH.c _ _
  have w7 : 0 ≤ Xi S 904 32 ∧ Xi S 904 32 ≤ 12 := hH.c _ _
  have w8 : -1 ≤ Xi S 904 60 ∧ Xi S 904 60 ≤ 23 := hH.c _ _
  have w9 : 0 ≤ Xi S 904 69 ∧ Xi S 904 69 ≤ 2600 := hH.c _ _
  have w10 : 0 ≤ Xi S 904 70 ∧ Xi S 904 70 ≤ 20 := hH.c _ _
  have w11 : 0 ≤ Xi S 904 71 ∧ Xi S 904 71 ≤ 2600 := hH.c _ _
  have w12 : 0 ≤ Xi S 904 72 ∧ Xi S 904 72 ≤ 2600 := hH.c _ _
  have w13 : 0 ≤ Xi S 904 73 ∧ Xi S 904 73 ≤ 5 := hH.c _ _
  have w14 : 0 ≤ Xi S 904 74 ∧ Xi S 904 74 ≤ 2600 := hH.c _ _
  have hn5 := hT.1
  have hc69 : 0 ≤ Xi S 904 69 ∧ Xi S 904 69 ≤ 2600 := hH.c _ _
  have hc71 : 0 ≤ Xi S 904 71 ∧ Xi S 904 71 ≤ 2600 := hH.c _ _
  have hc72 : 0 ≤ Xi S 904 72 ∧ Xi S 904 72 ≤ 2600 := hH.c _ _
  have hrf : ∀ r : Int, 0 ≤ r → r < Xi S 904 69 → Xi S 950 r.toNat ≤ n := fun r a b => by have := hv r.toNat (by omega); omega
  have hc15 : 0 ≤ Xi S 904 15 ∧ Xi S 904 15 ≤ 300 := hH.c _ _
  have hl9 := lcn_le hH hLC
  have hc3 : 0 ≤ Xi S 904 23 ∧ Xi S 904 23 ≤ 24 := hH.c _ _
  have hc19 : 0 ≤ Xi S 904 19 ∧ Xi S 904 19 ≤ 24 := hH.c _ _
  have hc32 : 0 ≤ Xi S 904 32 ∧ Xi S 904 32 ≤ 12 := hH.c _ _
  have hc16 : 0 ≤ Xi S 904 16 ∧ Xi S 904 16 ≤ 16 := hH.c _ _
  have hc74 : 0 ≤ Xi S 904 74 := (hH.c 904 74).1
  have C2 : ∀ (n2 : Nat) (T1 : sS) (_ : HI T1) (_ : FR md_mo_doDescribed S T1) (v1 : Int), (0 ≤ v1 ∧ v1 ≤ 2600) → (v1 ≤ Xi S 904 72) → (Xi T1 904 69 = Xi S 904 69) → (Xi T1 904 70 = Xi S 904 70) → (Xi T1 904 71 = Xi S 904 71) → (Xi T1 904 72 = Xi S 904 72) → (Xi T1 904 73 = Xi S 904 73) → (Xi T1 904 74 = Xi S 904 74) → (Xi T1 904 110 = Xi S 904 110) → (Xi T1 904 112 = Xi S 904 112) → (Xi T1 904 16 = Xi S 904 16) → (Xi T1 904 23 = Xi S 904 23) → (Xi T1 904 32 = Xi S 904 32) → (TXM T1) → (WYM T1) → (LXM T1) → (LCN T1) → (GR T1 S) → (LXK T1 S (Xi S 904 15)) → (Xi S 904 15 ≤ Xi T1 904 15) → (Xi T1 904 60 < Xi T1 904 19) → (Xi T1 904 19 ≤ Xi S 904 19 + cnR S (Xi S 904 71) 4 (v1).toNat) → n2 = (2601 - v1).toNat → Rl lay0 (d + 5) m_mo_doDescribed 2 [(0, .ref 904), (1, iv v1)] [] T1 (Q_mo_doDescribed S n) := by
    intro n2
    induction n2 using Nat.strongRecOn with
    | ind n2 ih2 =>
      intro T1 hHT1 hFT1 v1 w15 w16 w17 w18 w19 w20 w21 w22 w23 w24 w25 w26 w27 X2 W2 M2 L2 G2 K2 w28 w29 N2 hm2
      have w30 : Xi T1 904 110 = Xi S 904 110 := hFT1.x _ _ rfl
      have w31 : Xi T1 904 112 = Xi S 904 112 := hFT1.x _ _ rfl
      have w32 : Xi T1 904 16 = Xi S 904 16 := hFT1.x _ _ rfl
      have w33 : Xi T1 904 23 = Xi S 904 23 := hFT1.x _ _ rfl
      have w34 : Xi T1 904 32 = Xi S 904 32 := hFT1.x _ _ rfl
      have w35 : Xi T1 904 69 = Xi S 904 69 := hFT1.x _ _ rfl
      have w36 : Xi T1 904 70 = Xi S 904 70 := hFT1.x _ _ rfl
      have w37 : Xi T1 904 71 = Xi S 904 71 := hFT1.x _ _ rfl
      have w38 : Xi T1 904 72 = Xi S 904 72 := hFT1.x _ _ rfl
      have w39 : Xi T1 904 73 = Xi S 904 73 := hFT1.x _ _ rfl
      have w40 : Xi T1 904 74 = Xi S 904 74 := hFT1.x _ _ rfl
      have w41 : 0 ≤ Xi T1 904 110 ∧ Xi T1 904 110 ≤ 15 := hHT1.c _ _
      have w42 : 0 ≤ Xi T1 904 112 ∧ Xi T1 904 112 ≤ 6 := hHT1.c _ _
      have w43 : 0 ≤ Xi T1 904 15 ∧ Xi T1 904 15 ≤ 300 := hHT1.c _ _
      have w44 : 0 ≤ Xi T1 904 16 ∧ Xi T1 904 16 ≤ 16 := hHT1.c _ _
      have w45 : 0 ≤ Xi T1 904 19 ∧ Xi T1 904 19 ≤ 24 := hHT1.c _ _
      have w46 : 0 ≤ Xi T1 904 23 ∧ Xi T1 904 23 ≤ 24 := hHT1.c _ _
      have w47 : 0 ≤ Xi T1 904 32 ∧ Xi T1 904 32 ≤ 12 := hHT1.c _ _
      have w48 : -1 ≤ Xi T1 904 60 ∧ Xi T1 904 60 ≤ 23 := hHT1.c _ _
      have w49 : 0 ≤ Xi T1 904 69 ∧ Xi T1 904 69 ≤ 2600 := hHT1.c _ _
      have w50 : 0 ≤ Xi T1 904 70 ∧ Xi T1 904 70 ≤ 20 := hHT1.c _ _
      have w51 : 0 ≤ Xi T1 904 71 ∧ Xi T1 904 71 ≤ 2600 := hHT1.c _ _
      have w52 : 0 ≤ Xi T1 904 72 ∧ Xi T1 904 72 ≤ 2600 := hHT1.c _ _
      have w53 : 0 ≤ Xi T1 904 73 ∧ Xi T1 904 73 ≤ 5 := hHT1.c _ _
      have w54 : 0 ≤ Xi T1 904 74 ∧ Xi T1 904 74 ≤ 2600 := hHT1.c _ _
      have C63 : ∀  (T2 : sS) (_ : HI T2) (_ : FR md_mo_doDescribed S T2) (v1 : Int) (v2 : Int) (v3 : Int), (0 ≤ v1 ∧ v1 ≤ 2599) → (0 ≤ v2 ∧ v2 ≤ 2600) → (0 ≤ v3 ∧ v3 ≤ 23) → (Xi T2 904 69 = Xi S 904 69) → (Xi T2 904 70 = Xi S 904 70) → (Xi T2 904 71 = Xi S 904 71) → (Xi T2 904 72 = Xi S 904 72) → (Xi T2 904 73 = Xi S 904 73) → (Xi T2 904 74 = Xi S 904 74) → (Xi T2 904 110 = Xi S 904 110) → (Xi T2 904 112 = Xi S 904 112) → (Xi T2 904 16 = Xi S 904 16) → (Xi T2 904 23 = Xi S 904 23) → (Xi T2 904 32 = Xi S 904 32) → (TXM T2) → (WYM T2) → (LXM T2) → (LCN T2) → (GR T2 S) → (LXK T2 S (Xi S 904 15)) → (Xi S 904 15 ≤ Xi T2 904 15) → (Xi T2 904 60 < Xi T2 904 19) → (Xi T2 904 19 ≤ Xi S 904 19 + cnR S (Xi S 904 71) 4 (v1 + 1).toNat) → (v1 < Xi S 904 72) → (v2 = Xi S 904 71 + v1) → (v3 < Xi T2 904 19) → ((2601 - v1).toNat ≤ n2) → Rl lay0 (d + 5) m_mo_doDescribed 63 [(0, .ref 904), (1, iv v1), (2, iv v2), (3, iv v3)] [] T2 (Q_mo_doDescribed S n) := by
        intro T2 hHT2 hFT2 v1 v2 v3 w55 w56 w57 w58 w59 w60 w61 w62 w63 w64 w65 w66 w67 w68 X63 W63 M63 L63 G63 K63 w69 w70 N63 w71 w72 w73 w74
        have w75 : Xi T2 904 110 = Xi S 904 110 := hFT2.x _ _ rfl
        have w76 : Xi T2 904 112 = Xi S 904 112 := hFT2.x _ _ rfl
        have w77 : Xi T2 904 16 = Xi S 904 16 := hFT2.x _ _ rfl
        have w78 : Xi T2 904 23 = Xi S 904 23 := hFT2.x _ _ rfl
        have w79 : Xi T2 904 32 = Xi S 904 32 := hFT2.x _ _ rfl
        have w80 : Xi T2 904 69 = Xi S 904 69 := hFT2.x _ _ rfl
        have w81 : Xi T2 904 70 = Xi S 904 70 := hFT2.x _ _ rfl
        have w82 : Xi T2 904 71 = Xi S 904 71 := hFT2.x _ _ rfl
        have w83 : Xi T2 904 72 = Xi S 904 72 := hFT2.x _ _ rfl
        have w84 : Xi T2 904 73 = Xi S 904 73 := hFT2.x _ _ rfl
        have w85 : Xi T2 904 74 = Xi S 904 74 := hFT2.x _ _ rfl
        have w86 : 0 ≤ Xi T2 904 110 ∧ Xi T2 904 110 ≤ 15 := hHT2.c _ _
        have w87 : 0 ≤ Xi T2 904 112 ∧ Xi T2 904 112 ≤ 6 := hHT2.c _ _
        have w88 : 0 ≤ Xi T2 904 15 ∧ Xi T2 904 15 ≤ 300 := hHT2.c _ _
        have w89 : 0 ≤ Xi T2 904 16 ∧ Xi T2 904 16 ≤ 16 := hHT2.c _ _
        have w90 : 0 ≤ Xi T2 904 19 ∧ Xi T2 904 19 ≤ 24 := hHT2.c _ _
        have w91 : 0 ≤ Xi T2 904 23 ∧ Xi T2 904 23 ≤ 24 := hHT2.c _ _
        have w92 : 0 ≤ Xi T2 904 32 ∧ Xi T2 904 32 ≤ 12 := hHT2.c _ _
        have w93 : -1 ≤ Xi T2 904 60 ∧ Xi T2 904 60 ≤ 23 := hHT2.c _ _
        have w94 : 0 ≤ Xi T2 904 69 ∧ Xi T2 904 69 ≤ 2600 := hHT2.c _ _
        have w95 : 0 ≤ Xi T2 904 70 ∧ Xi T2 904 70 ≤ 20 := hHT2.c _ _
        have w96 : 0 ≤ Xi T2 904 71 ∧ Xi T2 904 71 ≤ 2600 := hHT2.c _ _
        have w97 : 0 ≤ Xi T2 904 72 ∧ Xi T2 904 72 ≤ 2600 := hHT2.c _ _
        have w98 : 0 ≤ Xi T2 904 73 ∧ Xi T2 904 73 ≤ 5 := hHT2.c _ _
        have w99 : 0 ≤ Xi T2 904 74 ∧ Xi T2 904 74 ≤ 2600 := hHT2.c _ _
        have C182 : ∀  (T3 : sS) (_ : HI T3) (_ : FR md_mo_doDescribed S T3) (v1 : Int) (v2 : Int) (v3 : Int), (0 ≤ v1 ∧ v1 ≤ 2599) → (0 ≤ v2 ∧ v2 ≤ 2600) → (0 ≤ v3 ∧ v3 ≤ 23) → (Xi T3 904 69 = Xi S 904 69) → (Xi T3 904 70 = Xi S 904 70) → (Xi T3 904 71 = Xi S 904 71) → (Xi T3 904 72 = Xi S 904 72) → (Xi T3 904 73 = Xi S 904 73) → (Xi T3 904 74 = Xi S 904 74) → (Xi T3 904 110 = Xi S 904 110) → (Xi T3 904 112 = Xi S 904 112) → (Xi T3 904 16 = Xi S 904 16) → (Xi T3 904 23 = Xi S 904 23) → (Xi T3 904 32 = Xi S 904 32) → (TXM T3) → (WYM T3) → (LXM T3) → (LCN T3) → (GR T3 S) → (LXK T3 S (Xi S 904 15)) → (Xi S 904 15 ≤ Xi T3 904 15) → (Xi T3 904 60 < Xi T3 904 19) → (Xi T3 904 19 ≤ Xi S 904 19 + cnR S (Xi S 904 71) 4 (v1 + 1).toNat) → (v1 < Xi S 904 72) → (v2 = Xi S 904 71 + v1) → (v3 < Xi T3 904 19) → ((2601 - v1).toNat ≤ n2) → Rl lay0 (d + 5) m_mo_doDescribed 182 [(0, .ref 904), (1, iv v1), (2, iv v2), (3, iv v3)] [] T3 (Q_mo_doDescribed S n) := by
          intro T3 hHT3 hFT3 v1 v2 v3 w100 w101 w102 w103 w104 w105 w106 w107 w108 w109 w110 w111 w112 w113 X182 W182 M182 L182 G182 K182 w114 w115 N182 w116 w117 w118 w119
          have w120 : Xi T3 904 110 = Xi S 904 110 := hFT3.x _ _ rfl
          have w121 : Xi T3 904 112 = Xi S 904 112 := hFT3.x _ _ rfl
          have w122 : Xi T3 904 16 = Xi S 904 16 := hFT3.x _ _ rfl
          have w123 : Xi T3 904 23 = Xi S 904 23 := hFT3.x _ _ rfl
          have w124 : Xi T3 904 32 = Xi S 904 32 := hFT3.x _ _ rfl
          have w125 : Xi T3 904 69 = Xi S 904 69 := hFT3.x _ _ rfl
          have w126 : Xi T3 904 70 = Xi S 904 70 := hFT3.x _ _ rfl
          have w127 : Xi T3 904 71 = Xi S 904 71 := hFT3.x _ _ rfl
          have w128 : Xi T3 904 72 = Xi S 904 72 := hFT3.x _ _ rfl
          have w129 : Xi T3 904 73 = Xi S 904 73 := hFT3.x _ _ rfl
          have w130 : Xi T3 904 74 = Xi S 904 74 := hFT3.x _ _ rfl
          have w131 : 0 ≤ Xi T3 904 110 ∧ Xi T3 904 110 ≤ 15 := hHT3.c _ _
          have w132 : 0 ≤ Xi T3 904 112 ∧ Xi T3 904 112 ≤ 6 := hHT3.c _ _
          have w133 : 0 ≤ Xi T3 904 15 ∧ Xi T3 904 15 ≤ 300 := hHT3.c _ _
          have w134 : 0 ≤ Xi T3 904 16 ∧ Xi T3 904 16 ≤ 16 := hHT3.c _ _
          have w135 : 0 ≤ Xi T3 904 19 ∧ Xi T3 904 19 ≤ 24 := hHT3.c _ _
          have w136 : 0 ≤ Xi T3 904 23 ∧ Xi T3 904 23 ≤ 24 := hHT3.c _ _
          have w137 : 0 ≤ Xi T3 904 32 ∧ Xi T3 904 32 ≤ 12 := hHT3.c _ _
          have w138 : -1 ≤ Xi T3 904 60 ∧ Xi T3 904 60 ≤ 23 := hHT3.c _ _
          have w139 : 0 ≤ Xi T3 904 69 ∧ Xi T3 904 69 ≤ 2600 := hHT3.c _ _
          have w140 : 0 ≤ Xi T3 904 70 ∧ Xi T3 904 70 ≤ 20 := hHT3.c _ _
          have w141 : 0 ≤ Xi T3 904 71 ∧ Xi T3 904 71 ≤ 2600 := hHT3.c _ _
          have w142 : 0 ≤ Xi T3 904 72 ∧ Xi T3 904 72 ≤ 2600 := hHT3.c _ _
          have w143 : 0 ≤ Xi T3 904 73 ∧ Xi T3 904 73 ≤ 5 := hHT3.c _ _
          have w144 : 0 ≤ Xi T3 904 74 ∧ Xi T3 904 74 ≤ 2600 := hHT3.c _ _
          refine l_aload_n rfl rfl ?_
          refine l_gfi rfl rfl rfl rfl rfl ?_
          refine l_if_le rfl rfl (by unfold rg; omega) (fun w145 => ?_) (fun w146 => ?_)
          · refine l_iinc rfl rfl rfl rfl ?_
            refine l_goto rfl rfl ?_
            have w147 : 0 ≤ Xi T3 904 106 ∧ Xi T3 904 106 ≤ 9 := hHT3.c _ _
            have w148 : 0 ≤ Xi T3 904 110 ∧ Xi T3 904 110 ≤ 15 := hHT3.c _ _
            have w149 : 0 ≤ Xi T3 904 112 ∧ Xi T3 904 112 ≤ 6 := hHT3.c _ _
            have w150 : 0 ≤ Xi T3 904 15 ∧ Xi T3 904 15 ≤ 300 := hHT3.c _ _
            have w151 : 0 ≤ Xi T3 904 16 ∧ Xi T3 904 16 ≤ 16 := hHT3.c _ _
            have w152 : 0 ≤ Xi T3 904 19 ∧ Xi T3 904 19 ≤ 24 := hHT3.c _ _
            have w153 : 0 ≤ Xi T3 904 23 ∧ Xi T3 904 23 ≤ 24 := hHT3.c _ _
            have w154 : 0 ≤ Xi T3 904 32 ∧ Xi T3 904 32 ≤ 12 := hHT3.c _ _
            have w155 : -1 ≤ Xi T3 904 60 ∧ Xi T3 904 60 ≤ 23 := hHT3.c _ _
            have w156 : 0 ≤ Xi T3 904 69 ∧ Xi T3 904 69 ≤ 2600 := hHT3.c _ _
            have w157 : 0 ≤ Xi T3 904 70 ∧ Xi T3 904 70 ≤ 20 := hHT3.c _ _
            have w158 : 0 ≤ Xi T3 904 71 ∧ Xi T3 904 71 ≤ 2600 := hHT3.c _ _
            have w159 : 0 ≤ Xi T3 904 72 ∧ Xi T3 904 72 ≤ 2600 := hHT3.c _ _
            have w160 : 0 ≤ Xi T3 904 73 ∧ Xi T3 904 73 ≤ 5 := hHT3.c _ _
            have w161 : 0 ≤ Xi T3 904 74 ∧ Xi T3 904 74 ≤ 2600 := hHT3.c _ _
            exact Rl_weak (ih2 _ (by omega) T3 hHT3 hFT3 ((v1 + 1)) (by omega) (by omega) (by omega) (by omega) (by omega) (by omega) (by omega) (by omega) (by omega) (by omega) (by omega) (by omega) (by omega) (by first | assumption | exact (by assumption : TXM T3)) (by first | assumption | exact (by assumption : WYM T3)) (by first | assumption | exact (by assumption : LXM T3)) (by first | assumption | exact (by assumption : LCN T3)) (by first | exact GR.rf | exact (by assumption : GR T3 S)) (by first | exact LXK.rf | exact (by assumption : LXK T3 S (Xi S 904 15))) (by omega) (by omega) (by first | exact Int.le_of_eq (Int.add_zero _).symm | assumption | (have t : Xi T3 904 19 = Xi T3 904 19 := (by omega); rw [t]; assumption)) rfl) (And.intro rfl (And.intro rfl (True.intro)))
          · refine l_aload_n rfl rfl ?_
            refine l_gfi rfl rfl rfl rfl rfl ?_
            have w162 : 0 ≤ (Xi T3 904 106) ∧ (Xi T3 904 106) ≤ 9 := hHT3.c _ _
            refine l_if_ne rfl rfl (by unfold rg; omega) (fun w163 => ?_) (fun w164 => ?_)
            · refine l_iinc rfl rfl rfl rfl ?_
              refine l_goto rfl rfl ?_
              have w165 : 0 ≤ Xi T3 904 106 ∧ Xi T3 904 106 ≤ 9 := hHT3.c _ _
              have w166 : 0 ≤ Xi T3 904 110 ∧ Xi T3 904 110 ≤ 15 := hHT3.c _ _
              have w167 : 0 ≤ Xi T3 904 112 ∧ Xi T3 904 112 ≤ 6 := hHT3.c _ _
              have w168 : 0 ≤ Xi T3 904 15 ∧ Xi T3 904 15 ≤ 300 := hHT3.c _ _
              have w169 : 0 ≤ Xi T3 904 16 ∧ Xi T3 904 16 ≤ 16 := hHT3.c _ _
              have w170 : 0 ≤ Xi T3 904 19 ∧ Xi T3 904 19 ≤ 24 := hHT3.c _ _
              have w171 : 0 ≤ Xi T3 904 23 ∧ Xi T3 904 23 ≤ 24 := hHT3.c _ _
              have w172 : 0 ≤ Xi T3 904 32 ∧ Xi T3 904 32 ≤ 12 := hHT3.c _ _
              have w173 : -1 ≤ Xi T3 904 60 ∧ Xi T3 904 60 ≤ 23 := hHT3.c _ _
              have w174 : 0 ≤ Xi T3 904 69 ∧ Xi T3 904 69 ≤ 2600 := hHT3.c _ _
              have w175 : 0 ≤ Xi T3 904 70 ∧ Xi T3 904 70 ≤ 20 := hHT3.c _ _
              have w176 : 0 ≤ Xi T3 904 71 ∧ Xi T3 904 71 ≤ 2600 := hHT3.c _ _
              have w177 : 0 ≤ Xi T3 904 72 ∧ Xi T3 904 72 ≤ 2600 := hHT3.c _ _
              have w178 : 0 ≤ Xi T3 904 73 ∧ Xi T3 904 73 ≤ 5 := hHT3.c _ _
              have w179 : 0 ≤ Xi T3 904 74 ∧ Xi T3 904 74 ≤ 2600 := hHT3.c _ _
              exact Rl_weak (ih2 _ (by omega) T3 hHT3 hFT3 ((v1 + 1)) (by omega) (by omega) (by omega) (by omega) (by omega) (by omega) (by omega) (by omega) (by omega) (by omega) (by omega) (by omega) (by omega) (by first | assumption | exact (by assumption : TXM T3)) (by first | assumption | exact (by assumption : WYM T3)) (by first | assumption | exact (by assumption : LXM T3)) (by first | assumption | exact (by assumption : LCN T3)) (by first | exact GR.rf | exact (by assumption : GR T3 S)) (by first | exact LXK.rf | exact (by assumption : LXK T3 S (Xi S 904 15))) (by omega) (by omega) (by first | exact Int.le_of_eq (Int.add_zero _).symm | assumption | (have t : Xi T3 904 19 = Xi T3 904 19 := (by omega); rw [t]; assumption)) rfl) (And.intro rfl (And.intro rfl (True.intro)))
            · refine l_aload_n rfl rfl ?_
              refine l_iload_n rfl rfl ?_
              refine l_aload_n rfl rfl ?_
              have h198 : Xi S 904 74 < Xi S 904 69 := (hp (by omega)).1
              refine l_gfr rfl rfl rfl rfl rfl (hHT3.r 904 67 950 rfl) ?_
              refine l_iload_n rfl rfl ?_
              refine l_iaload (n := 2600) rfl rfl (by omega) (by omega) (by unfold rg; omega) ?_
              have w180 : 0 ≤ (Xi T3 950 ((v2).toNat)) ∧ (Xi T3 950 ((v2).toNat)) ≤ 5010 := hHT3.c _ _
              have e203 : (Xi T3 950 ((v2).toNat)) ≤ n := by rw [(hFT3.cx 950 rfl _).1]; exact hrf _ (by omega) (by omega)
              have w181 : 0 ≤ Xi T3 904 106 ∧ Xi T3 904 106 ≤ 9 := hHT3.c _ _
              have w182 : 0 ≤ Xi T3 904 110 ∧ Xi T3 904 110 ≤ 15 := hHT3.c _ _
              have w183 : 0 ≤ Xi T3 904 112 ∧ Xi T3 904 112 ≤ 6 := hHT3.c _ _
              have w184 : 0 ≤ Xi T3 904 15 ∧ Xi T3 904 15 ≤ 300 := hHT3.c _ _
              have w185 : 0 ≤ Xi T3 904 16 ∧ Xi T3 904 16 ≤ 16 := hHT3.c _ _
              have w186 : 0 ≤ Xi T3 904 19 ∧ Xi T3 904 19 ≤ 24 := hHT3.c _ _
              have w187 : 0 ≤ Xi T3 904 23 ∧ Xi T3 904 23 ≤ 24 := hHT3.c _ _
              have w188 : 0 ≤ Xi T3 904 32 ∧ Xi T3 904 32 ≤ 12 := hHT3.c _ _
              have w189 : -1 ≤ Xi T3 904 60 ∧ Xi T3 904 60 ≤ 23 := hHT3.c _ _
              have w190 : 0 ≤ Xi T3 904 69 ∧ Xi T3 904 69 ≤ 2600 := hHT3.c _ _
              have w191 : 0 ≤ Xi T3 904 70 ∧ Xi T3 904 70 ≤ 20 := hHT3.c _ _
              have w192 : 0 ≤ Xi T3 904 71 ∧ Xi T3 904 71 ≤ 2600 := hHT3.c _ _
              have w193 : 0 ≤ Xi T3 904 72 ∧ Xi T3 904 72 ≤ 2600 := hHT3.c _ _
              have w194 : 0 ≤ Xi T3 904 73 ∧ Xi T3 904 73 ≤ 5 := hHT3.c _ _
              have w195 : 0 ≤ Xi T3 904 74 ∧ Xi T3 904 74 ≤ 2600 := hHT3.c _ _
              refine l_callV rfl rfl rfl (t_mo_placeObject hHT3 n v3 (Xi T3 950 ((v2).toNat)) ⟨by omega, by omega⟩ ⟨by omega, by omega⟩ (by first | assumption | exact (TK_FR hFT3 rfl (by assumption : TK S _))) (by first | assumption | exact (RNV_FR hFT3 rfl (by assumption : RNV S _))) (by first | assumption | exact (by assumption : LXM T3)) (by first | assumption | exact (ABV_FR hFT3 rfl (by assumption : ABV S))) (by first | assumption | exact (by assumption : WYM T3)) (by first | assumption | omega) (rn_up2 (hp (by omega)).2 (by assumption : LXK T3 S (Xi S 904 15)) (by omega) (by omega) (fun j => (hFT3.cx 910 rfl j).2) (fun j => (hFT3.cx 950 rfl j).1) (fun j => (hFT3.cx 951 rfl j).1) (by omega)) _) ?_
              rintro _ T4 ⟨hHT4, w198, rfl, w196⟩
              have hFT4 : FR md_mo_doDescribed S T4 := FR.tr hFT3 w198 rfl
              show Rl _ _ _ _ _ [] _ _
              refine l_iinc rfl rfl rfl rfl ?_
              refine l_goto rfl rfl ?_
              have w199 : 0 ≤ Xi T4 904 106 ∧ Xi T4 904 106 ≤ 9 := hHT4.c _ _
              have w200 : Xi T4 904 110 = Xi T3 904 110 := (show Xi T4 904 110 = Xi T3 904 110 from w198.x _ _ rfl)
              have w201 : 0 ≤ Xi T3 904 110 ∧ Xi T3 904 110 ≤ 15 := hHT3.c _ _
              have w202 : Xi T4 904 112 = Xi T3 904 112 := (show Xi T4 904 112 = Xi T3 904 112 from w198.x _ _ rfl)
              have w203 : 0 ≤ Xi T3 904 112 ∧ Xi T3 904 112 ≤ 6 := hHT3.c _ _
              have w204 : Xi T4 904 15 = Xi T3 904 15 := (show Xi T4 904 15 = Xi T3 904 15 from w198.x _ _ rfl)
              have w205 : 0 ≤ Xi T3 904 15 ∧ Xi T3 904 15 ≤ 300 := hHT3.c _ _
              have w206 : Xi T4 904 16 = Xi T3 904 16 := (show Xi T4 904 16 = Xi T3 904 16 from w198.x _ _ rfl)
              have w207 : 0 ≤ Xi T3 904 16 ∧ Xi T3 904 16 ≤ 16 := hHT3.c _ _
              have w208 : Xi T4 904 19 = Xi T3 904 19 := (show Xi T4 904 19 = Xi T3 904 19 from w198.x _ _ rfl)
              have w209 : 0 ≤ Xi T3 904 19 ∧ Xi T3 904 19 ≤ 24 := hHT3.c _ _
              have w210 : Xi T4 904 23 = Xi T3 904 23 := (show Xi T4 904 23 = Xi T3 904 23 from w198.x _ _ rfl)
              have w211 : 0 ≤ Xi T3 904 23 ∧ Xi T3 904 23 ≤ 24 := hHT3.c _ _
              have w212 : Xi T4 904 32 = Xi T3 904 32 := (show Xi T4 904 32 = Xi T3 904 32 from w198.x _ _ rfl)
              have w213 : 0 ≤ Xi T3 904 32 ∧ Xi T3 904 32 ≤ 12 := hHT3.c _ _
              have w214 : Xi T4 904 60 = Xi T3 904 60 := (show Xi T4 904 60 = Xi T3 904 60 from w198.x _ _ rfl)
              have w215 : -1 ≤ Xi T3 904 60 ∧ Xi T3 904 60 ≤ 23 := hHT3.c _ _
              have w216 : Xi T4 904 69 = Xi T3 904 69 := (show Xi T4 904 69 = Xi T3 904 69 from w198.x _ _ rfl)
              have w217 : 0 ≤ Xi T3 904 69 ∧ Xi T3 904 69 ≤ 2600 := hHT3.c _ _
              have w218 : Xi T4 904 70 = Xi T3 904 70 := (show Xi T4 904 70 = Xi T3 904 70 from w198.x _ _ rfl)
              have w219 : 0 ≤ Xi T3 904 70 ∧ Xi T3 904 70 ≤ 20 := hHT3.c _ _
              have w220 : Xi T4 904 71 = Xi T3 904 71 := (show Xi T4 904 71 = Xi T3 904 71 from w198.x _ _ rfl)
              have w221 : 0 ≤ Xi T3 904 71 ∧ Xi T3 904 71 ≤ 2600 := hHT3.c _ _
              have w222 : Xi T4 904 72 = Xi T3 904 72 := (show Xi T4 904 72 = Xi T3 904 72 from w198.x _ _ rfl)
              have w223 : 0 ≤ Xi T3 904 72 ∧ Xi T3 904 72 ≤ 2600 := hHT3.c _ _
              have w224 : Xi T4 904 73 = Xi T3 904 73 := (show Xi T4 904 73 = Xi T3 904 73 from w198.x _ _ rfl)
              have w225 : 0 ≤ Xi T3 904 73 ∧ Xi T3 904 73 ≤ 5 := hHT3.c _ _
              have w226 : Xi T4 904 74 = Xi T3 904 74 := (show Xi T4 904 74 = Xi T3 904 74 from w198.x _ _ rfl)
              have w227 : 0 ≤ Xi T3 904 74 ∧ Xi T3 904 74 ≤ 2600 := hHT3.c _ _
              exact Rl_weak (ih2 _ (by omega) T4 hHT4 hFT4 ((v1 + 1)) (by omega) (by omega) (by omega) (by omega) (by omega) (by omega) (by omega) (by omega) (by omega) (by omega) (by omega) (by omega) (by omega) (by first | assumption | exact (TXM_FR w198 rfl (by assumption : TXM T3))) (by first | assumption | exact (by assumption : WYM T4)) (by first | assumption | exact (LXM_FR w198 rfl (by assumption : LXM T3))) (by first | assumption | exact (LCN_FR w198 rfl (by assumption : LCN T3))) (by first | exact GR.rf | exact (GR_FR w198 rfl (by assumption : GR T3 S))) (by first | exact LXK.rf | exact (LXK.fr (by assumption : LXK T3 S (Xi S 904 15)) w198 rfl)) (by omega) (by omega) (by first | exact Int.le_of_eq (Int.add_zero _).symm | assumption | (have t : Xi T4 904 19 = Xi T3 904 19 := (by omega); rw [t]; assumption)) rfl) (And.intro rfl (And.intro rfl (True.intro)))
        have C130 : ∀  (T5 : sS) (_ : HI T5) (_ : FR md_mo_doDescribed S T5) (v1 : Int) (v2 : Int) (v3 : Int), (0 ≤ v1 ∧ v1 ≤ 2599) → (0 ≤ v2 ∧ v2 ≤ 2600) → (0 ≤ v3 ∧ v3 ≤ 23) → (Xi T5 904 69 = Xi S 904 69) → (Xi T5 904 70 = Xi S 904 70) → (Xi T5 904 71 = Xi S 904 71) → (Xi T5 904 72 = Xi S 904 72) → (Xi T5 904 73 = Xi S 904 73) → (Xi T5 904 74 = Xi S 904 74) → (Xi T5 904 110 = Xi S 904 110) → (Xi T5 904 112 = Xi S 904 112) → (Xi T5 904 16 = Xi S 904 16) → (Xi T5 904 23 = Xi S 904 23) → (Xi T5 904 32 = Xi S 904 32) → (TXM T5) → (WYM T5) → (LXM T5) → (LCN T5) → (GR T5 S) → (LXK T5 S (Xi S 904 15)) → (Xi S 904 15 ≤ Xi T5 904 15) → (Xi T5 904 60 < Xi T5 904 19) → (Xi T5 904 19 ≤ Xi S 904 19 + cnR S (Xi S 904 71) 4 (v1 + 1).toNat) → (v1 < Xi S 904 72) → (v2 = Xi S 904 71 + v1) → (v3 < Xi T5 904 19) → (Xi S 904 70 ≠ 13) → ((2601 - v1).toNat ≤ n2) → Rl lay0 (d + 5) m_mo_doDescribed 130 [(0, .ref 904), (1, iv v1), (2, iv v2), (3, iv v3)] [] T5 (Q_mo_doDescribed S n) := by
          intro T5 hHT5 hFT5 v1 v2 v3 w228 w229 w230 w231 w232 w233 w234 w235 w236 w237 w238 w239 w240 w241 X130 W130 M130 L130 G130 K130 w242 w243 N130 w244 w245 w246 w247 w248
          have w249 : Xi T5 904 110 = Xi S 904 110 := hFT5.x _ _ rfl
          have w250 : Xi T5 904 112 = Xi S 904 112 := hFT5.x _ _ rfl
          have w251 : Xi T5 904 16 = Xi S 904 16 := hFT5.x _ _ rfl
          have w252 : Xi T5 904 23 = Xi S 904 23 := hFT5.x _ _ rfl
          have w253 : Xi T5 904 32 = Xi S 904 32 := hFT5.x _ _ rfl
          have w254 : Xi T5 904 69 = Xi S 904 69 := hFT5.x _ _ rfl
          have w255 : Xi T5 904 70 = Xi S 904 70 := hFT5.x _ _ rfl
          have w256 : Xi T5 904 71 = Xi S 904 71 := hFT5.x _ _ rfl
          have w257 : Xi T5 904 72 = Xi S 904 72 := hFT5.x _ _ rfl
          have w258 : Xi T5 904 73 = Xi S 904 73 := hFT5.x _ _ rfl
          have w259 : Xi T5 904 74 = Xi S 904 74 := hFT5.x _ _ rfl
          have w260 : 0 ≤ Xi T5 904 110 ∧ Xi T5 904 110 ≤ 15 := hHT5.c _ _
          have w261 : 0 ≤ Xi T5 904 112 ∧ Xi T5 904 112 ≤ 6 := hHT5.c _ _
          have w262 : 0 ≤ Xi T5 904 15 ∧ Xi T5 904 15 ≤ 300 := hHT5.c _ _
          have w263 : 0 ≤ Xi T5 904 16 ∧ Xi T5 904 16 ≤ 16 := hHT5.c _ _
          have w264 : 0 ≤ Xi T5 904 19 ∧ Xi T5 904 19 ≤ 24 := hHT5.c _ _
          have w265 : 0 ≤ Xi T5 904 23 ∧ Xi T5 904 23 ≤ 24 := hHT5.c _ _
          have w266 : 0 ≤ Xi T5 904 32 ∧ Xi T5 904 32 ≤ 12 := hHT5.c _ _
          have w267 : -1 ≤ Xi T5 904 60 ∧ Xi T5 904 60 ≤ 23 := hHT5.c _ _
          have w268 : 0 ≤ Xi T5 904 69 ∧ Xi T5 904 69 ≤ 2600 := hHT5.c _ _
          have w269 : 0 ≤ Xi T5 904 70 ∧ Xi T5 904 70 ≤ 20 := hHT5.c _ _
          have w270 : 0 ≤ Xi T5 904 71 ∧ Xi T5 904 71 ≤ 2600 := hHT5.c _ _
          have w271 : 0 ≤ Xi T5 904 72 ∧ Xi T5 904 72 ≤ 2600 := hHT5.c _ _
          have w272 : 0 ≤ Xi T5 904 73 ∧ Xi T5 904 73 ≤ 5 := hHT5.c _ _
          have w273 : 0 ≤ Xi T5 904 74 ∧ Xi T5 904 74 ≤ 2600 := hHT5.c _ _
          have C133 : ∀ (n133 : Nat) (T6 : sS) (_ : HI T6) (_ : FR md_mo_doDescribed S T6) (v1 : Int) (v2 : Int) (v3 : Int) (v4 : Int), (0 ≤ v1 ∧ v1 ≤ 2599) → (0 ≤ v2 ∧ v2 ≤ 2600) → (0 ≤ v3 ∧ v3 ≤ 23) → (0 ≤ v4 ∧ v4 ≤ 6) → (Xi T6 904 69 = Xi S 904 69) → (Xi T6 904 70 = Xi S 904 70) → (Xi T6 904 71 = Xi S 904 71) → (Xi T6 904 72 = Xi S 904 72) → (Xi T6 904 73 = Xi S 904 73) → (Xi T6 904 74 = Xi S 904 74) → (Xi T6 904 110 = Xi S 904 110) → (Xi T6 904 112 = Xi S 904 112) → (Xi T6 904 16 = Xi S 904 16) → (Xi T6 904 23 = Xi S 904 23) → (Xi T6 904 32 = Xi S 904 32) → (TXM T6) → (WYM T6) → (LXM T6) → (LCN T6) → (GR T6 S) → (LXK T6 S (Xi S 904 15)) → (Xi S 904 15 ≤ Xi T6 904 15) → (Xi T6 904 60 < Xi T6 904 19) → (Xi T6 904 19 ≤ Xi S 904 19 + cnR S (Xi S 904 71) 4 (v1 + 1).toNat) → (v1 < Xi S 904 72) → (v2 = Xi S 904 71 + v1) → (v3 < Xi T6 904 19) → (Xi S 904 70 ≠ 13) → ((2601 - v1).toNat ≤ n2) → n133 = (7 - v4).toNat → Rl lay0 (d + 5) m_mo_doDescribed 133 [(0, .ref 904), (1, iv v1), (2, iv v2), (3, iv v3), (4, iv v4)] [] T6 (Q_mo_doDescribed S n) := by
            intro n133
            induction n133 using Nat.strongRecOn with
            | ind n133 ih133 =>
              intro T6 hHT6 hFT6 v1 v2 v3 v4 w274 w275 w276 w277 w278 w279 w280 w281 w282 w283 w284 w285 w286 w287 w288 X133 W133 M133 L133 G133 K133 w289 w290 N133 w291 w292 w293 w294 w295 hm133
              have w296 : Xi T6 904 110 = Xi S 904 110 := hFT6.x _ _ rfl
              have w297 : Xi T6 904 112 = Xi S 904 112 := hFT6.x _ _ rfl
              have w298 : Xi T6 904 16 = Xi S 904 16 := hFT6.x _ _ rfl
              have w299 : Xi T6 904 23 = Xi S 904 23 := hFT6.x _ _ rfl
              have w300 : Xi T6 904 32 = Xi S 904 32 := hFT6.x _ _ rfl
              have w301 : Xi T6 904 69 = Xi S 904 69 := hFT6.x _ _ rfl
              have w302 : Xi T6 904 70 = Xi S 904 70 := hFT6.x _ _ rfl
              have w303 : Xi T6 904 71 = Xi S 904 71 := hFT6.x _ _ rfl
              have w304 : Xi T6 904 72 = Xi S 904 72 := hFT6.x _ _ rfl
              have w305 : Xi T6 904 73 = Xi S 904 73 := hFT6.x _ _ rfl
              have w306 : Xi T6 904 74 = Xi S 904 74 := hFT6.x _ _ rfl
              have w307 : 0 ≤ Xi T6 904 110 ∧ Xi T6 904 110 ≤ 15 := hHT6.c _ _
              have w308 : 0 ≤ Xi T6 904 112 ∧ Xi T6 904 112 ≤ 6 := hHT6.c _ _
              have w309 : 0 ≤ Xi T6 904 15 ∧ Xi T6 904 15 ≤ 300 := hHT6.c _ _
              have w310 : 0 ≤ Xi T6 904 16 ∧ Xi T6 904 16 ≤ 16 := hHT6.c _ _
              have w311 : 0 ≤ Xi T6 904 19 ∧ Xi T6 904 19 ≤ 24 := hHT6.c _ _
              have w312 : 0 ≤ Xi T6 904 23 ∧ Xi T6 904 23 ≤ 24 := hHT6.c _ _
              have w313 : 0 ≤ Xi T6 904 32 ∧ Xi T6 904 32 ≤ 12 := hHT6.c _ _
              have w314 : -1 ≤ Xi T6 904 60 ∧ Xi T6 904 60 ≤ 23 := hHT6.c _ _
              have w315 : 0 ≤ Xi T6 904 69 ∧ Xi T6 904 69 ≤ 2600 := hHT6.c _ _
              have w316 : 0 ≤ Xi T6 904 70 ∧ Xi T6 904 70 ≤ 20 := hHT6.c _ _
              have w317 : 0 ≤ Xi T6 904 71 ∧ Xi T6 904 71 ≤ 2600 := hHT6.c _ _
              have w318 : 0 ≤ Xi T6 904 72 ∧ Xi T6 904 72 ≤ 2600 := hHT6.c _ _
              have w319 : 0 ≤ Xi T6 904 73 ∧ Xi T6 904 73 ≤ 5 := hHT6.c _ _
              have w320 : 0 ≤ Xi T6 904 74 ∧ Xi T6 904 74 ≤ 2600 := hHT6.c _ _
              refine l_iload rfl rfl ?_
              refine l_aload_n rfl rfl ?_
              refine l_gfi rfl rfl rfl rfl rfl ?_
              refine l_icmp_ge rfl rfl (by unfold rg; omega) (by unfold rg; omega) (fun w321 => ?_) (fun w322 => ?_)
              · have w323 : 0 ≤ Xi T6 904 106 ∧ Xi T6 904 106 ≤ 9 := hHT6.c _ _
                have w324 : 0 ≤ Xi T6 904 110 ∧ Xi T6 904 110 ≤ 15 := hHT6.c _ _
                have w325 : 0 ≤ Xi T6 904 112 ∧ Xi T6 904 112 ≤ 6 := hHT6.c _ _
                have w326 : 0 ≤ Xi T6 904 15 ∧ Xi T6 904 15 ≤ 300 := hHT6.c _ _
                have w327 : 0 ≤ Xi T6 904 16 ∧ Xi T6 904 16 ≤ 16 := hHT6.c _ _
                have w328 : 0 ≤ Xi T6 904 19 ∧ Xi T6 904 19 ≤ 24 := hHT6.c _ _
                have w329 : 0 ≤ Xi T6 904 23 ∧ Xi T6 904 23 ≤ 24 := hHT6.c _ _
                have w330 : 0 ≤ Xi T6 904 32 ∧ Xi T6 904 32 ≤ 12 := hHT6.c _ _
                have w331 : -1 ≤ Xi T6 904 60 ∧ Xi T6 904 60 ≤ 23 := hHT6.c _ _
                have w332 : 0 ≤ Xi T6 904 69 ∧ Xi T6 904 69 ≤ 2600 := hHT6.c _ _
                have w333 : 0 ≤ Xi T6 904 70 ∧ Xi T6 904 70 ≤ 20 := hHT6.c _ _
                have w334 : 0 ≤ Xi T6 904 71 ∧ Xi T6 904 71 ≤ 2600 := hHT6.c _ _
                have w335 : 0 ≤ Xi T6 904 72 ∧ Xi T6 904 72 ≤ 2600 := hHT6.c _ _
                have w336 : 0 ≤ Xi T6 904 73 ∧ Xi T6 904 73 ≤ 5 := hHT6.c _ _
                have w337 : 0 ≤ Xi T6 904 74 ∧ Xi T6 904 74 ≤ 2600 := hHT6.c _ _
                exact Rl_weak (C182 T6 hHT6 hFT6 (v1) (v2) (v3) (by omega) (by omega) (by omega) (by omega) (by omega) (by omega) (by omega) (by omega) (by omega) (by omega) (by omega) (by omega) (by omega) (by omega) (by first | assumption | exact (by assumption : TXM T6)) (by first | assumption | exact (by assumption : WYM T6)) (by first | assumption | exact (by assumption : LXM T6)) (by first | assumption | exact (by assumption : LCN T6)) ((by assumption : GR T6 S)) ((by assumption : LXK T6 S (Xi S 904 15))) (by omega) (by omega) (by first | assumption | (have t : Xi T6 904 19 = Xi T6 904 19 := (by omega); rw [t]; assumption)) (by omega) (by omega) (by omega) (by omega)) (And.intro rfl (And.intro rfl (And.intro rfl (And.intro rfl (True.intro)))))
              · refine l_aload_n rfl rfl ?_
                refine l_gfi rfl rfl rfl rfl rfl ?_
                have w338 : 0 ≤ (Xi T6 904 106) ∧ (Xi T6 904 106) ≤ 9 := hHT6.c _ _
                refine l_if_ne rfl rfl (by unfold rg; omega) (fun w339 => ?_) (fun w340 => ?_)
                · have w341 : 0 ≤ Xi T6 904 106 ∧ Xi T6 904 106 ≤ 9 := hHT6.c _ _
                  have w342 : 0 ≤ Xi T6 904 110 ∧ Xi T6 904 110 ≤ 15 := hHT6.c _ _
                  have w343 : 0 ≤ Xi T6 904 112 ∧ Xi T6 904 112 ≤ 6 := hHT6.c _ _
                  have w344 : 0 ≤ Xi T6 904 15 ∧ Xi T6 904 15 ≤ 300 := hHT6.c _ _
                  have w345 : 0 ≤ Xi T6 904 16 ∧ Xi T6 904 16 ≤ 16 := hHT6.c _ _
                  have w346 : 0 ≤ Xi T6 904 19 ∧ Xi T6 904 19 ≤ 24 := hHT6.c _ _
                  have w347 : 0 ≤ Xi T6 904 23 ∧ Xi T6 904 23 ≤ 24 := hHT6.c _ _
                  have w348 : 0 ≤ Xi T6 904 32 ∧ Xi T6 904 32 ≤ 12 := hHT6.c _ _
                  have w349 : -1 ≤ Xi T6 904 60 ∧ Xi T6 904 60 ≤ 23 := hHT6.c _ _
                  have w350 : 0 ≤ Xi T6 904 69 ∧ Xi T6 904 69 ≤ 2600 := hHT6.c _ _
                  have w351 : 0 ≤ Xi T6 904 70 ∧ Xi T6 904 70 ≤ 20 := hHT6.c _ _
                  have w352 : 0 ≤ Xi T6 904 71 ∧ Xi T6 904 71 ≤ 2600 := hHT6.c _ _
                  have w353 : 0 ≤ Xi T6 904 72 ∧ Xi T6 904 72 ≤ 2600 := hHT6.c _ _
                  have w354 : 0 ≤ Xi T6 904 73 ∧ Xi T6 904 73 ≤ 5 := hHT6.c _ _
                  have w355 : 0 ≤ Xi T6 904 74 ∧ Xi T6 904 74 ≤ 2600 := hHT6.c _ _
                  exact Rl_weak (C182 T6 hHT6 hFT6 (v1) (v2) (v3) (by omega) (by omega) (by omega) (by omega) (by omega) (by omega) (by omega) (by omega) (by omega) (by omega) (by omega) (by omega) (by omega) (by omega) (by first | assumption | exact (by assumption : TXM T6)) (by first | assumption | exact (by assumption : WYM T6)) (by first | assumption | exact (by assumption : LXM T6)) (by first | assumption | exact (by assumption : LCN T6)) ((by assumption : GR T6 S)) ((by assumption : LXK T6 S (Xi S 904 15))) (by omega) (by omega) (by first | assumption | (have t : Xi T6 904 19 = Xi T6 904 19 := (by omega); rw [t]; assumption)) (by omega) (by omega) (by omega) (by omega)) (And.intro rfl (And.intro rfl (And.intro rfl (And.intro rfl (True.intro)))))
                · refine l_aload_n rfl rfl ?_
                  refine l_iload_n rfl rfl ?_
                  refine l_aload_n rfl rfl ?_
                  refine l_gfr rfl rfl rfl rfl rfl (hHT6.r 904 111 967 rfl) ?_
                  refine l_iload rfl rfl ?_
                  refine l_iaload (n := 6) rfl rfl (by omega) (by omega) (by unfold rg; omega) ?_
                  have w356 : -1 ≤ (Xi T6 967 ((v4).toNat)) ∧ (Xi T6 967 ((v4).toNat)) ≤ 6411 := hHT6.c _ _
                  have a157 : ADM S (Xi T6 967 ((v4).toNat)) := by rw [(hFT6.cx 967 rfl _).1]; exact (hr (by omega)).2 (v4).toNat (by omega)
                  have d157 : 0 ≤ (Xi T6 967 ((v4).toNat)) ∧ (Xi T6 967 ((v4).toNat)) ≤ 6411 := by have t := a157; unfold ADM at t; omega
                  refine l_iconst rfl ?_
                  have w357 : 0 ≤ Xi T6 904 106 ∧ Xi T6 904 106 ≤ 9 := hHT6.c _ _
                  have w358 : 0 ≤ Xi T6 904 110 ∧ Xi T6 904 110 ≤ 15 := hHT6.c _ _
                  have w359 : 0 ≤ Xi T6 904 112 ∧ Xi T6 904 112 ≤ 6 := hHT6.c _ _
                  have w360 : 0 ≤ Xi T6 904 15 ∧ Xi T6 904 15 ≤ 300 := hHT6.c _ _
                  have w361 : 0 ≤ Xi T6 904 16 ∧ Xi T6 904 16 ≤ 16 := hHT6.c _ _
                  have w362 : 0 ≤ Xi T6 904 19 ∧ Xi T6 904 19 ≤ 24 := hHT6.c _ _
                  have w363 : 0 ≤ Xi T6 904 23 ∧ Xi T6 904 23 ≤ 24 := hHT6.c _ _
                  have w364 : 0 ≤ Xi T6 904 32 ∧ Xi T6 904 32 ≤ 12 := hHT6.c _ _
                  have w365 : -1 ≤ Xi T6 904 60 ∧ Xi T6 904 60 ≤ 23 := hHT6.c _ _
                  have w366 : 0 ≤ Xi T6 904 69 ∧ Xi T6 904 69 ≤ 2600 := hHT6.c _ _
                  have w367 : 0 ≤ Xi T6 904 70 ∧ Xi T6 904 70 ≤ 20 := hHT6.c _ _
                  have w368 : 0 ≤ Xi T6 904 71 ∧ Xi T6 904 71 ≤ 2600 := hHT6.c _ _
                  have w369 : 0 ≤ Xi T6 904 72 ∧ Xi T6 904 72 ≤ 2600 := hHT6.c _ _
                  have w370 : 0 ≤ Xi T6 904 73 ∧ Xi T6 904 73 ≤ 5 := hHT6.c _ _
                  have w371 : 0 ≤ Xi T6 904 74 ∧ Xi T6 904 74 ≤ 2600 := hHT6.c _ _
                  refine l_callV rfl rfl rfl (t_mo_tellRead hHT6 v3 (Xi T6 967 ((v4).toNat)) 1 ⟨by omega, by omega⟩ ⟨by omega, by omega⟩ ⟨by omega, by omega⟩ (by have t := a157; unfold ADM at t; have a := hFT6.x 904 23 rfl; have b := hFT6.x 904 32 rfl; omega) (by first | assumption | omega) (by first | assumption | exact (by assumption : TXM T6)) _) ?_
                  rintro _ T7 ⟨hHT7, w374, z373, rfl, w373, w372⟩
                  have hFT7 : FR md_mo_doDescribed S T7 := FR.tr hFT6 w374 rfl
                  show Rl _ _ _ _ _ [iv z373] _ _
                  refine l_if_ne rfl rfl (by unfold rg; omega) (fun w375 => ?_) (fun w376 => ?_)
                  · refine l_iinc rfl rfl rfl rfl ?_
                    refine l_goto rfl rfl ?_
                    have w377 : Xi T7 904 106 = Xi T6 904 106 := (show Xi T7 904 106 = Xi T6 904 106 from w374.x _ _ rfl)
                    have w378 : 0 ≤ Xi T6 904 106 ∧ Xi T6 904 106 ≤ 9 := hHT6.c _ _
                    have w379 : Xi T7 904 110 = Xi T6 904 110 := (show Xi T7 904 110 = Xi T6 904 110 from w374.x _ _ rfl)
                    have w380 : 0 ≤ Xi T6 904 110 ∧ Xi T6 904 110 ≤ 15 := hHT6.c _ _
                    have w381 : Xi T7 904 112 = Xi T6 904 112 := (show Xi T7 904 112 = Xi T6 904 112 from w374.x _ _ rfl)
                    have w382 : 0 ≤ Xi T6 904 112 ∧ Xi T6 904 112 ≤ 6 := hHT6.c _ _
                    have w383 : Xi T7 904 15 = Xi T6 904 15 := (show Xi T7 904 15 = Xi T6 904 15 from w374.x _ _ rfl)
                    have w384 : 0 ≤ Xi T6 904 15 ∧ Xi T6 904 15 ≤ 300 := hHT6.c _ _
                    have w385 : Xi T7 904 16 = Xi T6 904 16 := (show Xi T7 904 16 = Xi T6 904 16 from w374.x _ _ rfl)
                    have w386 : 0 ≤ Xi T6 904 16 ∧ Xi T6 904 16 ≤ 16 := hHT6.c _ _
                    have w387 : Xi T7 904 19 = Xi T6 904 19 := (show Xi T7 904 19 = Xi T6 904 19 from w374.x _ _ rfl)
                    have w388 : 0 ≤ Xi T6 904 19 ∧ Xi T6 904 19 ≤ 24 := hHT6.c _ _
                    have w389 : Xi T7 904 23 = Xi T6 904 23 := (show Xi T7 904 23 = Xi T6 904 23 from w374.x _ _ rfl)
                    have w390 : 0 ≤ Xi T6 904 23 ∧ Xi T6 904 23 ≤ 24 := hHT6.c _ _
                    have w391 : Xi T7 904 32 = Xi T6 904 32 := (show Xi T7 904 32 = Xi T6 904 32 from w374.x _ _ rfl)
                    have w392 : 0 ≤ Xi T6 904 32 ∧ Xi T6 904 32 ≤ 12 := hHT6.c _ _
                    have w393 : Xi T7 904 60 = Xi T6 904 60 := (show Xi T7 904 60 = Xi T6 904 60 from w374.x _ _ rfl)
                    have w394 : -1 ≤ Xi T6 904 60 ∧ Xi T6 904 60 ≤ 23 := hHT6.c _ _
                    have w395 : Xi T7 904 69 = Xi T6 904 69 := (show Xi T7 904 69 = Xi T6 904 69 from w374.x _ _ rfl)
                    have w396 : 0 ≤ Xi T6 904 69 ∧ Xi T6 904 69 ≤ 2600 := hHT6.c _ _
                    have w397 : Xi T7 904 70 = Xi T6 904 70 := (show Xi T7 904 70 = Xi T6 904 70 from w374.x _ _ rfl)
                    have w398 : 0 ≤ Xi T6 904 70 ∧ Xi T6 904 70 ≤ 20 := hHT6.c _ _
                    have w399 : Xi T7 904 71 = Xi T6 904 71 := (show Xi T7 904 71 = Xi T6 904 71 from w374.x _ _ rfl)
                    have w400 : 0 ≤ Xi T6 904 71 ∧ Xi T6 904 71 ≤ 2600 := hHT6.c _ _
                    have w401 : Xi T7 904 72 = Xi T6 904 72 := (show Xi T7 904 72 = Xi T6 904 72 from w374.x _ _ rfl)
                    have w402 : 0 ≤ Xi T6 904 72 ∧ Xi T6 904 72 ≤ 2600 := hHT6.c _ _
                    have w403 : Xi T7 904 73 = Xi T6 904 73 := (show Xi T7 904 73 = Xi T6 904 73 from w374.x _ _ rfl)
                    have w404 : 0 ≤ Xi T6 904 73 ∧ Xi T6 904 73 ≤ 5 := hHT6.c _ _
                    have w405 : Xi T7 904 74 = Xi T6 904 74 := (show Xi T7 904 74 = Xi T6 904 74 from w374.x _ _ rfl)
                    have w406 : 0 ≤ Xi T6 904 74 ∧ Xi T6 904 74 ≤ 2600 := hHT6.c _ _
                    exact Rl_weak (ih133 _ (by omega) T7 hHT7 hFT7 (v1) (v2) (v3) ((v4 + 1)) (by omega) (by omega) (by omega) (by omega) (by omega) (by omega) (by omega) (by omega) (by omega) (by omega) (by omega) (by omega) (by omega) (by omega) (by omega) (by first | assumption | exact (by assumption : TXM T7)) (by first | assumption | exact (WYM_FR w374 rfl (by assumption : WYM T6))) (by first | assumption | exact (LXM_FR w374 rfl (by assumption : LXM T6))) (by first | assumption | exact (LCN_FR w374 rfl (by assumption : LCN T6))) ((GR_FR w374 rfl (by assumption : GR T6 S))) ((LXK.fr (by assumption : LXK T6 S (Xi S 904 15)) w374 rfl)) (by omega) (by omega) (by first | assumption | (have t : Xi T7 904 19 = Xi T6 904 19 := (by omega); rw [t]; assumption)) (by omega) (by omega) (by omega) (by omega) (by omega) rfl) (And.intro rfl (And.intro rfl (And.intro rfl (And.intro rfl (And.intro rfl (True.intro))))))
                  · refine l_aload_n rfl rfl ?_
                    refine l_iconst rfl ?_
                    refine l_aload_n rfl rfl ?_
                    refine l_gfr rfl rfl rfl rfl rfl (hHT7.r 904 67 950 rfl) ?_
                    refine l_iload_n rfl rfl ?_
                    refine l_iaload (n := 2600) rfl rfl (by omega) (by omega) (by unfold rg; omega) ?_
                    have w407 : 0 ≤ (Xi T7 950 ((v2).toNat)) ∧ (Xi T7 950 ((v2).toNat)) ≤ 5010 := hHT7.c _ _
                    have e172 : (Xi T7 950 ((v2).toNat)) ≤ n := by rw [(hFT7.cx 950 rfl _).1]; exact hrf _ (by omega) (by omega)
                    have w408 : Xi T7 904 106 = Xi T6 904 106 := (show Xi T7 904 106 = Xi T6 904 106 from w374.x _ _ rfl)
                    have w409 : 0 ≤ Xi T6 904 106 ∧ Xi T6 904 106 ≤ 9 := hHT6.c _ _
                    have w410 : Xi T7 904 110 = Xi T6 904 110 := (show Xi T7 904 110 = Xi T6 904 110 from w374.x _ _ rfl)
                    have w411 : 0 ≤ Xi T6 904 110 ∧ Xi T6 904 110 ≤ 15 := hHT6.c _ _
                    have w412 : Xi T7 904 112 = Xi T6 904 112 := (show Xi T7 904 112 = Xi T6 904 112 from w374.x _ _ rfl)
                    have w413 : 0 ≤ Xi T6 904 112 ∧ Xi T6 904 112 ≤ 6 := hHT6.c _ _
                    have w414 : Xi T7 904 15 = Xi T6 904 15 := (show Xi T7 904 15 = Xi T6 904 15 from w374.x _ _ rfl)
                    have w415 : 0 ≤ Xi T6 904 15 ∧ Xi T6 904 15 ≤ 300 := hHT6.c _ _
                    have w416 : Xi T7 904 16 = Xi T6 904 16 := (show Xi T7 904 16 = Xi T6 904 16 from w374.x _ _ rfl)
                    have w417 : 0 ≤ Xi T6 904 16 ∧ Xi T6 904 16 ≤ 16 := hHT6.c _ _
                    have w418 : Xi T7 904 19 = Xi T6 904 19 := (show Xi T7 904 19 = Xi T6 904 19 from w374.x _ _ rfl)
                    have w419 : 0 ≤ Xi T6 904 19 ∧ Xi T6 904 19 ≤ 24 := hHT6.c _ _
                    have w420 : Xi T7 904 23 = Xi T6 904 23 := (show Xi T7 904 23 = Xi T6 904 23 from w374.x _ _ rfl)
                    have w421 : 0 ≤ Xi T6 904 23 ∧ Xi T6 904 23 ≤ 24 := hHT6.c _ _
                    have w422 : Xi T7 904 32 = Xi T6 904 32 := (show Xi T7 904 32 = Xi T6 904 32 from w374.x _ _ rfl)
                    have w423 : 0 ≤ Xi T6 904 32 ∧ Xi T6 904 32 ≤ 12 := hHT6.c _ _
                    have w424 : Xi T7 904 60 = Xi T6 904 60 := (show Xi T7 904 60 = Xi T6 904 60 from w374.x _ _ rfl)
                    have w425 : -1 ≤ Xi T6 904 60 ∧ Xi T6 904 60 ≤ 23 := hHT6.c _ _
                    have w426 : Xi T7 904 69 = Xi T6 904 69 := (show Xi T7 904 69 = Xi T6 904 69 from w374.x _ _ rfl)
                    have w427 : 0 ≤ Xi T6 904 69 ∧ Xi T6 904 69 ≤ 2600 := hHT6.c _ _
                    have w428 : Xi T7 904 70 = Xi T6 904 70 := (show Xi T7 904 70 = Xi T6 904 70 from w374.x _ _ rfl)
                    have w429 : 0 ≤ Xi T6 904 70 ∧ Xi T6 904 70 ≤ 20 := hHT6.c _ _
                    have w430 : Xi T7 904 71 = Xi T6 904 71 := (show Xi T7 904 71 = Xi T6 904 71 from w374.x _ _ rfl)
                    have w431 : 0 ≤ Xi T6 904 71 ∧ Xi T6 904 71 ≤ 2600 := hHT6.c _ _
                    have w432 : Xi T7 904 72 = Xi T6 904 72 := (show Xi T7 904 72 = Xi T6 904 72 from w374.x _ _ rfl)
                    have w433 : 0 ≤ Xi T6 904 72 ∧ Xi T6 904 72 ≤ 2600 := hHT6.c _ _
                    have w434 : Xi T7 904 73 = Xi T6 904 73 := (show Xi T7 904 73 = Xi T6 904 73 from w374.x _ _ rfl)
                    have w435 : 0 ≤ Xi T6 904 73 ∧ Xi T6 904 73 ≤ 5 := hHT6.c _ _
                    have w436 : Xi T7 904 74 = Xi T6 904 74 := (show Xi T7 904 74 = Xi T6 904 74 from w374.x _ _ rfl)
                    have w437 : 0 ≤ Xi T6 904 74 ∧ Xi T6 904 74 ≤ 2600 := hHT6.c _ _
                    refine l_callV rfl rfl rfl (t_mo_wrong hHT7 5 (Xi T7 950 ((v2).toNat)) ⟨by omega, by omega⟩ ⟨by omega, by omega⟩ _) ?_
                    rintro _ T8 ⟨hHT8, w440, rfl, w438⟩
                    have hFT8 : FR md_mo_doDescribed S T8 := FR.tr hFT7 w440 rfl
                    show Rl _ _ _ _ _ [] _ _
                    refine l_iinc rfl rfl rfl rfl ?_
                    refine l_goto rfl rfl ?_
                    have w441 : 0 ≤ Xi T8 904 106 ∧ Xi T8 904 106 ≤ 9 := hHT8.c _ _
                    have w442 : Xi T8 904 110 = Xi T6 904 110 := (show Xi T8 904 110 = Xi T7 904 110 from w440.x _ _ rfl).trans ((show Xi T7 904 110 = Xi T6 904 110 from w374.x _ _ rfl))
                    have w443 : 0 ≤ Xi T6 904 110 ∧ Xi T6 904 110 ≤ 15 := hHT6.c _ _
                    have w444 : Xi T8 904 112 = Xi T6 904 112 := (show Xi T8 904 112 = Xi T7 904 112 from w440.x _ _ rfl).trans ((show Xi T7 904 112 = Xi T6 904 112 from w374.x _ _ rfl))
                    have w445 : 0 ≤ Xi T6 904 112 ∧ Xi T6 904 112 ≤ 6 := hHT6.c _ _
                    have w446 : Xi T8 904 15 = Xi T6 904 15 := (show Xi T8 904 15 = Xi T7 904 15 from w440.x _ _ rfl).trans ((show Xi T7 904 15 = Xi T6 904 15 from w374.x _ _ rfl))
                    have w447 : 0 ≤ Xi T6 904 15 ∧ Xi T6 904 15 ≤ 300 := hHT6.c _ _
                    have w448 : Xi T8 904 16 = Xi T6 904 16 := (show Xi T8 904 16 = Xi T7 904 16 from w440.x _ _ rfl).trans ((show Xi T7 904 16 = Xi T6 904 16 from w374.x _ _ rfl))
                    have w449 : 0 ≤ Xi T6 904 16 ∧ Xi T6 904 16 ≤ 16 := hHT6.c _ _
                    have w450 : Xi T8 904 19 = Xi T6 904 19 := (show Xi T8 904 19 = Xi T7 904 19 from w440.x _ _ rfl).trans ((show Xi T7 904 19 = Xi T6 904 19 from w374.x _ _ rfl))
                    have w451 : 0 ≤ Xi T6 904 19 ∧ Xi T6 904 19 ≤ 24 := hHT6.c _ _
                    have w452 : Xi T8 904 23 = Xi T6 904 23 := (show Xi T8 904 23 = Xi T7 904 23 from w440.x _ _ rfl).trans ((show Xi T7 904 23 = Xi T6 904 23 from w374.x _ _ rfl))
                    have w453 : 0 ≤ Xi T6 904 23 ∧ Xi T6 904 23 ≤ 24 := hHT6.c _ _
                    have w454 : Xi T8 904 32 = Xi T6 904 32 := (show Xi T8 904 32 = Xi T7 904 32 from w440.x _ _ rfl).trans ((show Xi T7 904 32 = Xi T6 904 32 from w374.x _ _ rfl))
                    have w455 : 0 ≤ Xi T6 904 32 ∧ Xi T6 904 32 ≤ 12 := hHT6.c _ _
                    have w456 : Xi T8 904 60 = Xi T6 904 60 := (show Xi T8 904 60 = Xi T7 904 60 from w440.x _ _ rfl).trans ((show Xi T7 904 60 = Xi T6 904 60 from w374.x _ _ rfl))
                    have w457 : -1 ≤ Xi T6 904 60 ∧ Xi T6 904 60 ≤ 23 := hHT6.c _ _
                    have w458 : Xi T8 904 69 = Xi T6 904 69 := (show Xi T8 904 69 = Xi T7 904 69 from w440.x _ _ rfl).trans ((show Xi T7 904 69 = Xi T6 904 69 from w374.x _ _ rfl))
                    have w459 : 0 ≤ Xi T6 904 69 ∧ Xi T6 904 69 ≤ 2600 := hHT6.c _ _
                    have w460 : Xi T8 904 70 = Xi T6 904 70 := (show Xi T8 904 70 = Xi T7 904 70 from w440.x _ _ rfl).trans ((show Xi T7 904 70 = Xi T6 904 70 from w374.x _ _ rfl))
                    have w461 : 0 ≤ Xi T6 904 70 ∧ Xi T6 904 70 ≤ 20 := hHT6.c _ _
                    have w462 : Xi T8 904 71 = Xi T6 904 71 := (show Xi T8 904 71 = Xi T7 904 71 from w440.x _ _ rfl).trans ((show Xi T7 904 71 = Xi T6 904 71 from w374.x _ _ rfl))
                    have w463 : 0 ≤ Xi T6 904 71 ∧ Xi T6 904 71 ≤ 2600 := hHT6.c _ _
                    have w464 : Xi T8 904 72 = Xi T6 904 72 := (show Xi T8 904 72 = Xi T7 904 72 from w440.x _ _ rfl).trans ((show Xi T7 904 72 = Xi T6 904 72 from w374.x _ _ rfl))
                    have w465 : 0 ≤ Xi T6 904 72 ∧ Xi T6 904 72 ≤ 2600 := hHT6.c _ _
                    have w466 : Xi T8 904 73 = Xi T6 904 73 := (show Xi T8 904 73 = Xi T7 904 73 from w440.x _ _ rfl).trans ((show Xi T7 904 73 = Xi T6 904 73 from w374.x _ _ rfl))
                    have w467 : 0 ≤ Xi T6 904 73 ∧ Xi T6 904 73 ≤ 5 := hHT6.c _ _
                    have w468 : Xi T8 904 74 = Xi T6 904 74 := (show Xi T8 904 74 = Xi T7 904 74 from w440.x _ _ rfl).trans ((show Xi T7 904 74 = Xi T6 904 74 from w374.x _ _ rfl))
                    have w469 : 0 ≤ Xi T6 904 74 ∧ Xi T6 904 74 ≤ 2600 := hHT6.c _ _
                    exact Rl_weak (ih133 _ (by omega) T8 hHT8 hFT8 (v1) (v2) (v3) ((v4 + 1)) (by omega) (by omega) (by omega) (by omega) (by omega) (by omega) (by omega) (by omega) (by omega) (by omega) (by omega) (by omega) (by omega) (by omega) (by omega) (by first | assumption | exact (TXM_FR w440 rfl (by assumption : TXM T7))) (by first | assumption | exact (WYM_FR w440 rfl (WYM_FR w374 rfl (by assumption : WYM T6)))) (by first | assumption | exact (LXM_FR w440 rfl (LXM_FR w374 rfl (by assumption : LXM T6)))) (by first | assumption | exact (LCN_FR w440 rfl (LCN_FR w374 rfl (by assumption : LCN T6)))) ((GR_FR w440 rfl (GR_FR w374 rfl (by assumption : GR T6 S)))) ((LXK.fr (LXK.fr (by assumption : LXK T6 S (Xi S 904 15)) w374 rfl) w440 rfl)) (by omega) (by omega) (by first | assumption | (have t : Xi T8 904 19 = Xi T6 904 19 := (by omega); rw [t]; assumption)) (by omega) (by omega) (by omega) (by omega) (by omega) rfl) (And.intro rfl (And.intro rfl (And.intro rfl (And.intro rfl (And.intro rfl (True.intro))))))
          refine l_iconst rfl ?_
          refine l_istore rfl rfl rfl ?_
          have w470 : 0 ≤ Xi T5 904 106 ∧ Xi T5 904 106 ≤ 9 := hHT5.c _ _
          have w471 : 0 ≤ Xi T5 904 110 ∧ Xi T5 904 110 ≤ 15 := hHT5.c _ _
          have w472 : 0 ≤ Xi T5 904 112 ∧ Xi T5 904 112 ≤ 6 := hHT5.c _ _
          have w473 : 0 ≤ Xi T5 904 15 ∧ Xi T5 904 15 ≤ 300 := hHT5.c _ _
          have w474 : 0 ≤ Xi T5 904 16 ∧ Xi T5 904 16 ≤ 16 := hHT5.c _ _
          have w475 : 0 ≤ Xi T5 904 19 ∧ Xi T5 904 19 ≤ 24 := hHT5.c _ _
          have w476 : 0 ≤ Xi T5 904 23 ∧ Xi T5 904 23 ≤ 24 := hHT5.c _ _
          have w477 : 0 ≤ Xi T5 904 32 ∧ Xi T5 904 32 ≤ 12 := hHT5.c _ _
          have w478 : -1 ≤ Xi T5 904 60 ∧ Xi T5 904 60 ≤ 23 := hHT5.c _ _
          have w479 : 0 ≤ Xi T5 904 69 ∧ Xi T5 904 69 ≤ 2600 := hHT5.c _ _
          have w480 : 0 ≤ Xi T5 904 70 ∧ Xi T5 904 70 ≤ 20 := hHT5.c _ _
          have w481 : 0 ≤ Xi T5 904 71 ∧ Xi T5 904 71 ≤ 2600 := hHT5.c _ _
          have w482 : 0 ≤ Xi T5 904 72 ∧ Xi T5 904 72 ≤ 2600 := hHT5.c _ _
          have w483 : 0 ≤ Xi T5 904 73 ∧ Xi T5 904 73 ≤ 5 := hHT5.c _ _
          have w484 : 0 ≤ Xi T5 904 74 ∧ Xi T5 904 74 ≤ 2600 := hHT5.c _ _
          exact Rl_weak (C133 _ T5 hHT5 hFT5 (v1) (v2) (v3) (0) (by omega) (by omega) (by omega) (by omega) (by omega) (by omega) (by omega) (by omega) (by omega) (by omega) (by omega) (by omega) (by omega) (by omega) (by omega) (by first | assumption | exact (by assumption : TXM T5)) (by first | assumption | exact (by assumption : WYM T5)) (by first | assumption | exact (by assumption : LXM T5)) (by first | assumption | exact (by assumption : LCN T5)) ((by assumption : GR T5 S)) ((by assumption : LXK T5 S (Xi S 904 15))) (by omega) (by omega) (by first | assumption | (have t : Xi T5 904 19 = Xi T5 904 19 := (by omega); rw [t]; assumption)) (by omega) (by omega) (by omega) (by omega) (by omega) rfl) (And.intro rfl (And.intro rfl (And.intro rfl (And.intro rfl (And.intro rfl (True.intro))))))
        refine l_aload_n rfl rfl ?_
        refine l_gfi rfl rfl rfl rfl rfl ?_
        refine l_bipush rfl rfl ?_
        refine l_icmp_eq rfl rfl (by unfold rg; omega) (by unfold rg; omega) (fun w485 => ?_) (fun w486 => ?_)
        · have w487 : 0 ≤ Xi T2 904 106 ∧ Xi T2 904 106 ≤ 9 := hHT2.c _ _
          have w488 : 0 ≤ Xi T2 904 110 ∧ Xi T2 904 110 ≤ 15 := hHT2.c _ _
          have w489 : 0 ≤ Xi T2 904 112 ∧ Xi T2 904 112 ≤ 6 := hHT2.c _ _
          have w490 : 0 ≤ Xi T2 904 15 ∧ Xi T2 904 15 ≤ 300 := hHT2.c _ _
          have w491 : 0 ≤ Xi T2 904 16 ∧ Xi T2 904 16 ≤ 16 := hHT2.c _ _
          have w492 : 0 ≤ Xi T2 904 19 ∧ Xi T2 904 19 ≤ 24 := hHT2.c _ _
          have w493 : 0 ≤ Xi T2 904 23 ∧ Xi T2 904 23 ≤ 24 := hHT2.c _ _
          have w494 : 0 ≤ Xi T2 904 32 ∧ Xi T2 904 32 ≤ 12 := hHT2.c _ _
          have w495 : -1 ≤ Xi T2 904 60 ∧ Xi T2 904 60 ≤ 23 := hHT2.c _ _
          have w496 : 0 ≤ Xi T2 904 69 ∧ Xi T2 904 69 ≤ 2600 := hHT2.c _ _
          have w497 : 0 ≤ Xi T2 904 70 ∧ Xi T2 904 70 ≤ 20 := hHT2.c _ _
          have w498 : 0 ≤ Xi T2 904 71 ∧ Xi T2 904 71 ≤ 2600 := hHT2.c _ _
          have w499 : 0 ≤ Xi T2 904 72 ∧ Xi T2 904 72 ≤ 2600 := hHT2.c _ _
          have w500 : 0 ≤ Xi T2 904 73 ∧ Xi T2 904 73 ≤ 5 := hHT2.c _ _
          have w501 : 0 ≤ Xi T2 904 74 ∧ Xi T2 904 74 ≤ 2600 := hHT2.c _ _
          exact Rl_weak (C182 T2 hHT2 hFT2 (v1) (v2) (v3) (by omega) (by omega) (by omega) (by omega) (by omega) (by omega) (by omega) (by omega) (by omega) (by omega) (by omega) (by omega) (by omega) (by omega) (by first | assumption | exact (by assumption : TXM T2)) (by first | assumption | exact (by assumption : WYM T2)) (by first | assumption | exact (by assumption : LXM T2)) (by first | assumption | exact (by assumption : LCN T2)) ((by assumption : GR T2 S)) ((by assumption : LXK T2 S (Xi S 904 15))) (by omega) (by omega) (by first | assumption | (have t : Xi T2 904 19 = Xi T2 904 19 := (by omega); rw [t]; assumption)) (by omega) (by omega) (by omega) (by omega)) (And.intro rfl (And.intro rfl (And.intro rfl (And.intro rfl (True.intro)))))
        · refine l_aload_n rfl rfl ?_
          refine l_aload_n rfl rfl ?_
          refine l_gfi rfl rfl rfl rfl rfl ?_
          have h74 : Xi S 904 110 < Xi S 904 16 := (hr (by omega)).1
          refine l_aload_n rfl rfl ?_
          refine l_gfr rfl rfl rfl rfl rfl (hHT2.r 904 20 918 rfl) ?_
          refine l_iload_n rfl rfl ?_
          refine l_iaload (n := 24) rfl rfl (by omega) (by omega) (by unfold rg; omega) ?_
          have w502 : 0 ≤ (Xi T2 918 ((v3).toNat)) ∧ (Xi T2 918 ((v3).toNat)) ≤ 15 := hHT2.c _ _
          have w503 : 0 ≤ Xi T2 904 106 ∧ Xi T2 904 106 ≤ 9 := hHT2.c _ _
          have w504 : 0 ≤ Xi T2 904 110 ∧ Xi T2 904 110 ≤ 15 := hHT2.c _ _
          have w505 : 0 ≤ Xi T2 904 112 ∧ Xi T2 904 112 ≤ 6 := hHT2.c _ _
          have w506 : 0 ≤ Xi T2 904 15 ∧ Xi T2 904 15 ≤ 300 := hHT2.c _ _
          have w507 : 0 ≤ Xi T2 904 16 ∧ Xi T2 904 16 ≤ 16 := hHT2.c _ _
          have w508 : 0 ≤ Xi T2 904 19 ∧ Xi T2 904 19 ≤ 24 := hHT2.c _ _
          have w509 : 0 ≤ Xi T2 904 23 ∧ Xi T2 904 23 ≤ 24 := hHT2.c _ _
          have w510 : 0 ≤ Xi T2 904 32 ∧ Xi T2 904 32 ≤ 12 := hHT2.c _ _
          have w511 : -1 ≤ Xi T2 904 60 ∧ Xi T2 904 60 ≤ 23 := hHT2.c _ _
          have w512 : 0 ≤ Xi T2 904 69 ∧ Xi T2 904 69 ≤ 2600 := hHT2.c _ _
          have w513 : 0 ≤ Xi T2 904 70 ∧ Xi T2 904 70 ≤ 20 := hHT2.c _ _
          have w514 : 0 ≤ Xi T2 904 71 ∧ Xi T2 904 71 ≤ 2600 := hHT2.c _ _
          have w515 : 0 ≤ Xi T2 904 72 ∧ Xi T2 904 72 ≤ 2600 := hHT2.c _ _
          have w516 : 0 ≤ Xi T2 904 73 ∧ Xi T2 904 73 ≤ 5 := hHT2.c _ _
          have w517 : 0 ≤ Xi T2 904 74 ∧ Xi T2 904 74 ≤ 2600 := hHT2.c _ _
          refine l_callV rfl rfl rfl (t_mo_isBelow hHT2 (Xi T2 904 110) (Xi T2 918 ((v3).toNat)) ⟨by omega, by omega⟩ ⟨by omega, by omega⟩ (by first | assumption | exact (ABV_FR hFT2 rfl (by assumption : ABV S))) _) ?_
          rintro _ _ ⟨rfl, z519, rfl, w519, w518⟩
          show Rl _ _ _ _ _ [iv z519] _ _
          refine l_if_eq rfl rfl (by unfold rg; omega) (fun w520 => ?_) (fun w521 => ?_)
          · refine l_aload_n rfl rfl ?_
            refine l_aload_n rfl rfl ?_
            refine l_gfr rfl rfl rfl rfl rfl (hHT2.r 904 20 918 rfl) ?_
            refine l_iload_n rfl rfl ?_
            refine l_iaload (n := 24) rfl rfl (by omega) (by omega) (by unfold rg; omega) ?_
            refine l_aload_n rfl rfl ?_
            refine l_gfi rfl rfl rfl rfl rfl ?_
            have w522 : 0 ≤ Xi T2 904 106 ∧ Xi T2 904 106 ≤ 9 := hHT2.c _ _
            have w523 : 0 ≤ Xi T2 904 110 ∧ Xi T2 904 110 ≤ 15 := hHT2.c _ _
            have w524 : 0 ≤ Xi T2 904 112 ∧ Xi T2 904 112 ≤ 6 := hHT2.c _ _
            have w525 : 0 ≤ Xi T2 904 15 ∧ Xi T2 904 15 ≤ 300 := hHT2.c _ _
            have w526 : 0 ≤ Xi T2 904 16 ∧ Xi T2 904 16 ≤ 16 := hHT2.c _ _
            have w527 : 0 ≤ Xi T2 904 19 ∧ Xi T2 904 19 ≤ 24 := hHT2.c _ _
            have w528 : 0 ≤ Xi T2 904 23 ∧ Xi T2 904 23 ≤ 24 := hHT2.c _ _
            have w529 : 0 ≤ Xi T2 904 32 ∧ Xi T2 904 32 ≤ 12 := hHT2.c _ _
            have w530 : -1 ≤ Xi T2 904 60 ∧ Xi T2 904 60 ≤ 23 := hHT2.c _ _
            have w531 : 0 ≤ Xi T2 904 69 ∧ Xi T2 904 69 ≤ 2600 := hHT2.c _ _
            have w532 : 0 ≤ Xi T2 904 70 ∧ Xi T2 904 70 ≤ 20 := hHT2.c _ _
            have w533 : 0 ≤ Xi T2 904 71 ∧ Xi T2 904 71 ≤ 2600 := hHT2.c _ _
            have w534 : 0 ≤ Xi T2 904 72 ∧ Xi T2 904 72 ≤ 2600 := hHT2.c _ _
            have w535 : 0 ≤ Xi T2 904 73 ∧ Xi T2 904 73 ≤ 5 := hHT2.c _ _
            have w536 : 0 ≤ Xi T2 904 74 ∧ Xi T2 904 74 ≤ 2600 := hHT2.c _ _
            refine l_callV rfl rfl rfl (t_mo_isBelow hHT2 (Xi T2 918 ((v3).toNat)) (Xi T2 904 110) ⟨by omega, by omega⟩ ⟨by omega, by omega⟩ (by first | assumption | exact (ABV_FR hFT2 rfl (by assumption : ABV S))) _) ?_
            rintro _ _ ⟨rfl, z538, rfl, w538, w537⟩
            show Rl _ _ _ _ _ [iv z538] _ _
            refine l_if_ne rfl rfl (by unfold rg; omega) (fun w539 => ?_) (fun w540 => ?_)
            · have w541 : 0 ≤ Xi T2 904 106 ∧ Xi T2 904 106 ≤ 9 := hHT2.c _ _
              have w542 : 0 ≤ Xi T2 904 110 ∧ Xi T2 904 110 ≤ 15 := hHT2.c _ _
              have w543 : 0 ≤ Xi T2 904 112 ∧ Xi T2 904 112 ≤ 6 := hHT2.c _ _
              have w544 : 0 ≤ Xi T2 904 15 ∧ Xi T2 904 15 ≤ 300 := hHT2.c _ _
              have w545 : 0 ≤ Xi T2 904 16 ∧ Xi T2 904 16 ≤ 16 := hHT2.c _ _
              have w546 : 0 ≤ Xi T2 904 19 ∧ Xi T2 904 19 ≤ 24 := hHT2.c _ _
              have w547 : 0 ≤ Xi T2 904 23 ∧ Xi T2 904 23 ≤ 24 := hHT2.c _ _
              have w548 : 0 ≤ Xi T2 904 32 ∧ Xi T2 904 32 ≤ 12 := hHT2.c _ _
              have w549 : -1 ≤ Xi T2 904 60 ∧ Xi T2 904 60 ≤ 23 := hHT2.c _ _
              have w550 : 0 ≤ Xi T2 904 69 ∧ Xi T2 904 69 ≤ 2600 := hHT2.c _ _
              have w551 : 0 ≤ Xi T2 904 70 ∧ Xi T2 904 70 ≤ 20 := hHT2.c _ _
              have w552 : 0 ≤ Xi T2 904 71 ∧ Xi T2 904 71 ≤ 2600 := hHT2.c _ _
              have w553 : 0 ≤ Xi T2 904 72 ∧ Xi T2 904 72 ≤ 2600 := hHT2.c _ _
              have w554 : 0 ≤ Xi T2 904 73 ∧ Xi T2 904 73 ≤ 5 := hHT2.c _ _
              have w555 : 0 ≤ Xi T2 904 74 ∧ Xi T2 904 74 ≤ 2600 := hHT2.c _ _
              exact Rl_weak (C130 T2 hHT2 hFT2 (v1) (v2) (v3) (by omega) (by omega) (by omega) (by omega) (by omega) (by omega) (by omega) (by omega) (by omega) (by omega) (by omega) (by omega) (by omega) (by omega) (by first | assumption | exact (by assumption : TXM T2)) (by first | assumption | exact (by assumption : WYM T2)) (by first | assumption | exact (by assumption : LXM T2)) (by first | assumption | exact (by assumption : LCN T2)) ((by assumption : GR T2 S)) ((by assumption : LXK T2 S (Xi S 904 15))) (by omega) (by omega) (by first | assumption | (have t : Xi T2 904 19 = Xi T2 904 19 := (by omega); rw [t]; assumption)) (by omega) (by omega) (by omega) (by omega) (by omega)) (And.intro rfl (And.intro rfl (And.intro rfl (And.intro rfl (True.intro)))))
            · refine l_aload_n rfl rfl ?_
              refine l_iconst rfl ?_
              refine l_aload_n rfl rfl ?_
              refine l_gfr rfl rfl rfl rfl rfl (hHT2.r 904 67 950 rfl) ?_
              refine l_iload_n rfl rfl ?_
              refine l_iaload (n := 2600) rfl rfl (by omega) (by omega) (by unfold rg; omega) ?_
              have w556 : 0 ≤ (Xi T2 950 ((v2).toNat)) ∧ (Xi T2 950 ((v2).toNat)) ≤ 5010 := hHT2.c _ _
              have e126 : (Xi T2 950 ((v2).toNat)) ≤ n := by rw [(hFT2.cx 950 rfl _).1]; exact hrf _ (by omega) (by omega)
              have w557 : 0 ≤ Xi T2 904 106 ∧ Xi T2 904 106 ≤ 9 := hHT2.c _ _
              have w558 : 0 ≤ Xi T2 904 110 ∧ Xi T2 904 110 ≤ 15 := hHT2.c _ _
              have w559 : 0 ≤ Xi T2 904 112 ∧ Xi T2 904 112 ≤ 6 := hHT2.c _ _
              have w560 : 0 ≤ Xi T2 904 15 ∧ Xi T2 904 15 ≤ 300 := hHT2.c _ _
              have w561 : 0 ≤ Xi T2 904 16 ∧ Xi T2 904 16 ≤ 16 := hHT2.c _ _
              have w562 : 0 ≤ Xi T2 904 19 ∧ Xi T2 904 19 ≤ 24 := hHT2.c _ _
              have w563 : 0 ≤ Xi T2 904 23 ∧ Xi T2 904 23 ≤ 24 := hHT2.c _ _
              have w564 : 0 ≤ Xi T2 904 32 ∧ Xi T2 904 32 ≤ 12 := hHT2.c _ _
              have w565 : -1 ≤ Xi T2 904 60 ∧ Xi T2 904 60 ≤ 23 := hHT2.c _ _
              have w566 : 0 ≤ Xi T2 904 69 ∧ Xi T2 904 69 ≤ 2600 := hHT2.c _ _
              have w567 : 0 ≤ Xi T2 904 70 ∧ Xi T2 904 70 ≤ 20 := hHT2.c _ _
              have w568 : 0 ≤ Xi T2 904 71 ∧ Xi T2 904 71 ≤ 2600 := hHT2.c _ _
              have w569 : 0 ≤ Xi T2 904 72 ∧ Xi T2 904 72 ≤ 2600 := hHT2.c _ _
              have w570 : 0 ≤ Xi T2 904 73 ∧ Xi T2 904 73 ≤ 5 := hHT2.c _ _
              have w571 : 0 ≤ Xi T2 904 74 ∧ Xi T2 904 74 ≤ 2600 := hHT2.c _ _
              refine l_callV rfl rfl rfl (t_mo_wrong hHT2 5 (Xi T2 950 ((v2).toNat)) ⟨by omega, by omega⟩ ⟨by omega, by omega⟩ _) ?_
              rintro _ T9 ⟨hHT9, w574, rfl, w572⟩
              have hFT9 : FR md_mo_doDescribed S T9 := FR.tr hFT2 w574 rfl
              show Rl _ _ _ _ _ [] _ _
              have w575 : 0 ≤ Xi T9 904 106 ∧ Xi T9 904 106 ≤ 9 := hHT9.c _ _
              have w576 : Xi T9 904 110 = Xi T2 904 110 := (show Xi T9 904 110 = Xi T2 904 110 from w574.x _ _ rfl)
              have w577 : 0 ≤ Xi T2 904 110 ∧ Xi T2 904 110 ≤ 15 := hHT2.c _ _
              have w578 : Xi T9 904 112 = Xi T2 904 112 := (show Xi T9 904 112 = Xi T2 904 112 from w574.x _ _ rfl)
              have w579 : 0 ≤ Xi T2 904 112 ∧ Xi T2 904 112 ≤ 6 := hHT2.c _ _
              have w580 : Xi T9 904 15 = Xi T2 904 15 := (show Xi T9 904 15 = Xi T2 904 15 from w574.x _ _ rfl)
              have w581 : 0 ≤ Xi T2 904 15 ∧ Xi T2 904 15 ≤ 300 := hHT2.c _ _
              have w582 : Xi T9 904 16 = Xi T2 904 16 := (show Xi T9 904 16 = Xi T2 904 16 from w574.x _ _ rfl)
              have w583 : 0 ≤ Xi T2 904 16 ∧ Xi T2 904 16 ≤ 16 := hHT2.c _ _
              have w584 : Xi T9 904 19 = Xi T2 904 19 := (show Xi T9 904 19 = Xi T2 904 19 from w574.x _ _ rfl)
              have w585 : 0 ≤ Xi T2 904 19 ∧ Xi T2 904 19 ≤ 24 := hHT2.c _ _
              have w586 : Xi T9 904 23 = Xi T2 904 23 := (show Xi T9 904 23 = Xi T2 904 23 from w574.x _ _ rfl)
              have w587 : 0 ≤ Xi T2 904 23 ∧ Xi T2 904 23 ≤ 24 := hHT2.c _ _
              have w588 : Xi T9 904 32 = Xi T2 904 32 := (show Xi T9 904 32 = Xi T2 904 32 from w574.x _ _ rfl)
              have w589 : 0 ≤ Xi T2 904 32 ∧ Xi T2 904 32 ≤ 12 := hHT2.c _ _
              have w590 : Xi T9 904 60 = Xi T2 904 60 := (show Xi T9 904 60 = Xi T2 904 60 from w574.x _ _ rfl)
              have w591 : -1 ≤ Xi T2 904 60 ∧ Xi T2 904 60 ≤ 23 := hHT2.c _ _
              have w592 : Xi T9 904 69 = Xi T2 904 69 := (show Xi T9 904 69 = Xi T2 904 69 from w574.x _ _ rfl)
              have w593 : 0 ≤ Xi T2 904 69 ∧ Xi T2 904 69 ≤ 2600 := hHT2.c _ _
              have w594 : Xi T9 904 70 = Xi T2 904 70 := (show Xi T9 904 70 = Xi T2 904 70 from w574.x _ _ rfl)
              have w595 : 0 ≤ Xi T2 904 70 ∧ Xi T2 904 70 ≤ 20 := hHT2.c _ _
              have w596 : Xi T9 904 71 = Xi T2 904 71 := (show Xi T9 904 71 = Xi T2 904 71 from w574.x _ _ rfl)
              have w597 : 0 ≤ Xi T2 904 71 ∧ Xi T2 904 71 ≤ 2600 := hHT2.c _ _
              have w598 : Xi T9 904 72 = Xi T2 904 72 := (show Xi T9 904 72 = Xi T2 904 72 from w574.x _ _ rfl)
              have w599 : 0 ≤ Xi T2 904 72 ∧ Xi T2 904 72 ≤ 2600 := hHT2.c _ _
              have w600 : Xi T9 904 73 = Xi T2 904 73 := (show Xi T9 904 73 = Xi T2 904 73 from w574.x _ _ rfl)
              have w601 : 0 ≤ Xi T2 904 73 ∧ Xi T2 904 73 ≤ 5 := hHT2.c _ _
              have w602 : Xi T9 904 74 = Xi T2 904 74 := (show Xi T9 904 74 = Xi T2 904 74 from w574.x _ _ rfl)
              have w603 : 0 ≤ Xi T2 904 74 ∧ Xi T2 904 74 ≤ 2600 := hHT2.c _ _
              exact Rl_weak (C130 T9 hHT9 hFT9 (v1) (v2) (v3) (by omega) (by omega) (by omega) (by omega) (by omega) (by omega) (by omega) (by omega) (by omega) (by omega) (by omega) (by omega) (by omega) (by omega) (by first | assumption | exact (TXM_FR w574 rfl (by assumption : TXM T2))) (by first | assumption | exact (WYM_FR w574 rfl (by assumption : WYM T2))) (by first | assumption | exact (LXM_FR w574 rfl (by assumption : LXM T2))) (by first | assumption | exact (LCN_FR w574 rfl (by assumption : LCN T2))) ((GR_FR w574 rfl (by assumption : GR T2 S))) ((LXK.fr (by assumption : LXK T2 S (Xi S 904 15)) w574 rfl)) (by omega) (by omega) (by first | assumption | (have t : Xi T9 904 19 = Xi T2 904 19 := (by omega); rw [t]; assumption)) (by omega) (by omega) (by omega) (by omega) (by omega)) (And.intro rfl (And.intro rfl (And.intro rfl (And.intro rfl (True.intro)))))
          · refine l_aload_n rfl rfl ?_
            refine l_gfr rfl rfl rfl rfl rfl (hHT2.r 904 20 918 rfl) ?_
            refine l_iload_n rfl rfl ?_
            refine l_aload_n rfl rfl ?_
            refine l_gfi rfl rfl rfl rfl rfl ?_
            refine l_iastore (n := 24) rfl rfl (by omega) (by omega) (by unfold rg; omega) ?_
            obtain ⟨U10, eU10⟩ : ∃ T : sS, T = uI T2 918 ((v3).toNat) (Int32.ofInt (Xi T2 904 110)) := ⟨_, rfl⟩
            rw [← eU10]
            have hHU10 : HI U10 := by rw [eU10]; exact HI_w hHT2 (show 0 ≤ (Xi T2 904 110) by omega) (show (Xi T2 904 110) ≤ 15 by omega)
            have hFU10 : FR md_mo_doDescribed S U10 := by rw [eU10]; exact FR.wI hFT2 (mdf_i (r := (918, 919, 0, 100000)) (List.mem_of_getElem? (i := 10) rfl) (inR_i (by omega) (by omega) (by omega) (by omega)))
            have w604 : Xi U10 918 ((v3).toNat) = (Xi T2 904 110) := by rw [eU10]; exact Xi_same (by unfold rg; omega)
            have X98 : TXM U10 := txm_kw (by assumption : TXM T2) eU10 (by unfold rg; omega) (by omega)
            refine l_goto rfl rfl ?_
            have w605 : Xi U10 904 106 = Xi T2 904 106 := (show Xi U10 904 106 = Xi T2 904 106 from by rw [eU10]; exact Xi_ne (by omega))
            have w606 : 0 ≤ Xi T2 904 106 ∧ Xi T2 904 106 ≤ 9 := hHT2.c _ _
            have w607 : Xi U10 904 110 = Xi T2 904 110 := (show Xi U10 904 110 = Xi T2 904 110 from by rw [eU10]; exact Xi_ne (by omega))
            have w608 : 0 ≤ Xi T2 904 110 ∧ Xi T2 904 110 ≤ 15 := hHT2.c _ _
            have w609 : Xi U10 904 112 = Xi T2 904 112 := (show Xi U10 904 112 = Xi T2 904 112 from by rw [eU10]; exact Xi_ne (by omega))
            have w610 : 0 ≤ Xi T2 904 112 ∧ Xi T2 904 112 ≤ 6 := hHT2.c _ _
            have w611 : Xi U10 904 15 = Xi T2 904 15 := (show Xi U10 904 15 = Xi T2 904 15 from by rw [eU10]; exact Xi_ne (by omega))
            have w612 : 0 ≤ Xi T2 904 15 ∧ Xi T2 904 15 ≤ 300 := hHT2.c _ _
            have w613 : Xi U10 904 16 = Xi T2 904 16 := (show Xi U10 904 16 = Xi T2 904 16 from by rw [eU10]; exact Xi_ne (by omega))
            have w614 : 0 ≤ Xi T2 904 16 ∧ Xi T2 904 16 ≤ 16 := hHT2.c _ _
            have w615 : Xi U10 904 19 = Xi T2 904 19 := (show Xi U10 904 19 = Xi T2 904 19 from by rw [eU10]; exact Xi_ne (by omega))
            have w616 : 0 ≤ Xi T2 904 19 ∧ Xi T2 904 19 ≤ 24 := hHT2.c _ _
            have w617 : Xi U10 904 23 = Xi T2 904 23 := (show Xi U10 904 23 = Xi T2 904 23 from by rw [eU10]; exact Xi_ne (by omega))
            have w618 : 0 ≤ Xi T2 904 23 ∧ Xi T2 904 23 ≤ 24 := hHT2.c _ _
            have w619 : Xi U10 904 32 = Xi T2 904 32 := (show Xi U10 904 32 = Xi T2 904 32 from by rw [eU10]; exact Xi_ne (by omega))
            have w620 : 0 ≤ Xi T2 904 32 ∧ Xi T2 904 32 ≤ 12 := hHT2.c _ _
            have w621 : Xi U10 904 60 = Xi T2 904 60 := (show Xi U10 904 60 = Xi T2 904 60 from by rw [eU10]; exact Xi_ne (by omega))
            have w622 : -1 ≤ Xi T2 904 60 ∧ Xi T2 904 60 ≤ 23 := hHT2.c _ _
            have w623 : Xi U10 904 69 = Xi T2 904 69 := (show Xi U10 904 69 = Xi T2 904 69 from by rw [eU10]; exact Xi_ne (by omega))
            have w624 : 0 ≤ Xi T2 904 69 ∧ Xi T2 904 69 ≤ 2600 := hHT2.c _ _
            have w625 : Xi U10 904 70 = Xi T2 904 70 := (show Xi U10 904 70 = Xi T2 904 70 from by rw [eU10]; exact Xi_ne (by omega))
            have w626 : 0 ≤ Xi T2 904 70 ∧ Xi T2 904 70 ≤ 20 := hHT2.c _ _
            have w627 : Xi U10 904 71 = Xi T2 904 71 := (show Xi U10 904 71 = Xi T2 904 71 from by rw [eU10]; exact Xi_ne (by omega))
            have w628 : 0 ≤ Xi T2 904 71 ∧ Xi T2 904 71 ≤ 2600 := hHT2.c _ _
            have w629 : Xi U10 904 72 = Xi T2 904 72 := (show Xi U10 904 72 = Xi T2 904 72 from by rw [eU10]; exact Xi_ne (by omega))
            have w630 : 0 ≤ Xi T2 904 72 ∧ Xi T2 904 72 ≤ 2600 := hHT2.c _ _
            have w631 : Xi U10 904 73 = Xi T2 904 73 := (show Xi U10 904 73 = Xi T2 904 73 from by rw [eU10]; exact Xi_ne (by omega))
            have w632 : 0 ≤ Xi T2 904 73 ∧ Xi T2 904 73 ≤ 5 := hHT2.c _ _
            have w633 : Xi U10 904 74 = Xi T2 904 74 := (show Xi U10 904 74 = Xi T2 904 74 from by rw [eU10]; exact Xi_ne (by omega))
            have w634 : 0 ≤ Xi T2 904 74 ∧ Xi T2 904 74 ≤ 2600 := hHT2.c _ _
            exact Rl_weak (C130 U10 hHU10 hFU10 (v1) (v2) (v3) (by omega) (by omega) (by omega) (by omega) (by omega) (by omega) (by omega) (by omega) (by omega) (by omega) (by omega) (by omega) (by omega) (by omega) (by first | assumption | exact (by assumption : TXM U10)) (by first | assumption | exact (WYM_FR (FR_e eU10) rfl (by assumption : WYM T2))) (by first | assumption | exact (LXM_FR (FR_e eU10) rfl (by assumption : LXM T2))) (by first | assumption | exact (LCN_FR (FR_e eU10) rfl (by assumption : LCN T2))) ((GR_FR (FR_e eU10) rfl (by assumption : GR T2 S))) ((LXK.fr (by assumption : LXK T2 S (Xi S 904 15)) (FR_e eU10) rfl)) (by omega) (by omega) (by first | assumption | (have t : Xi U10 904 19 = Xi T2 904 19 := (by omega); rw [t]; assumption)) (by omega) (by omega) (by omega) (by omega) (by omega)) (And.intro rfl (And.intro rfl (And.intro rfl (And.intro rfl (True.intro)))))
      refine l_iload_n rfl rfl ?_
      refine l_aload_n rfl rfl ?_
      refine l_gfi rfl rfl rfl rfl rfl ?_
      refine l_icmp_ge rfl rfl (by unfold rg; omega) (by unfold rg; omega) (fun w635 => ?_) (fun w636 => ?_)
      · refine l_return rfl rfl ?_
        have w637 : 0 ≤ Xi T1 904 106 ∧ Xi T1 904 106 ≤ 9 := hHT1.c _ _
        have w638 : 0 ≤ Xi T1 904 110 ∧ Xi T1 904 110 ≤ 15 := hHT1.c _ _
        have w639 : 0 ≤ Xi T1 904 112 ∧ Xi T1 904 112 ≤ 6 := hHT1.c _ _
        have w640 : 0 ≤ Xi T1 904 15 ∧ Xi T1 904 15 ≤ 300 := hHT1.c _ _
        have w641 : 0 ≤ Xi T1 904 16 ∧ Xi T1 904 16 ≤ 16 := hHT1.c _ _
        have w642 : 0 ≤ Xi T1 904 19 ∧ Xi T1 904 19 ≤ 24 := hHT1.c _ _
        have w643 : 0 ≤ Xi T1 904 23 ∧ Xi T1 904 23 ≤ 24 := hHT1.c _ _
        have w644 : 0 ≤ Xi T1 904 32 ∧ Xi T1 904 32 ≤ 12 := hHT1.c _ _
        have w645 : -1 ≤ Xi T1 904 60 ∧ Xi T1 904 60 ≤ 23 := hHT1.c _ _
        have w646 : 0 ≤ Xi T1 904 69 ∧ Xi T1 904 69 ≤ 2600 := hHT1.c _ _
        have w647 : 0 ≤ Xi T1 904 70 ∧ Xi T1 904 70 ≤ 20 := hHT1.c _ _
        have w648 : 0 ≤ Xi T1 904 71 ∧ Xi T1 904 71 ≤ 2600 := hHT1.c _ _
        have w649 : 0 ≤ Xi T1 904 72 ∧ Xi T1 904 72 ≤ 2600 := hHT1.c _ _
        have w650 : 0 ≤ Xi T1 904 73 ∧ Xi T1 904 73 ≤ 5 := hHT1.c _ _
        have w651 : 0 ≤ Xi T1 904 74 ∧ Xi T1 904 74 ≤ 2600 := hHT1.c _ _
        exact ⟨hHT1, hFT1, rfl, (X2), (W2), (M2), (L2), (G2), (by omega)⟩
      · refine l_aload_n rfl rfl ?_
        refine l_gfi rfl rfl rfl rfl rfl ?_
        have w652 : 0 ≤ (Xi T1 904 106) ∧ (Xi T1 904 106) ≤ 9 := hHT1.c _ _
        refine l_if_ne rfl rfl (by unfold rg; omega) (fun w653 => ?_) (fun w654 => ?_)
        · refine l_return rfl rfl ?_
          have w655 : 0 ≤ Xi T1 904 106 ∧ Xi T1 904 106 ≤ 9 := hHT1.c _ _
          have w656 : 0 ≤ Xi T1 904 110 ∧ Xi T1 904 110 ≤ 15 := hHT1.c _ _
          have w657 : 0 ≤ Xi T1 904 112 ∧ Xi T1 904 112 ≤ 6 := hHT1.c _ _
          have w658 : 0 ≤ Xi T1 904 15 ∧ Xi T1 904 15 ≤ 300 := hHT1.c _ _
          have w659 : 0 ≤ Xi T1 904 16 ∧ Xi T1 904 16 ≤ 16 := hHT1.c _ _
          have w660 : 0 ≤ Xi T1 904 19 ∧ Xi T1 904 19 ≤ 24 := hHT1.c _ _
          have w661 : 0 ≤ Xi T1 904 23 ∧ Xi T1 904 23 ≤ 24 := hHT1.c _ _
          have w662 : 0 ≤ Xi T1 904 32 ∧ Xi T1 904 32 ≤ 12 := hHT1.c _ _
          have w663 : -1 ≤ Xi T1 904 60 ∧ Xi T1 904 60 ≤ 23 := hHT1.c _ _
          have w664 : 0 ≤ Xi T1 904 69 ∧ Xi T1 904 69 ≤ 2600 := hHT1.c _ _
          have w665 : 0 ≤ Xi T1 904 70 ∧ Xi T1 904 70 ≤ 20 := hHT1.c _ _
          have w666 : 0 ≤ Xi T1 904 71 ∧ Xi T1 904 71 ≤ 2600 := hHT1.c _ _
          have w667 : 0 ≤ Xi T1 904 72 ∧ Xi T1 904 72 ≤ 2600 := hHT1.c _ _
          have w668 : 0 ≤ Xi T1 904 73 ∧ Xi T1 904 73 ≤ 5 := hHT1.c _ _
          have w669 : 0 ≤ Xi T1 904 74 ∧ Xi T1 904 74 ≤ 2600 := hHT1.c _ _
          exact ⟨hHT1, hFT1, rfl, (X2), (W2), (M2), (L2), (G2), (by omega)⟩
        · refine l_aload_n rfl rfl ?_
          refine l_gfi rfl rfl rfl rfl rfl ?_
          refine l_iload_n rfl rfl ?_
          refine l_iadd rfl ?_
          refine l_istore_n rfl rfl rfl ?_
          refine l_aload_n rfl rfl ?_
          refine l_iload_n rfl rfl ?_
          refine l_aload_n rfl rfl ?_
          refine l_gfi rfl rfl rfl rfl rfl ?_
          refine l_bipush rfl rfl ?_
          refine l_icmp_ne rfl rfl (by unfold rg; omega) (by unfold rg; omega) (fun w670 => ?_) (fun w671 => ?_)
          · refine l_aload_n rfl rfl ?_
            refine l_gfi rfl rfl rfl rfl rfl ?_
            have h40 : Xi S 904 110 < Xi S 904 16 := (hr (by omega)).1
            have w672 : 0 ≤ Xi T1 904 106 ∧ Xi T1 904 106 ≤ 9 := hHT1.c _ _
            have w673 : 0 ≤ Xi T1 904 110 ∧ Xi T1 904 110 ≤ 15 := hHT1.c _ _
            have w674 : 0 ≤ Xi T1 904 112 ∧ Xi T1 904 112 ≤ 6 := hHT1.c _ _
            have w675 : 0 ≤ Xi T1 904 15 ∧ Xi T1 904 15 ≤ 300 := hHT1.c _ _
            have w676 : 0 ≤ Xi T1 904 16 ∧ Xi T1 904 16 ≤ 16 := hHT1.c _ _
            have w677 : 0 ≤ Xi T1 904 19 ∧ Xi T1 904 19 ≤ 24 := hHT1.c _ _
            have w678 : 0 ≤ Xi T1 904 23 ∧ Xi T1 904 23 ≤ 24 := hHT1.c _ _
            have w679 : 0 ≤ Xi T1 904 32 ∧ Xi T1 904 32 ≤ 12 := hHT1.c _ _
            have w680 : -1 ≤ Xi T1 904 60 ∧ Xi T1 904 60 ≤ 23 := hHT1.c _ _
            have w681 : 0 ≤ Xi T1 904 69 ∧ Xi T1 904 69 ≤ 2600 := hHT1.c _ _
            have w682 : 0 ≤ Xi T1 904 70 ∧ Xi T1 904 70 ≤ 20 := hHT1.c _ _
            have w683 : 0 ≤ Xi T1 904 71 ∧ Xi T1 904 71 ≤ 2600 := hHT1.c _ _
            have w684 : 0 ≤ Xi T1 904 72 ∧ Xi T1 904 72 ≤ 2600 := hHT1.c _ _
            have w685 : 0 ≤ Xi T1 904 73 ∧ Xi T1 904 73 ≤ 5 := hHT1.c _ _
            have w686 : 0 ≤ Xi T1 904 74 ∧ Xi T1 904 74 ≤ 2600 := hHT1.c _ _
            refine l_callV rfl rfl rfl (t_mo_objectTold hHT1 n ((Xi T1 904 71) + v1) (Xi T1 904 110) ⟨by omega, by omega⟩ ⟨by omega, by omega⟩ (by first | assumption | exact (TK_FR hFT1 rfl (by assumption : TK S _))) (by first | assumption | exact (RNV_FR hFT1 rfl (by assumption : RNV S _))) (by first | assumption | exact (by assumption : LXM T1)) (by first | assumption | omega) (by first | assumption | exact (by assumption : TXM T1)) (by first | assumption | exact (by assumption : WYM T1)) (by first | assumption | exact (by assumption : LCN T1)) (by first | assumption | omega) (on_at hO K2 (by omega) (by omega) (fun j => (hFT1.cx 910 rfl j).2) (fun j => (hFT1.cx 950 rfl j).1) (fun j => (hFT1.cx 951 rfl j).1) ⟨by omega, by omega⟩ (by omega) N2) _) ?_
            rintro _ T11 ⟨hHT11, w694, z693, rfl, w693, w687, c43, w688, w689, w690, w691, g43, k43, w692⟩
            have hFT11 : FR md_mo_doDescribed S T11 := FR.tr hFT1 w694 rfl
            show Rl _ _ _ _ _ [iv z693] _ _
            have N43 : Xi T11 904 19 ≤ Xi S 904 19 + cnR S (Xi S 904 71) 4 (v1 + 1).toNat := on_nx K2 (by omega) (by omega) (fun j => (hFT1.cx 910 rfl j).2) (fun j => (hFT1.cx 950 rfl j).1) (fun j => (hFT1.cx 951 rfl j).1) (by omega) (by omega) N2 c43
            have q43 : Xi T1 904 19 ≤ Xi T11 904 19 ∧ Xi T11 904 19 ≤ Xi T1 904 19 + 1 := ⟨c43.1, c43.2.1⟩
            clear c43
            refine l_istore_n rfl rfl rfl ?_
            refine l_aload_n rfl rfl ?_
            refine l_iload_n rfl rfl ?_
            refine l_if_ne rfl rfl (by unfold rg; omega) (fun w695 => ?_) (fun w696 => ?_)
            · refine l_aload_n rfl rfl ?_
              refine l_gfi rfl rfl rfl rfl rfl ?_
              have w697 : (Xi T11 904 60) = (Xi T1 904 60) := (show Xi T11 904 60 = Xi T1 904 60 from w694.x _ _ rfl)
              rw [w697]
              refine l_pfi rfl rfl rfl rfl ?_
              obtain ⟨U12, eU12⟩ : ∃ T : sS, T = uI T11 904 60 (Int32.ofInt (Xi T1 904 60)) := ⟨_, rfl⟩
              rw [← eU12]
              have hHU12 : HI U12 := by rw [eU12]; exact HI_w hHT11 (show -1 ≤ (Xi T1 904 60) by omega) (show (Xi T1 904 60) ≤ 23 by omega)
              have hFU12 : FR md_mo_doDescribed S U12 := by rw [eU12]; exact FR.wI hFT11 (mdf_i (r := (904, 905, 60, 61)) (List.mem_of_getElem? (i := 2) rfl) (inR_i (by omega) (by omega) (by omega) (by omega)))
              have w698 : Xi U12 904 60 = (Xi T1 904 60) := by rw [eU12]; exact Xi_same (by unfold rg; omega)
              have w699 : Xi U12 904 106 = Xi T1 904 106 := (show Xi U12 904 106 = Xi T11 904 106 from by rw [eU12]; exact Xi_ne (by omega)).trans ((show Xi T11 904 106 = Xi T1 904 106 from w694.x _ _ rfl))
              have w700 : 0 ≤ Xi T1 904 106 ∧ Xi T1 904 106 ≤ 9 := hHT1.c _ _
              have w701 : Xi U12 904 110 = Xi T1 904 110 := (show Xi U12 904 110 = Xi T11 904 110 from by rw [eU12]; exact Xi_ne (by omega)).trans ((show Xi T11 904 110 = Xi T1 904 110 from w694.x _ _ rfl))
              have w702 : 0 ≤ Xi T1 904 110 ∧ Xi T1 904 110 ≤ 15 := hHT1.c _ _
              have w703 : Xi U12 904 112 = Xi T1 904 112 := (show Xi U12 904 112 = Xi T11 904 112 from by rw [eU12]; exact Xi_ne (by omega)).trans ((show Xi T11 904 112 = Xi T1 904 112 from w694.x _ _ rfl))
              have w704 : 0 ≤ Xi T1 904 112 ∧ Xi T1 904 112 ≤ 6 := hHT1.c _ _
              have w705 : Xi U12 904 15 = Xi T11 904 15 := (show Xi U12 904 15 = Xi T11 904 15 from by rw [eU12]; exact Xi_ne (by omega))
              have w706 : 0 ≤ Xi T11 904 15 ∧ Xi T11 904 15 ≤ 300 := hHT11.c _ _
              have w707 : Xi U12 904 16 = Xi T1 904 16 := (show Xi U12 904 16 = Xi T11 904 16 from by rw [eU12]; exact Xi_ne (by omega)).trans ((show Xi T11 904 16 = Xi T1 904 16 from w694.x _ _ rfl))
              have w708 : 0 ≤ Xi T1 904 16 ∧ Xi T1 904 16 ≤ 16 := hHT1.c _ _
              have w709 : Xi U12 904 19 = Xi T11 904 19 := (show Xi U12 904 19 = Xi T11 904 19 from by rw [eU12]; exact Xi_ne (by omega))
              have w710 : 0 ≤ Xi T11 904 19 ∧ Xi T11 904 19 ≤ 24 := hHT11.c _ _
              have w711 : Xi U12 904 23 = Xi T1 904 23 := (show Xi U12 904 23 = Xi T11 904 23 from by rw [eU12]; exact Xi_ne (by omega)).trans ((show Xi T11 904 23 = Xi T1 904 23 from w694.x _ _ rfl))
              have w712 : 0 ≤ Xi T1 904 23 ∧ Xi T1 904 23 ≤ 24 := hHT1.c _ _
              have w713 : Xi U12 904 32 = Xi T1 904 32 := (show Xi U12 904 32 = Xi T11 904 32 from by rw [eU12]; exact Xi_ne (by omega)).trans ((show Xi T11 904 32 = Xi T1 904 32 from w694.x _ _ rfl))
              have w714 : 0 ≤ Xi T1 904 32 ∧ Xi T1 904 32 ≤ 12 := hHT1.c _ _
              have w715 : -1 ≤ Xi U12 904 60 ∧ Xi U12 904 60 ≤ 23 := hHU12.c _ _
              have w716 : Xi U12 904 69 = Xi T1 904 69 := (show Xi U12 904 69 = Xi T11 904 69 from by rw [eU12]; exact Xi_ne (by omega)).trans ((show Xi T11 904 69 = Xi T1 904 69 from w694.x _ _ rfl))
              have w717 : 0 ≤ Xi T1 904 69 ∧ Xi T1 904 69 ≤ 2600 := hHT1.c _ _
              have w718 : Xi U12 904 70 = Xi T1 904 70 := (show Xi U12 904 70 = Xi T11 904 70 from by rw [eU12]; exact Xi_ne (by omega)).trans ((show Xi T11 904 70 = Xi T1 904 70 from w694.x _ _ rfl))
              have w719 : 0 ≤ Xi T1 904 70 ∧ Xi T1 904 70 ≤ 20 := hHT1.c _ _
              have w720 : Xi U12 904 71 = Xi T1 904 71 := (show Xi U12 904 71 = Xi T11 904 71 from by rw [eU12]; exact Xi_ne (by omega)).trans ((show Xi T11 904 71 = Xi T1 904 71 from w694.x _ _ rfl))
              have w721 : 0 ≤ Xi T1 904 71 ∧ Xi T1 904 71 ≤ 2600 := hHT1.c _ _
              have w722 : Xi U12 904 72 = Xi T1 904 72 := (show Xi U12 904 72 = Xi T11 904 72 from by rw [eU12]; exact Xi_ne (by omega)).trans ((show Xi T11 904 72 = Xi T1 904 72 from w694.x _ _ rfl))
              have w723 : 0 ≤ Xi T1 904 72 ∧ Xi T1 904 72 ≤ 2600 := hHT1.c _ _
              have w724 : Xi U12 904 73 = Xi T1 904 73 := (show Xi U12 904 73 = Xi T11 904 73 from by rw [eU12]; exact Xi_ne (by omega)).trans ((show Xi T11 904 73 = Xi T1 904 73 from w694.x _ _ rfl))
              have w725 : 0 ≤ Xi T1 904 73 ∧ Xi T1 904 73 ≤ 5 := hHT1.c _ _
              have w726 : Xi U12 904 74 = Xi T1 904 74 := (show Xi U12 904 74 = Xi T11 904 74 from by rw [eU12]; exact Xi_ne (by omega)).trans ((show Xi T11 904 74 = Xi T1 904 74 from w694.x _ _ rfl))
              have w727 : 0 ≤ Xi T1 904 74 ∧ Xi T1 904 74 ≤ 2600 := hHT1.c _ _
              exact Rl_weak (C63 U12 hHU12 hFU12 (v1) (((Xi T1 904 71) + v1)) (z693) (by omega) (by omega) (by omega) (by omega) (by omega) (by omega) (by omega) (by omega) (by omega) (by omega) (by omega) (by omega) (by omega) (by omega) (by first | assumption | exact (TXM_FR (FR_e eU12) rfl (by assumption : TXM T11))) (by first | assumption | exact (WYM_FR (FR_e eU12) rfl (by assumption : WYM T11))) (by first | assumption | exact (LXM_FR (FR_e eU12) rfl (by assumption : LXM T11))) (by first | assumption | exact (LCN_FR (FR_e eU12) rfl (by assumption : LCN T11))) ((GR_FR (FR_e eU12) rfl (GR.tr (by assumption : GR T1 S) (by assumption : GR T11 T1)))) ((LXK.fr (LXK.tr (by assumption : LXK T1 S (Xi S 904 15)) (by assumption : LXK T11 T1 _) (by omega)) (FR_e eU12) rfl)) (by omega) (by omega) (by have t : Xi U12 904 19 = Xi T11 904 19 := (by rw [eU12, Xi_ne (by omega)]); rw [t]; exact N43) (by omega) (by omega) (by omega) (by omega)) (And.intro rfl (And.intro rfl (And.intro rfl (And.intro rfl (True.intro)))))
            · refine l_iload_n rfl rfl ?_
              refine l_goto rfl rfl ?_
              refine l_pfi rfl rfl rfl rfl ?_
              obtain ⟨U13, eU13⟩ : ∃ T : sS, T = uI T11 904 60 (Int32.ofInt z693) := ⟨_, rfl⟩
              rw [← eU13]
              have hHU13 : HI U13 := by rw [eU13]; exact HI_w hHT11 (show -1 ≤ z693 by omega) (show z693 ≤ 23 by omega)
              have hFU13 : FR md_mo_doDescribed S U13 := by rw [eU13]; exact FR.wI hFT11 (mdf_i (r := (904, 905, 60, 61)) (List.mem_of_getElem? (i := 2) rfl) (inR_i (by omega) (by omega) (by omega) (by omega)))
              have w728 : Xi U13 904 60 = z693 := by rw [eU13]; exact Xi_same (by unfold rg; omega)
              have w729 : Xi U13 904 106 = Xi T1 904 106 := (show Xi U13 904 106 = Xi T11 904 106 from by rw [eU13]; exact Xi_ne (by omega)).trans ((show Xi T11 904 106 = Xi T1 904 106 from w694.x _ _ rfl))
              have w730 : 0 ≤ Xi T1 904 106 ∧ Xi T1 904 106 ≤ 9 := hHT1.c _ _
              have w731 : Xi U13 904 110 = Xi T1 904 110 := (show Xi U13 904 110 = Xi T11 904 110 from by rw [eU13]; exact Xi_ne (by omega)).trans ((show Xi T11 904 110 = Xi T1 904 110 from w694.x _ _ rfl))
              have w732 : 0 ≤ Xi T1 904 110 ∧ Xi T1 904 110 ≤ 15 := hHT1.c _ _
              have w733 : Xi U13 904 112 = Xi T1 904 112 := (show Xi U13 904 112 = Xi T11 904 112 from by rw [eU13]; exact Xi_ne (by omega)).trans ((show Xi T11 904 112 = Xi T1 904 112 from w694.x _ _ rfl))
              have w734 : 0 ≤ Xi T1 904 112 ∧ Xi T1 904 112 ≤ 6 := hHT1.c _ _
              have w735 : Xi U13 904 15 = Xi T11 904 15 := (show Xi U13 904 15 = Xi T11 904 15 from by rw [eU13]; exact Xi_ne (by omega))
              have w736 : 0 ≤ Xi T11 904 15 ∧ Xi T11 904 15 ≤ 300 := hHT11.c _ _
              have w737 : Xi U13 904 16 = Xi T1 904 16 := (show Xi U13 904 16 = Xi T11 904 16 from by rw [eU13]; exact Xi_ne (by omega)).trans ((show Xi T11 904 16 = Xi T1 904 16 from w694.x _ _ rfl))
              have w738 : 0 ≤ Xi T1 904 16 ∧ Xi T1 904 16 ≤ 16 := hHT1.c _ _
              have w739 : Xi U13 904 19 = Xi T11 904 19 := (show Xi U13 904 19 = Xi T11 904 19 from by rw [eU13]; exact Xi_ne (by omega))
              have w740 : 0 ≤ Xi T11 904 19 ∧ Xi T11 904 19 ≤ 24 := hHT11.c _ _
              have w741 : Xi U13 904 23 = Xi T1 904 23 := (show Xi U13 904 23 = Xi T11 904 23 from by rw [eU13]; exact Xi_ne (by omega)).trans ((show Xi T11 904 23 = Xi T1 904 23 from w694.x _ _ rfl))
              have w742 : 0 ≤ Xi T1 904 23 ∧ Xi T1 904 23 ≤ 24 := hHT1.c _ _
              have w743 : Xi U13 904 32 = Xi T1 904 32 := (show Xi U13 904 32 = Xi T11 904 32 from by rw [eU13]; exact Xi_ne (by omega)).trans ((show Xi T11 904 32 = Xi T1 904 32 from w694.x _ _ rfl))
              have w744 : 0 ≤ Xi T1 904 32 ∧ Xi T1 904 32 ≤ 12 := hHT1.c _ _
              have w745 : -1 ≤ Xi U13 904 60 ∧ Xi U13 904 60 ≤ 23 := hHU13.c _ _
              have w746 : Xi U13 904 69 = Xi T1 904 69 := (show Xi U13 904 69 = Xi T11 904 69 from by rw [eU13]; exact Xi_ne (by omega)).trans ((show Xi T11 904 69 = Xi T1 904 69 from w694.x _ _ rfl))
              have w747 : 0 ≤ Xi T1 904 69 ∧ Xi T1 904 69 ≤ 2600 := hHT1.c _ _
              have w748 : Xi U13 904 70 = Xi T1 904 70 := (show Xi U13 904 70 = Xi T11 904 70 from by rw [eU13]; exact Xi_ne (by omega)).trans ((show Xi T11 904 70 = Xi T1 904 70 from w694.x _ _ rfl))
              have w749 : 0 ≤ Xi T1 904 70 ∧ Xi T1 904 70 ≤ 20 := hHT1.c _ _
              have w750 : Xi U13 904 71 = Xi T1 904 71 := (show Xi U13 904 71 = Xi T11 904 71 from by rw [eU13]; exact Xi_ne (by omega)).trans ((show Xi T11 904 71 = Xi T1 904 71 from w694.x _ _ rfl))
              have w751 : 0 ≤ Xi T1 904 71 ∧ Xi T1 904 71 ≤ 2600 := hHT1.c _ _
              have w752 : Xi U13 904 72 = Xi T1 904 72 := (show Xi U13 904 72 = Xi T11 904 72 from by rw [eU13]; exact Xi_ne (by omega)).trans ((show Xi T11 904 72 = Xi T1 904 72 from w694.x _ _ rfl))
              have w753 : 0 ≤ Xi T1 904 72 ∧ Xi T1 904 72 ≤ 2600 := hHT1.c _ _
              have w754 : Xi U13 904 73 = Xi T1 904 73 := (show Xi U13 904 73 = Xi T11 904 73 from by rw [eU13]; exact Xi_ne (by omega)).trans ((show Xi T11 904 73 = Xi T1 904 73 from w694.x _ _ rfl))
              have w755 : 0 ≤ Xi T1 904 73 ∧ Xi T1 904 73 ≤ 5 := hHT1.c _ _
              have w756 : Xi U13 904 74 = Xi T1 904 74 := (show Xi U13 904 74 = Xi T11 904 74 from by rw [eU13]; exact Xi_ne (by omega)).trans ((show Xi T11 904 74 = Xi T1 904 74 from w694.x _ _ rfl))
              have w757 : 0 ≤ Xi T1 904 74 ∧ Xi T1 904 74 ≤ 2600 := hHT1.c _ _
              exact Rl_weak (C63 U13 hHU13 hFU13 (v1) (((Xi T1 904 71) + v1)) (z693) (by omega) (by omega) (by omega) (by omega) (by omega) (by omega) (by omega) (by omega) (by omega) (by omega) (by omega) (by omega) (by omega) (by omega) (by first | assumption | exact (TXM_FR (FR_e eU13) rfl (by assumption : TXM T11))) (by first | assumption | exact (WYM_FR (FR_e eU13) rfl (by assumption : WYM T11))) (by first | assumption | exact (LXM_FR (FR_e eU13) rfl (by assumption : LXM T11))) (by first | assumption | exact (LCN_FR (FR_e eU13) rfl (by assumption : LCN T11))) ((GR_FR (FR_e eU13) rfl (GR.tr (by assumption : GR T1 S) (by assumption : GR T11 T1)))) ((LXK.fr (LXK.tr (by assumption : LXK T1 S (Xi S 904 15)) (by assumption : LXK T11 T1 _) (by omega)) (FR_e eU13) rfl)) (by omega) (by omega) (by have t : Xi U13 904 19 = Xi T11 904 19 := (by rw [eU13, Xi_ne (by omega)]); rw [t]; exact N43) (by omega) (by omega) (by omega) (by omega)) (And.intro rfl (And.intro rfl (And.intro rfl (And.intro rfl (True.intro)))))
          · refine l_iconst rfl ?_
            refine l_goto rfl rfl ?_
            have w758 : 0 ≤ Xi T1 904 106 ∧ Xi T1 904 106 ≤ 9 := hHT1.c _ _
            have w759 : 0 ≤ Xi T1 904 110 ∧ Xi T1 904 110 ≤ 15 := hHT1.c _ _
            have w760 : 0 ≤ Xi T1 904 112 ∧ Xi T1 904 112 ≤ 6 := hHT1.c _ _
            have w761 : 0 ≤ Xi T1 904 15 ∧ Xi T1 904 15 ≤ 300 := hHT1.c _ _
            have w762 : 0 ≤ Xi T1 904 16 ∧ Xi T1 904 16 ≤ 16 := hHT1.c _ _
            have w763 : 0 ≤ Xi T1 904 19 ∧ Xi T1 904 19 ≤ 24 := hHT1.c _ _
            have w764 : 0 ≤ Xi T1 904 23 ∧ Xi T1 904 23 ≤ 24 := hHT1.c _ _
            have w765 : 0 ≤ Xi T1 904 32 ∧ Xi T1 904 32 ≤ 12 := hHT1.c _ _
            have w766 : -1 ≤ Xi T1 904 60 ∧ Xi T1 904 60 ≤ 23 := hHT1.c _ _
            have w767 : 0 ≤ Xi T1 904 69 ∧ Xi T1 904 69 ≤ 2600 := hHT1.c _ _
            have w768 : 0 ≤ Xi T1 904 70 ∧ Xi T1 904 70 ≤ 20 := hHT1.c _ _
            have w769 : 0 ≤ Xi T1 904 71 ∧ Xi T1 904 71 ≤ 2600 := hHT1.c _ _
            have w770 : 0 ≤ Xi T1 904 72 ∧ Xi T1 904 72 ≤ 2600 := hHT1.c _ _
            have w771 : 0 ≤ Xi T1 904 73 ∧ Xi T1 904 73 ≤ 5 := hHT1.c _ _
            have w772 : 0 ≤ Xi T1 904 74 ∧ Xi T1 904 74 ≤ 2600 := hHT1.c _ _
            refine l_callV rfl rfl rfl (t_mo_objectTold hHT1 n ((Xi T1 904 71) + v1) 0 ⟨by omega, by omega⟩ ⟨by omega, by omega⟩ (by first | assumption | exact (TK_FR hFT1 rfl (by assumption : TK S _))) (by first | assumption | exact (RNV_FR hFT1 rfl (by assumption : RNV S _))) (by first | assumption | exact (by assumption : LXM T1)) (by first | assumption | omega) (by first | assumption | exact (by assumption : TXM T1)) (by first | assumption | exact (by assumption : WYM T1)) (by first | assumption | exact (by assumption : LCN T1)) (by first | assumption | omega) (on_at hO K2 (by omega) (by omega) (fun j => (hFT1.cx 910 rfl j).2) (fun j => (hFT1.cx 950 rfl j).1) (fun j => (hFT1.cx 951 rfl j).1) ⟨by omega, by omega⟩ (by omega) N2) _) ?_
            rintro _ T14 ⟨hHT14, w780, z779, rfl, w779, w773, c43, w774, w775, w776, w777, g43, k43, w778⟩
            have hFT14 : FR md_mo_doDescribed S T14 := FR.tr hFT1 w780 rfl
            show Rl _ _ _ _ _ [iv z779] _ _
            have N43 : Xi T14 904 19 ≤ Xi S 904 19 + cnR S (Xi S 904 71) 4 (v1 + 1).toNat := on_nx K2 (by omega) (by omega) (fun j => (hFT1.cx 910 rfl j).2) (fun j => (hFT1.cx 950 rfl j).1) (fun j => (hFT1.cx 951 rfl j).1) (by omega) (by omega) N2 c43
            have q43 : Xi T1 904 19 ≤ Xi T14 904 19 ∧ Xi T14 904 19 ≤ Xi T1 904 19 + 1 := ⟨c43.1, c43.2.1⟩
            clear c43
            refine l_istore_n rfl rfl rfl ?_
            refine l_aload_n rfl rfl ?_
            refine l_iload_n rfl rfl ?_
            refine l_if_ne rfl rfl (by unfold rg; omega) (fun w781 => ?_) (fun w782 => ?_)
            · refine l_aload_n rfl rfl ?_
              refine l_gfi rfl rfl rfl rfl rfl ?_
              have w783 : (Xi T14 904 60) = (Xi T1 904 60) := (show Xi T14 904 60 = Xi T1 904 60 from w780.x _ _ rfl)
              rw [w783]
              refine l_pfi rfl rfl rfl rfl ?_
              obtain ⟨U15, eU15⟩ : ∃ T : sS, T = uI T14 904 60 (Int32.ofInt (Xi T1 904 60)) := ⟨_, rfl⟩
              rw [← eU15]
              have hHU15 : HI U15 := by rw [eU15]; exact HI_w hHT14 (show -1 ≤ (Xi T1 904 60) by omega) (show (Xi T1 904 60) ≤ 23 by omega)
              have hFU15 : FR md_mo_doDescribed S U15 := by rw [eU15]; exact FR.wI hFT14 (mdf_i (r := (904, 905, 60, 61)) (List.mem_of_getElem? (i := 2) rfl) (inR_i (by omega) (by omega) (by omega) (by omega)))
              have w784 : Xi U15 904 60 = (Xi T1 904 60) := by rw [eU15]; exact Xi_same (by unfold rg; omega)
              have w785 : Xi U15 904 106 = Xi T1 904 106 := (show Xi U15 904 106 = Xi T14 904 106 from by rw [eU15]; exact Xi_ne (by omega)).trans ((show Xi T14 904 106 = Xi T1 904 106 from w780.x _ _ rfl))
              have w786 : 0 ≤ Xi T1 904 106 ∧ Xi T1 904 106 ≤ 9 := hHT1.c _ _
              have w787 : Xi U15 904 110 = Xi T1 904 110 := (show Xi U15 904 110 = Xi T14 904 110 from by rw [eU15]; exact Xi_ne (by omega)).trans ((show Xi T14 904 110 = Xi T1 904 110 from w780.x _ _ rfl))
              have w788 : 0 ≤ Xi T1 904 110 ∧ Xi T1 904 110 ≤ 15 := hHT1.c _ _
              have w789 : Xi U15 904 112 = Xi T1 904 112 := (show Xi U15 904 112 = Xi T14 904 112 from by rw [eU15]; exact Xi_ne (by omega)).trans ((show Xi T14 904 112 = Xi T1 904 112 from w780.x _ _ rfl))
              have w790 : 0 ≤ Xi T1 904 112 ∧ Xi T1 904 112 ≤ 6 := hHT1.c _ _
              have w791 : Xi U15 904 15 = Xi T14 904 15 := (show Xi U15 904 15 = Xi T14 904 15 from by rw [eU15]; exact Xi_ne (by omega))
              have w792 : 0 ≤ Xi T14 904 15 ∧ Xi T14 904 15 ≤ 300 := hHT14.c _ _
              have w793 : Xi U15 904 16 = Xi T1 904 16 := (show Xi U15 904 16 = Xi T14 904 16 from by rw [eU15]; exact Xi_ne (by omega)).trans ((show Xi T14 904 16 = Xi T1 904 16 from w780.x _ _ rfl))
              have w794 : 0 ≤ Xi T1 904 16 ∧ Xi T1 904 16 ≤ 16 := hHT1.c _ _
              have w795 : Xi U15 904 19 = Xi T14 904 19 := (show Xi U15 904 19 = Xi T14 904 19 from by rw [eU15]; exact Xi_ne (by omega))
              have w796 : 0 ≤ Xi T14 904 19 ∧ Xi T14 904 19 ≤ 24 := hHT14.c _ _
              have w797 : Xi U15 904 23 = Xi T1 904 23 := (show Xi U15 904 23 = Xi T14 904 23 from by rw [eU15]; exact Xi_ne (by omega)).trans ((show Xi T14 904 23 = Xi T1 904 23 from w780.x _ _ rfl))
              have w798 : 0 ≤ Xi T1 904 23 ∧ Xi T1 904 23 ≤ 24 := hHT1.c _ _
              have w799 : Xi U15 904 32 = Xi T1 904 32 := (show Xi U15 904 32 = Xi T14 904 32 from by rw [eU15]; exact Xi_ne (by omega)).trans ((show Xi T14 904 32 = Xi T1 904 32 from w780.x _ _ rfl))
              have w800 : 0 ≤ Xi T1 904 32 ∧ Xi T1 904 32 ≤ 12 := hHT1.c _ _
              have w801 : -1 ≤ Xi U15 904 60 ∧ Xi U15 904 60 ≤ 23 := hHU15.c _ _
              have w802 : Xi U15 904 69 = Xi T1 904 69 := (show Xi U15 904 69 = Xi T14 904 69 from by rw [eU15]; exact Xi_ne (by omega)).trans ((show Xi T14 904 69 = Xi T1 904 69 from w780.x _ _ rfl))
              have w803 : 0 ≤ Xi T1 904 69 ∧ Xi T1 904 69 ≤ 2600 := hHT1.c _ _
              have w804 : Xi U15 904 70 = Xi T1 904 70 := (show Xi U15 904 70 = Xi T14 904 70 from by rw [eU15]; exact Xi_ne (by omega)).trans ((show Xi T14 904 70 = Xi T1 904 70 from w780.x _ _ rfl))
              have w805 : 0 ≤ Xi T1 904 70 ∧ Xi T1 904 70 ≤ 20 := hHT1.c _ _
              have w806 : Xi U15 904 71 = Xi T1 904 71 := (show Xi U15 904 71 = Xi T14 904 71 from by rw [eU15]; exact Xi_ne (by omega)).trans ((show Xi T14 904 71 = Xi T1 904 71 from w780.x _ _ rfl))
              have w807 : 0 ≤ Xi T1 904 71 ∧ Xi T1 904 71 ≤ 2600 := hHT1.c _ _
              have w808 : Xi U15 904 72 = Xi T1 904 72 := (show Xi U15 904 72 = Xi T14 904 72 from by rw [eU15]; exact Xi_ne (by omega)).trans ((show Xi T14 904 72 = Xi T1 904 72 from w780.x _ _ rfl))
              have w809 : 0 ≤ Xi T1 904 72 ∧ Xi T1 904 72 ≤ 2600 := hHT1.c _ _
              have w810 : Xi U15 904 73 = Xi T1 904 73 := (show Xi U15 904 73 = Xi T14 904 73 from by rw [eU15]; exact Xi_ne (by omega)).trans ((show Xi T14 904 73 = Xi T1 904 73 from w780.x _ _ rfl))
              have w811 : 0 ≤ Xi T1 904 73 ∧ Xi T1 904 73 ≤ 5 := hHT1.c _ _
              have w812 : Xi U15 904 74 = Xi T1 904 74 := (show Xi U15 904 74 = Xi T14 904 74 from by rw [eU15]; exact Xi_ne (by omega)).trans ((show Xi T14 904 74 = Xi T1 904 74 from w780.x _ _ rfl))
              have w813 : 0 ≤ Xi T1 904 74 ∧ Xi T1 904 74 ≤ 2600 := hHT1.c _ _
              exact Rl_weak (C63 U15 hHU15 hFU15 (v1) (((Xi T1 904 71) + v1)) (z779) (by omega) (by omega) (by omega) (by omega) (by omega) (by omega) (by omega) (by omega) (by omega) (by omega) (by omega) (by omega) (by omega) (by omega) (by first | assumption | exact (TXM_FR (FR_e eU15) rfl (by assumption : TXM T14))) (by first | assumption | exact (WYM_FR (FR_e eU15) rfl (by assumption : WYM T14))) (by first | assumption | exact (LXM_FR (FR_e eU15) rfl (by assumption : LXM T14))) (by first | assumption | exact (LCN_FR (FR_e eU15) rfl (by assumption : LCN T14))) ((GR_FR (FR_e eU15) rfl (GR.tr (by assumption : GR T1 S) (by assumption : GR T14 T1)))) ((LXK.fr (LXK.tr (by assumption : LXK T1 S (Xi S 904 15)) (by assumption : LXK T14 T1 _) (by omega)) (FR_e eU15) rfl)) (by omega) (by omega) (by have t : Xi U15 904 19 = Xi T14 904 19 := (by rw [eU15, Xi_ne (by omega)]); rw [t]; exact N43) (by omega) (by omega) (by omega) (by omega)) (And.intro rfl (And.intro rfl (And.intro rfl (And.intro rfl (True.intro)))))
            · refine l_iload_n rfl rfl ?_
              refine l_goto rfl rfl ?_
              refine l_pfi rfl rfl rfl rfl ?_
              obtain ⟨U16, eU16⟩ : ∃ T : sS, T = uI T14 904 60 (Int32.ofInt z779) := ⟨_, rfl⟩
              rw [← eU16]
              have hHU16 : HI U16 := by rw [eU16]; exact HI_w hHT14 (show -1 ≤ z779 by omega) (show z779 ≤ 23 by omega)
              have hFU16 : FR md_mo_doDescribed S U16 := by rw [eU16]; exact FR.wI hFT14 (mdf_i (r := (904, 905, 60, 61)) (List.mem_of_getElem? (i := 2) rfl) (inR_i (by omega) (by omega) (by omega) (by omega)))
              have w814 : Xi U16 904 60 = z779 := by rw [eU16]; exact Xi_same (by unfold rg; omega)
              have w815 : Xi U16 904 106 = Xi T1 904 106 := (show Xi U16 904 106 = Xi T14 904 106 from by rw [eU16]; exact Xi_ne (by omega)).trans ((show Xi T14 904 106 = Xi T1 904 106 from w780.x _ _ rfl))
              have w816 : 0 ≤ Xi T1 904 106 ∧ Xi T1 904 106 ≤ 9 := hHT1.c _ _
              have w817 : Xi U16 904 110 = Xi T1 904 110 := (show Xi U16 904 110 = Xi T14 904 110 from by rw [eU16]; exact Xi_ne (by omega)).trans ((show Xi T14 904 110 = Xi T1 904 110 from w780.x _ _ rfl))
              have w818 : 0 ≤ Xi T1 904 110 ∧ Xi T1 904 110 ≤ 15 := hHT1.c _ _
              have w819 : Xi U16 904 112 = Xi T1 904 112 := (show Xi U16 904 112 = Xi T14 904 112 from by rw [eU16]; exact Xi_ne (by omega)).trans ((show Xi T14 904 112 = Xi T1 904 112 from w780.x _ _ rfl))
              have w820 : 0 ≤ Xi T1 904 112 ∧ Xi T1 904 112 ≤ 6 := hHT1.c _ _
              have w821 : Xi U16 904 15 = Xi T14 904 15 := (show Xi U16 904 15 = Xi T14 904 15 from by rw [eU16]; exact Xi_ne (by omega))
              have w822 : 0 ≤ Xi T14 904 15 ∧ Xi T14 904 15 ≤ 300 := hHT14.c _ _
              have w823 : Xi U16 904 16 = Xi T1 904 16 := (show Xi U16 904 16 = Xi T14 904 16 from by rw [eU16]; exact Xi_ne (by omega)).trans ((show Xi T14 904 16 = Xi T1 904 16 from w780.x _ _ rfl))
              have w824 : 0 ≤ Xi T1 904 16 ∧ Xi T1 904 16 ≤ 16 := hHT1.c _ _
              have w825 : Xi U16 904 19 = Xi T14 904 19 := (show Xi U16 904 19 = Xi T14 904 19 from by rw [eU16]; exact Xi_ne (by omega))
              have w826 : 0 ≤ Xi T14 904 19 ∧ Xi T14 904 19 ≤ 24 := hHT14.c _ _
              have w827 : Xi U16 904 23 = Xi T1 904 23 := (show Xi U16 904 23 = Xi T14 904 23 from by rw [eU16]; exact Xi_ne (by omega)).trans ((show Xi T14 904 23 = Xi T1 904 23 from w780.x _ _ rfl))
              have w828 : 0 ≤ Xi T1 904 23 ∧ Xi T1 904 23 ≤ 24 := hHT1.c _ _
              have w829 : Xi U16 904 32 = Xi T1 904 32 := (show Xi U16 904 32 = Xi T14 904 32 from by rw [eU16]; exact Xi_ne (by omega)).trans ((show Xi T14 904 32 = Xi T1 904 32 from w780.x _ _ rfl))
              have w830 : 0 ≤ Xi T1 904 32 ∧ Xi T1 904 32 ≤ 12 := hHT1.c _ _
              have w831 : -1 ≤ Xi U16 904 60 ∧ Xi U16 904 60 ≤ 23 := hHU16.c _ _
              have w832 : Xi U16 904 69 = Xi T1 904 69 := (show Xi U16 904 69 = Xi T14 904 69 from by rw [eU16]; exact Xi_ne (by omega)).trans ((show Xi T14 904 69 = Xi T1 904 69 from w780.x _ _ rfl))
              have w833 : 0 ≤ Xi T1 904 69 ∧ Xi T1 904 69 ≤ 2600 := hHT1.c _ _
              have w834 : Xi U16 904 70 = Xi T1 904 70 := (show Xi U16 904 70 = Xi T14 904 70 from by rw [eU16]; exact Xi_ne (by omega)).trans ((show Xi T14 904 70 = Xi T1 904 70 from w780.x _ _ rfl))
              have w835 : 0 ≤ Xi T1 904 70 ∧ Xi T1 904 70 ≤ 20 := hHT1.c _ _
              have w836 : Xi U16 904 71 = Xi T1 904 71 := (show Xi U16 904 71 = Xi T14 904 71 from by rw [eU16]; exact Xi_ne (by omega)).trans ((show Xi T14 904 71 = Xi T1 904 71 from w780.x _ _ rfl))
              have w837 : 0 ≤ Xi T1 904 71 ∧ Xi T1 904 71 ≤ 2600 := hHT1.c _ _
              have w838 : Xi U16 904 72 = Xi T1 904 72 := (show Xi U16 904 72 = Xi T14 904 72 from by rw [eU16]; exact Xi_ne (by omega)).trans ((show Xi T14 904 72 = Xi T1 904 72 from w780.x _ _ rfl))
              have w839 : 0 ≤ Xi T1 904 72 ∧ Xi T1 904 72 ≤ 2600 := hHT1.c _ _
              have w840 : Xi U16 904 73 = Xi T1 904 73 := (show Xi U16 904 73 = Xi T14 904 73 from by rw [eU16]; exact Xi_ne (by omega)).trans ((show Xi T14 904 73 = Xi T1 904 73 from w780.x _ _ rfl))
              have w841 : 0 ≤ Xi T1 904 73 ∧ Xi T1 904 73 ≤ 5 := hHT1.c _ _
              have w842 : Xi U16 904 74 = Xi T1 904 74 := (show Xi U16 904 74 = Xi T14 904 74 from by rw [eU16]; exact Xi_ne (by omega)).trans ((show Xi T14 904 74 = Xi T1 904 74 from w780.x _ _ rfl))
              have w843 : 0 ≤ Xi T1 904 74 ∧ Xi T1 904 74 ≤ 2600 := hHT1.c _ _
              exact Rl_weak (C63 U16 hHU16 hFU16 (v1) (((Xi T1 904 71) + v1)) (z779) (by omega) (by omega) (by omega) (by omega) (by omega) (by omega) (by omega) (by omega) (by omega) (by omega) (by omega) (by omega) (by omega) (by omega) (by first | assumption | exact (TXM_FR (FR_e eU16) rfl (by assumption : TXM T14))) (by first | assumption | exact (WYM_FR (FR_e eU16) rfl (by assumption : WYM T14))) (by first | assumption | exact (LXM_FR (FR_e eU16) rfl (by assumption : LXM T14))) (by first | assumption | exact (LCN_FR (FR_e eU16) rfl (by assumption : LCN T14))) ((GR_FR (FR_e eU16) rfl (GR.tr (by assumption : GR T1 S) (by assumption : GR T14 T1)))) ((LXK.fr (LXK.tr (by assumption : LXK T1 S (Xi S 904 15)) (by assumption : LXK T14 T1 _) (by omega)) (FR_e eU16) rfl)) (by omega) (by omega) (by have t : Xi U16 904 19 = Xi T14 904 19 := (by rw [eU16, Xi_ne (by omega)]); rw [t]; exact N43) (by omega) (by omega) (by omega) (by omega)) (And.intro rfl (And.intro rfl (And.intro rfl (And.intro rfl (True.intro)))))
  refine l_iconst rfl ?_
  refine l_istore_n rfl rfl rfl ?_
  have w844 : 0 ≤ Xi S 904 106 ∧ Xi S 904 106 ≤ 9 := hH.c _ _
  have w845 : 0 ≤ Xi S 904 110 ∧ Xi S 904 110 ≤ 15 := hH.c _ _
  have w846 : 0 ≤ Xi S 904 112 ∧ Xi S 904 112 ≤ 6 := hH.c _ _
  have w847 : 0 ≤ Xi S 904 15 ∧ Xi S 904 15 ≤ 300 := hH.c _ _
  have w848 : 0 ≤ Xi S 904 16 ∧ Xi S 904 16 ≤ 16 := hH.c _ _
  have w849 : 0 ≤ Xi S 904 19 ∧ Xi S 904 19 ≤ 24 := hH.c _ _
  have w850 : 0 ≤ Xi S 904 23 ∧ Xi S 904 23 ≤ 24 := hH.c _ _
  have w851 : 0 ≤ Xi S 904 32 ∧ Xi S 904 32 ≤ 12 := hH.c _ _
  have w852 : -1 ≤ Xi S 904 60 ∧ Xi S 904 60 ≤ 23 := hH.c _ _
  have w853 : 0 ≤ Xi S 904 69 ∧ Xi S 904 69 ≤ 2600 := hH.c _ _
  have w854 : 0 ≤ Xi S 904 70 ∧ Xi S 904 70 ≤ 20 := hH.c _ _
  have w855 : 0 ≤ Xi S 904 71 ∧ Xi S 904 71 ≤ 2600 := hH.c _ _
  have w856 : 0 ≤ Xi S 904 72 ∧ Xi S 904 72 ≤ 2600 := hH.c _ _
  have w857 : 0 ≤ Xi S 904 73 ∧ Xi S 904 73 ≤ 5 := hH.c _ _
  have w858 : 0 ≤ Xi S 904 74 ∧ Xi S 904 74 ≤ 2600 := hH.c _ _
  exact Rl_weak (C2 _ S hH hF (0) (by omega) (by omega) (by omega) (by omega) (by omega) (by omega) (by omega) (by omega) (by omega) (by omega) (by omega) (by omega) (by omega) (by first | assumption | exact (by assumption : TXM S)) (by first | assumption | exact (by assumption : WYM S)) (by first | assumption | exact (by assumption : LXM S)) (by first | assumption | exact (by assumption : LCN S)) (by first | exact GR.rf | exact GR.rf) (by first | exact LXK.rf | exact LXK.rf) (by omega) (by omega) (by first | exact Int.le_of_eq (Int.add_zero _).symm | assumption | (have t : Xi S 904 19 = Xi S 904 19 := (by omega); rw [t]; assumption)) rfl) (And.intro rfl (And.intro rfl (True.intro)))

