/-! SAFETY of methods: printed by wip/safe (vc.py, decl.py) -/
set_option maxRecDepth 100000 in
set_option maxHeartbeats 4000000 in
theorem c361_mo_askFifteen {S : sS} (hH : HI S) (n : Nat) (hT : TK S n) (hv : RNV S n) (hM : LXM S) (hN : NWV S) (hB : ABV S) (hC : DCM S) (hl : Xi S 904 71 + Xi S 904 72 ≤ Xi S 904 69) (h1 : 1 ≤ Xi S 904 72) (h9 : Xi S 904 108 = 0) (hw : 0 ≤ Xi S 904 78 ∧ Xi S 904 78 < Xi S 904 69) (d : Nat) : ∀ (n361 : Nat) (T32 : sS) (_ : HI T32) (_ : FR md_mo_askFifteen S T32) (v1 : Int) (v2 : Int) (v5 : Int) (v6 : Int) (v7 : Int), (0 ≤ v1 ∧ v1 ≤ 2600) → (0 ≤ v2 ∧ v2 ≤ 5001) → (0 ≤ v5 ∧ v5 ≤ 1) → (0 ≤ v6 ∧ v6 ≤ 1) → (0 ≤ v7 ∧ v7 ≤ 2600) → (Xi T32 904 69 = Xi S 904 69) → (Xi T32 904 70 = Xi S 904 70) → (Xi T32 904 71 = Xi S 904 71) → (Xi T32 904 72 = Xi S 904 72) → (Xi T32 904 75 = Xi S 904 75) → (Xi T32 904 78 = Xi S 904 78) → (v1 = Xi S 904 71) → (v2 = Xi S 950 (Xi S 904 78).toNat) → (Xi T32 904 142 ≠ 1) → (Xi T32 904 142 ≠ 2) → (Xi T32 904 142 ≠ 3) → (v7 ≤ Xi S 904 72) → (Xi T32 904 106 = 0 → ∀ i : Int, 0 ≤ i → i < v7 → rnR S (Xi S 904 71 + i) 4 ≠ -1) → n361 = (2601 - v7).toNat → Rl lay0 (d + 10) m_mo_askFifteen 361 [(0, .ref 904), (1, iv v1), (2, iv v2), (5, iv v5), (6, iv v6), (7, iv v7)] [] T32 (Q_mo_askFifteen S n) := by
  have C432 := c432_mo_askFifteen hH n hT hv hM hN hB hC hl h1 h9 hw d 
  have hF : FR md_mo_askFifteen S S := FR.rf
  have w1 : 0 ≤ Xi S 904 106 ∧ Xi S 904 106 ≤ 9 := hH.c _ _
  have w2 : 0 ≤ Xi S 904 108 ∧ Xi S 904 108 ≤ 2600 := hH.c _ _
  have w3 : -2147483648 ≤ Xi S 904 109 ∧ Xi S 904 109 ≤ 2147483647 := Xi_rgI
  have w4 : -1 ≤ Xi S 904 113 ∧ Xi S 904 113 ≤ 6411 := hH.c _ _
  have w5 : 0 ≤ Xi S 904 142 ∧ Xi S 904 142 ≤ 4 := hH.c _ _
  have w6 : 0 ≤ Xi S 904 16 ∧ Xi S 904 16 ≤ 16 := hH.c _ _
  have w7 : 0 ≤ Xi S 904 30 ∧ Xi S 904 30 ≤ 64 := hH.c _ _
  have w8 : 0 ≤ Xi S 904 69 ∧ Xi S 904 69 ≤ 2600 := hH.c _ _
  have w9 : 0 ≤ Xi S 904 70 ∧ Xi S 904 70 ≤ 20 := hH.c _ _
  have w10 : 0 ≤ Xi S 904 71 ∧ Xi S 904 71 ≤ 2600 := hH.c _ _
  have w11 : 0 ≤ Xi S 904 72 ∧ Xi S 904 72 ≤ 2600 := hH.c _ _
  have w12 : 0 ≤ Xi S 904 75 ∧ Xi S 904 75 ≤ 1 := hH.c _ _
  have w13 : -2 ≤ Xi S 904 78 ∧ Xi S 904 78 ≤ 5010 := hH.c _ _
  have hn5 := hT.1
  have hc69 : 0 ≤ Xi S 904 69 ∧ Xi S 904 69 ≤ 2600 := hH.c _ _
  have hc71 : 0 ≤ Xi S 904 71 ∧ Xi S 904 71 ≤ 2600 := hH.c _ _
  have hc72 : 0 ≤ Xi S 904 72 ∧ Xi S 904 72 ≤ 2600 := hH.c _ _
  have hrf : ∀ r : Int, 0 ≤ r → r < Xi S 904 69 → Xi S 950 r.toNat ≤ n := fun r a b => by have := hv r.toNat (by omega); omega
  have hc3 : 0 ≤ Xi S 904 23 ∧ Xi S 904 23 ≤ 24 := hH.c _ _
  have hc19 : 0 ≤ Xi S 904 19 ∧ Xi S 904 19 ≤ 24 := hH.c _ _
  have hc32 : 0 ≤ Xi S 904 32 ∧ Xi S 904 32 ≤ 12 := hH.c _ _
  have hqw : Xi S 950 (Xi S 904 78).toNat + Xi S 951 (Xi S 904 78).toNat ≤ n ∧ 1 ≤ Xi S 951 (Xi S 904 78).toNat := hv (Xi S 904 78).toNat (by omega)
  have hc16 : 0 ≤ Xi S 904 16 ∧ Xi S 904 16 ≤ 16 := hH.c _ _
  have hq7 : 0 ≤ Xi S 950 (Xi S 904 78).toNat := (hH.c 950 _).1
  intro n361
  induction n361 using Nat.strongRecOn with
  | ind n361 ih361 =>
    intro T32 hHT32 hFT32 v1 v2 v5 v6 v7 w1081 w1082 w1083 w1084 w1085 w1086 w1087 w1088 w1089 w1090 w1091 w1092 w1093 w1094 w1095 w1096 w1097 E361 hm361
    have w1098 : Xi T32 904 15 = Xi S 904 15 := hFT32.x _ _ rfl
    have w1099 : Xi T32 904 16 = Xi S 904 16 := hFT32.x _ _ rfl
    have w1100 : Xi T32 904 30 = Xi S 904 30 := hFT32.x _ _ rfl
    have w1101 : Xi T32 904 69 = Xi S 904 69 := hFT32.x _ _ rfl
    have w1102 : Xi T32 904 70 = Xi S 904 70 := hFT32.x _ _ rfl
    have w1103 : Xi T32 904 71 = Xi S 904 71 := hFT32.x _ _ rfl
    have w1104 : Xi T32 904 72 = Xi S 904 72 := hFT32.x _ _ rfl
    have w1105 : Xi T32 904 75 = Xi S 904 75 := hFT32.x _ _ rfl
    have w1106 : Xi T32 904 78 = Xi S 904 78 := hFT32.x _ _ rfl
    have w1107 : 0 ≤ Xi T32 904 106 ∧ Xi T32 904 106 ≤ 9 := hHT32.c _ _
    have w1108 : 0 ≤ Xi T32 904 142 ∧ Xi T32 904 142 ≤ 4 := hHT32.c _ _
    have w1109 : 0 ≤ Xi T32 904 69 ∧ Xi T32 904 69 ≤ 2600 := hHT32.c _ _
    have w1110 : 0 ≤ Xi T32 904 70 ∧ Xi T32 904 70 ≤ 20 := hHT32.c _ _
    have w1111 : 0 ≤ Xi T32 904 71 ∧ Xi T32 904 71 ≤ 2600 := hHT32.c _ _
    have w1112 : 0 ≤ Xi T32 904 72 ∧ Xi T32 904 72 ≤ 2600 := hHT32.c _ _
    have w1113 : 0 ≤ Xi T32 904 75 ∧ Xi T32 904 75 ≤ 1 := hHT32.c _ _
    have w1114 : -2 ≤ Xi T32 904 78 ∧ Xi T32 904 78 ≤ 5010 := hHT32.c _ _
    refine l_iload rfl rfl ?_
    refine l_aload_n rfl rfl ?_
    refine l_gfi rfl rfl rfl rfl rfl ?_
    refine l_icmp_ge rfl rfl (by unfold rg; omega) (by unfold rg; omega) (fun w1115 => ?_) (fun w1116 => ?_)
    · refine l_iload rfl rfl ?_
      refine l_if_eq rfl rfl (by unfold rg; omega) (fun w1117 => ?_) (fun w1118 => ?_)
      · refine l_aload_n rfl rfl ?_
        refine l_iload rfl rfl ?_
        refine l_iconst rfl ?_
        refine l_iload_n rfl rfl ?_
        refine l_callV rfl rfl rfl (t_mo_need hHT32 v5 4 v2 ⟨by omega, by omega⟩ ⟨by omega, by omega⟩ ⟨by omega, by omega⟩ _) ?_
        rintro _ T33 ⟨hHT33, w1132, rfl, w1129, w1130⟩
        have hFT33 : FR md_mo_askFifteen S T33 := FR.tr hFT32 w1132 rfl
        show Rl _ _ _ _ _ [] _ _
        refine l_iconst rfl ?_
        refine l_istore rfl rfl rfl ?_
        have w1133 : 0 ≤ Xi T33 904 106 ∧ Xi T33 904 106 ≤ 9 := hHT33.c _ _
        have w1134 : Xi T33 904 108 = Xi T32 904 108 := (show Xi T33 904 108 = Xi T32 904 108 from w1132.x _ _ rfl)
        have w1135 : 0 ≤ Xi T32 904 108 ∧ Xi T32 904 108 ≤ 2600 := hHT32.c _ _
        have w1136 : Xi T33 904 109 = Xi T32 904 109 := (show Xi T33 904 109 = Xi T32 904 109 from w1132.x _ _ rfl)
        have w1137 : Xi T33 904 113 = Xi T32 904 113 := (show Xi T33 904 113 = Xi T32 904 113 from w1132.x _ _ rfl)
        have w1138 : -1 ≤ Xi T32 904 113 ∧ Xi T32 904 113 ≤ 6411 := hHT32.c _ _
        have w1139 : Xi T33 904 142 = Xi T32 904 142 := (show Xi T33 904 142 = Xi T32 904 142 from w1132.x _ _ rfl)
        have w1141 : Xi T33 904 69 = Xi T32 904 69 := (show Xi T33 904 69 = Xi T32 904 69 from w1132.x _ _ rfl)
        have w1143 : Xi T33 904 70 = Xi T32 904 70 := (show Xi T33 904 70 = Xi T32 904 70 from w1132.x _ _ rfl)
        have w1145 : Xi T33 904 71 = Xi T32 904 71 := (show Xi T33 904 71 = Xi T32 904 71 from w1132.x _ _ rfl)
        have w1147 : Xi T33 904 72 = Xi T32 904 72 := (show Xi T33 904 72 = Xi T32 904 72 from w1132.x _ _ rfl)
        have w1149 : Xi T33 904 75 = Xi T32 904 75 := (show Xi T33 904 75 = Xi T32 904 75 from w1132.x _ _ rfl)
        have w1151 : Xi T33 904 78 = Xi T32 904 78 := (show Xi T33 904 78 = Xi T32 904 78 from w1132.x _ _ rfl)
        exact Rl_weak (C432 _ T33 hHT33 hFT33 (v1) (v2) (v5) (0) (by omega) (by omega) (by omega) (by omega) (by omega) (by omega) (by omega) (by omega) (by omega) (by omega) (by omega) (by omega) (by omega) (by omega) (by omega) (by omega) (by omega) (by first | exact fun q => E533 q | exact fun q => E432 (by omega) | exact fun q i a b => E361 (by omega) i a (by omega)) (by first | exact fun q i a b => absurd b (by omega) | exact F533) rfl) (And.intro rfl (And.intro rfl (And.intro rfl (And.intro rfl (And.intro rfl (True.intro))))))
      · refine l_aload_n rfl rfl ?_
        refine l_bipush rfl rfl ?_
        refine l_iload_n rfl rfl ?_
        refine l_callV rfl rfl rfl (t_mo_note hHT32 7 v2 ⟨by omega, by omega⟩ ⟨by omega, by omega⟩ _) ?_
        rintro _ T34 ⟨hHT34, w1165, rfl, w1163⟩
        have hFT34 : FR md_mo_askFifteen S T34 := FR.tr hFT32 w1165 rfl
        show Rl _ _ _ _ _ [] _ _
        refine l_return rfl rfl ?_
        have w1166 : 0 ≤ Xi T34 904 106 ∧ Xi T34 904 106 ≤ 9 := hHT34.c _ _
        have w1167 : Xi T34 904 108 = Xi T32 904 108 := (show Xi T34 904 108 = Xi T32 904 108 from w1165.x _ _ rfl)
        have w1168 : 0 ≤ Xi T32 904 108 ∧ Xi T32 904 108 ≤ 2600 := hHT32.c _ _
        have w1169 : Xi T34 904 109 = Xi T32 904 109 := (show Xi T34 904 109 = Xi T32 904 109 from w1165.x _ _ rfl)
        have w1170 : Xi T34 904 110 = Xi T32 904 110 := (show Xi T34 904 110 = Xi T32 904 110 from w1165.x _ _ rfl)
        have w1171 : 0 ≤ Xi T32 904 110 ∧ Xi T32 904 110 ≤ 15 := hHT32.c _ _
        have w1172 : Xi T34 904 112 = Xi T32 904 112 := (show Xi T34 904 112 = Xi T32 904 112 from w1165.x _ _ rfl)
        have w1173 : 0 ≤ Xi T32 904 112 ∧ Xi T32 904 112 ≤ 6 := hHT32.c _ _
        have w1174 : Xi T34 904 113 = Xi T32 904 113 := (show Xi T34 904 113 = Xi T32 904 113 from w1165.x _ _ rfl)
        have w1175 : -1 ≤ Xi T32 904 113 ∧ Xi T32 904 113 ≤ 6411 := hHT32.c _ _
        have w1176 : Xi T34 904 142 = Xi T32 904 142 := (show Xi T34 904 142 = Xi T32 904 142 from w1165.x _ _ rfl)
        have w1178 : Xi T34 904 69 = Xi T32 904 69 := (show Xi T34 904 69 = Xi T32 904 69 from w1165.x _ _ rfl)
        have w1180 : Xi T34 904 70 = Xi T32 904 70 := (show Xi T34 904 70 = Xi T32 904 70 from w1165.x _ _ rfl)
        have w1182 : Xi T34 904 71 = Xi T32 904 71 := (show Xi T34 904 71 = Xi T32 904 71 from w1165.x _ _ rfl)
        have w1184 : Xi T34 904 72 = Xi T32 904 72 := (show Xi T34 904 72 = Xi T32 904 72 from w1165.x _ _ rfl)
        have w1186 : Xi T34 904 75 = Xi T32 904 75 := (show Xi T34 904 75 = Xi T32 904 75 from w1165.x _ _ rfl)
        have w1188 : Xi T34 904 78 = Xi T32 904 78 := (show Xi T34 904 78 = Xi T32 904 78 from w1165.x _ _ rfl)
        have w1190 : Xi T34 967 0 = Xi T32 967 0 := (show Xi T34 967 0 = Xi T32 967 0 from w1165.x _ _ rfl)
        have w1191 : -1 ≤ Xi T32 967 0 ∧ Xi T32 967 0 ≤ 6411 := hHT32.c _ _
        exact ⟨hHT34, hFT34, rfl, (by first | exact fun q e => ⟨by omega, A121 (by omega)⟩ | exact fun q e => absurd e (by omega) | exact fun q => absurd q (by omega)), (by first | exact fun q e => absurd e (by omega) | exact fun q => absurd q (by omega) | exact (fun _ => fun q e => (by have t := F215 q; rw [show r2R S (Xi S 904 71) 2 3 = v3 by omega]; exact ⟨by omega, t.1 (by omega), t.2⟩)) F215), (by first | exact fun q e => absurd e (by omega) | exact fun q => absurd q (by omega) | exact (fun _ => fun q e => (by have t := (RDV_FR w1165 rfl (by assumption : RDV T32 _)) (by omega); exact ⟨O349 (by omega), by rw [← hFT34.x 904 16 rfl]; exact t.1, fun i hi => (adx_s (t.2 i hi) (hFT34.x 904 23 rfl) (hFT34.x 904 32 rfl) (fun j => (hFT34.cx 922 rfl j).1)).1⟩)) O349), (by first | exact fun q a b c => absurd (by omega) a | exact fun q a b c => absurd (by omega) b | exact fun q a b c => absurd (by omega) c | exact fun q => absurd q (by omega) | exact fun q a b c i x y => ⟨E432 (by omega) i x (by omega), F432 (by omega) i x (by omega)⟩)⟩
    · refine l_aload_n rfl rfl ?_
      refine l_aload_n rfl rfl ?_
      refine l_iload_n rfl rfl ?_
      refine l_iload rfl rfl ?_
      refine l_iadd rfl ?_
      refine l_iconst rfl ?_
      refine l_callV rfl rfl rfl (t_mo_meansRun__2 hHT32 n (v1 + v7) 4 ⟨by omega, by omega⟩ ⟨by omega, by omega⟩ (by first | assumption | exact (TK_FR hFT32 rfl (by assumption : TK S _))) (by first | assumption | exact (RNV_FR hFT32 rfl (by assumption : RNV S _))) (by first | assumption | omega) (by first | assumption | exact (LXM_FR hFT32 rfl (by assumption : LXM S))) _) ?_
      rintro _ _ ⟨rfl, z1204, rfl, w1204, w1202, w1203⟩
      show Rl _ _ _ _ _ [iv z1204, .ref 904] _ _
      have r377 : z1204 = rnR S (Xi S 904 71 + v7) 4 := by have t := (by assumption : z1204 = rnR T32 _ _).trans (rnR_FR hFT32 rfl rfl); first | exact t | (rw [t]; exact congrArg (fun x : Int => rnR S x 4) (by omega))
      refine l_iconst rfl ?_
      refine l_icmp_eq rfl rfl (by unfold rg; omega) (by unfold rg; omega) (fun w1205 => ?_) (fun w1206 => ?_)
      · refine l_iconst rfl ?_
        refine l_iconst rfl ?_
        refine l_aload_n rfl rfl ?_
        refine l_gfr rfl rfl rfl rfl rfl (hHT32.r 904 67 950 rfl) ?_
        refine l_iload_n rfl rfl ?_
        refine l_iload rfl rfl ?_
        refine l_iadd rfl ?_
        refine l_iaload (n := 2600) rfl rfl (by omega) (by omega) (by unfold rg; omega) ?_
        have w1207 : 0 ≤ (Xi T32 950 (((v1 + v7)).toNat)) ∧ (Xi T32 950 (((v1 + v7)).toNat)) ≤ 5010 := hHT32.c _ _
        have e398 : (Xi T32 950 (((v1 + v7)).toNat)) ≤ n := by rw [(hFT32.cx 950 rfl _).1]; exact hrf _ (by omega) (by omega)
        refine l_callV rfl rfl rfl (t_mo_need hHT32 0 4 (Xi T32 950 (((v1 + v7)).toNat)) ⟨by omega, by omega⟩ ⟨by omega, by omega⟩ ⟨by omega, by omega⟩ _) ?_
        rintro _ T35 ⟨hHT35, w1221, rfl, w1218, w1219⟩
        have hFT35 : FR md_mo_askFifteen S T35 := FR.tr hFT32 w1221 rfl
        show Rl _ _ _ _ _ [] _ _
        refine l_iinc rfl rfl rfl rfl ?_
        refine l_goto rfl rfl ?_
        have w1222 : 0 ≤ Xi T35 904 106 ∧ Xi T35 904 106 ≤ 9 := hHT35.c _ _
        have w1223 : Xi T35 904 108 = Xi T32 904 108 := (show Xi T35 904 108 = Xi T32 904 108 from w1221.x _ _ rfl)
        have w1224 : 0 ≤ Xi T32 904 108 ∧ Xi T32 904 108 ≤ 2600 := hHT32.c _ _
        have w1225 : Xi T35 904 109 = Xi T32 904 109 := (show Xi T35 904 109 = Xi T32 904 109 from w1221.x _ _ rfl)
        have w1226 : Xi T35 904 113 = Xi T32 904 113 := (show Xi T35 904 113 = Xi T32 904 113 from w1221.x _ _ rfl)
        have w1227 : -1 ≤ Xi T32 904 113 ∧ Xi T32 904 113 ≤ 6411 := hHT32.c _ _
        have w1228 : Xi T35 904 142 = Xi T32 904 142 := (show Xi T35 904 142 = Xi T32 904 142 from w1221.x _ _ rfl)
        have w1230 : Xi T35 904 69 = Xi T32 904 69 := (show Xi T35 904 69 = Xi T32 904 69 from w1221.x _ _ rfl)
        have w1232 : Xi T35 904 70 = Xi T32 904 70 := (show Xi T35 904 70 = Xi T32 904 70 from w1221.x _ _ rfl)
        have w1234 : Xi T35 904 71 = Xi T32 904 71 := (show Xi T35 904 71 = Xi T32 904 71 from w1221.x _ _ rfl)
        have w1236 : Xi T35 904 72 = Xi T32 904 72 := (show Xi T35 904 72 = Xi T32 904 72 from w1221.x _ _ rfl)
        have w1238 : Xi T35 904 75 = Xi T32 904 75 := (show Xi T35 904 75 = Xi T32 904 75 from w1221.x _ _ rfl)
        have w1240 : Xi T35 904 78 = Xi T32 904 78 := (show Xi T35 904 78 = Xi T32 904 78 from w1221.x _ _ rfl)
        exact Rl_weak (ih361 _ (by omega) T35 hHT35 hFT35 (v1) (v2) (v5) (v6) ((v7 + 1)) (by omega) (by omega) (by omega) (by omega) (by omega) (by omega) (by omega) (by omega) (by omega) (by omega) (by omega) (by omega) (by omega) (by omega) (by omega) (by omega) (by omega) (by first | exact fun q i a b => absurd b (by omega) | exact fun q i a b => (Int.lt_or_le i v7).elim (fun h => E361 (by omega) i a h) (fun h => by rw [show i = v7 by omega]; omega)) rfl) (And.intro rfl (And.intro rfl (And.intro rfl (And.intro rfl (And.intro rfl (And.intro rfl (True.intro)))))))
      · refine l_iconst rfl ?_
        refine l_goto rfl rfl ?_
        refine l_iconst rfl ?_
        refine l_aload_n rfl rfl ?_
        refine l_gfr rfl rfl rfl rfl rfl (hHT32.r 904 67 950 rfl) ?_
        refine l_iload_n rfl rfl ?_
        refine l_iload rfl rfl ?_
        refine l_iadd rfl ?_
        refine l_iaload (n := 2600) rfl rfl (by omega) (by omega) (by unfold rg; omega) ?_
        have w1242 : 0 ≤ (Xi T32 950 (((v1 + v7)).toNat)) ∧ (Xi T32 950 (((v1 + v7)).toNat)) ≤ 5010 := hHT32.c _ _
        have e398 : (Xi T32 950 (((v1 + v7)).toNat)) ≤ n := by rw [(hFT32.cx 950 rfl _).1]; exact hrf _ (by omega) (by omega)
        refine l_callV rfl rfl rfl (t_mo_need hHT32 1 4 (Xi T32 950 (((v1 + v7)).toNat)) ⟨by omega, by omega⟩ ⟨by omega, by omega⟩ ⟨by omega, by omega⟩ _) ?_
        rintro _ T36 ⟨hHT36, w1256, rfl, w1253, w1254⟩
        have hFT36 : FR md_mo_askFifteen S T36 := FR.tr hFT32 w1256 rfl
        show Rl _ _ _ _ _ [] _ _
        refine l_iinc rfl rfl rfl rfl ?_
        refine l_goto rfl rfl ?_
        have w1257 : 0 ≤ Xi T36 904 106 ∧ Xi T36 904 106 ≤ 9 := hHT36.c _ _
        have w1258 : Xi T36 904 108 = Xi T32 904 108 := (show Xi T36 904 108 = Xi T32 904 108 from w1256.x _ _ rfl)
        have w1259 : 0 ≤ Xi T32 904 108 ∧ Xi T32 904 108 ≤ 2600 := hHT32.c _ _
        have w1260 : Xi T36 904 109 = Xi T32 904 109 := (show Xi T36 904 109 = Xi T32 904 109 from w1256.x _ _ rfl)
        have w1261 : Xi T36 904 113 = Xi T32 904 113 := (show Xi T36 904 113 = Xi T32 904 113 from w1256.x _ _ rfl)
        have w1262 : -1 ≤ Xi T32 904 113 ∧ Xi T32 904 113 ≤ 6411 := hHT32.c _ _
        have w1263 : Xi T36 904 142 = Xi T32 904 142 := (show Xi T36 904 142 = Xi T32 904 142 from w1256.x _ _ rfl)
        have w1265 : Xi T36 904 69 = Xi T32 904 69 := (show Xi T36 904 69 = Xi T32 904 69 from w1256.x _ _ rfl)
        have w1267 : Xi T36 904 70 = Xi T32 904 70 := (show Xi T36 904 70 = Xi T32 904 70 from w1256.x _ _ rfl)
        have w1269 : Xi T36 904 71 = Xi T32 904 71 := (show Xi T36 904 71 = Xi T32 904 71 from w1256.x _ _ rfl)
        have w1271 : Xi T36 904 72 = Xi T32 904 72 := (show Xi T36 904 72 = Xi T32 904 72 from w1256.x _ _ rfl)
        have w1273 : Xi T36 904 75 = Xi T32 904 75 := (show Xi T36 904 75 = Xi T32 904 75 from w1256.x _ _ rfl)
        have w1275 : Xi T36 904 78 = Xi T32 904 78 := (show Xi T36 904 78 = Xi T32 904 78 from w1256.x _ _ rfl)
        exact Rl_weak (ih361 _ (by omega) T36 hHT36 hFT36 (v1) (v2) (v5) (v6) ((v7 + 1)) (by omega) (by omega) (by omega) (by omega) (by omega) (by omega) (by omega) (by omega) (by omega) (by omega) (by omega) (by omega) (by omega) (by omega) (by omega) (by omega) (by omega) (by first | exact fun q i a b => absurd b (by omega) | exact fun q i a b => (Int.lt_or_le i v7).elim (fun h => E361 (by omega) i a h) (fun h => by rw [show i = v7 by omega]; omega)) rfl) (And.intro rfl (And.intro rfl (And.intro rfl (And.intro rfl (And.intro rfl (And.intro rfl (True.intro)))))))
set_option maxRecDepth 100000 in
set_option maxHeartbeats 4000000 in
theorem c340_mo_askFifteen {S : sS} (hH : HI S) (n : Nat) (hT : TK S n) (hv : RNV S n) (hM : LXM S) (hN : NWV S) (hB : ABV S) (hC : DCM S) (hl : Xi S 904 71 + Xi S 904 72 ≤ Xi S 904 69) (h1 : 1 ≤ Xi S 904 72) (h9 : Xi S 904 108 = 0) (hw : 0 ≤ Xi S 904 78 ∧ Xi S 904 78 < Xi S 904 69) (d : Nat) : ∀  (T37 : sS) (_ : HI T37) (_ : FR md_mo_askFifteen S T37) (v1 : Int) (v2 : Int) (v5 : Int) (v6 : Int), (0 ≤ v1 ∧ v1 ≤ 2600) → (0 ≤ v2 ∧ v2 ≤ 5001) → (0 ≤ v5 ∧ v5 ≤ 1) → (0 ≤ v6 ∧ v6 ≤ 1) → (Xi T37 904 69 = Xi S 904 69) → (Xi T37 904 70 = Xi S 904 70) → (Xi T37 904 71 = Xi S 904 71) → (Xi T37 904 72 = Xi S 904 72) → (Xi T37 904 75 = Xi S 904 75) → (Xi T37 904 78 = Xi S 904 78) → (v1 = Xi S 904 71) → (v2 = Xi S 950 (Xi S 904 78).toNat) → (Xi T37 904 108 = 0) → (NWV T37) → (Xi T37 904 142 = 3 → Xi T37 904 109 ≠ 0) → (3 ≤ Xi T37 904 142 ∧ Xi T37 904 142 ≤ 4) → (RDV T37 0) → Rl lay0 (d + 10) m_mo_askFifteen 340 [(0, .ref 904), (1, iv v1), (2, iv v2), (5, iv v5), (6, iv v6)] [] T37 (Q_mo_askFifteen S n) := by
  have C361 := c361_mo_askFifteen hH n hT hv hM hN hB hC hl h1 h9 hw d 
  have hF : FR md_mo_askFifteen S S := FR.rf
  have w1 : 0 ≤ Xi S 904 106 ∧ Xi S 904 106 ≤ 9 := hH.c _ _
  have w2 : 0 ≤ Xi S 904 108 ∧ Xi S 904 108 ≤ 2600 := hH.c _ _
  have w3 : -2147483648 ≤ Xi S 904 109 ∧ Xi S 904 109 ≤ 2147483647 := Xi_rgI
  have w4 : -1 ≤ Xi S 904 113 ∧ Xi S 904 113 ≤ 6411 := hH.c _ _
  have w5 : 0 ≤ Xi S 904 142 ∧ Xi S 904 142 ≤ 4 := hH.c _ _
  have w6 : 0 ≤ Xi S 904 16 ∧ Xi S 904 16 ≤ 16 := hH.c _ _
  have w7 : 0 ≤ Xi S 904 30 ∧ Xi S 904 30 ≤ 64 := hH.c _ _
  have w8 : 0 ≤ Xi S 904 69 ∧ Xi S 904 69 ≤ 2600 := hH.c _ _
  have w9 : 0 ≤ Xi S 904 70 ∧ Xi S 904 70 ≤ 20 := hH.c _ _
  have w10 : 0 ≤ Xi S 904 71 ∧ Xi S 904 71 ≤ 2600 := hH.c _ _
  have w11 : 0 ≤ Xi S 904 72 ∧ Xi S 904 72 ≤ 2600 := hH.c _ _
  have w12 : 0 ≤ Xi S 904 75 ∧ Xi S 904 75 ≤ 1 := hH.c _ _
  have w13 : -2 ≤ Xi S 904 78 ∧ Xi S 904 78 ≤ 5010 := hH.c _ _
  have hn5 := hT.1
  have hc69 : 0 ≤ Xi S 904 69 ∧ Xi S 904 69 ≤ 2600 := hH.c _ _
  have hc71 : 0 ≤ Xi S 904 71 ∧ Xi S 904 71 ≤ 2600 := hH.c _ _
  have hc72 : 0 ≤ Xi S 904 72 ∧ Xi S 904 72 ≤ 2600 := hH.c _ _
  have hrf : ∀ r : Int, 0 ≤ r → r < Xi S 904 69 → Xi S 950 r.toNat ≤ n := fun r a b => by have := hv r.toNat (by omega); omega
  have hc3 : 0 ≤ Xi S 904 23 ∧ Xi S 904 23 ≤ 24 := hH.c _ _
  have hc19 : 0 ≤ Xi S 904 19 ∧ Xi S 904 19 ≤ 24 := hH.c _ _
  have hc32 : 0 ≤ Xi S 904 32 ∧ Xi S 904 32 ≤ 12 := hH.c _ _
  have hqw : Xi S 950 (Xi S 904 78).toNat + Xi S 951 (Xi S 904 78).toNat ≤ n ∧ 1 ≤ Xi S 951 (Xi S 904 78).toNat := hv (Xi S 904 78).toNat (by omega)
  have hc16 : 0 ≤ Xi S 904 16 ∧ Xi S 904 16 ≤ 16 := hH.c _ _
  have hq7 : 0 ≤ Xi S 950 (Xi S 904 78).toNat := (hH.c 950 _).1
  intro T37 hHT37 hFT37 v1 v2 v5 v6 w1277 w1278 w1279 w1280 w1281 w1282 w1283 w1284 w1285 w1286 w1287 w1288 w1289 N340 w1290 w1291 R340
  have w1292 : Xi T37 904 15 = Xi S 904 15 := hFT37.x _ _ rfl
  have w1293 : Xi T37 904 16 = Xi S 904 16 := hFT37.x _ _ rfl
  have w1294 : Xi T37 904 30 = Xi S 904 30 := hFT37.x _ _ rfl
  have w1295 : Xi T37 904 69 = Xi S 904 69 := hFT37.x _ _ rfl
  have w1296 : Xi T37 904 70 = Xi S 904 70 := hFT37.x _ _ rfl
  have w1297 : Xi T37 904 71 = Xi S 904 71 := hFT37.x _ _ rfl
  have w1298 : Xi T37 904 72 = Xi S 904 72 := hFT37.x _ _ rfl
  have w1299 : Xi T37 904 75 = Xi S 904 75 := hFT37.x _ _ rfl
  have w1300 : Xi T37 904 78 = Xi S 904 78 := hFT37.x _ _ rfl
  have w1301 : 0 ≤ Xi T37 904 108 ∧ Xi T37 904 108 ≤ 2600 := hHT37.c _ _
  have w1302 : -2147483648 ≤ Xi T37 904 109 ∧ Xi T37 904 109 ≤ 2147483647 := Xi_rgI
  have w1303 : 0 ≤ Xi T37 904 142 ∧ Xi T37 904 142 ≤ 4 := hHT37.c _ _
  have w1304 : 0 ≤ Xi T37 904 69 ∧ Xi T37 904 69 ≤ 2600 := hHT37.c _ _
  have w1305 : 0 ≤ Xi T37 904 70 ∧ Xi T37 904 70 ≤ 20 := hHT37.c _ _
  have w1306 : 0 ≤ Xi T37 904 71 ∧ Xi T37 904 71 ≤ 2600 := hHT37.c _ _
  have w1307 : 0 ≤ Xi T37 904 72 ∧ Xi T37 904 72 ≤ 2600 := hHT37.c _ _
  have w1308 : 0 ≤ Xi T37 904 75 ∧ Xi T37 904 75 ≤ 1 := hHT37.c _ _
  have w1309 : -2 ≤ Xi T37 904 78 ∧ Xi T37 904 78 ≤ 5010 := hHT37.c _ _
  refine l_aload_n rfl rfl ?_
  refine l_gfi rfl rfl rfl rfl rfl ?_
  refine l_iconst rfl ?_
  refine l_icmp_ne rfl rfl (by unfold rg; omega) (by unfold rg; omega) (fun w1310 => ?_) (fun w1311 => ?_)
  · refine l_iconst rfl ?_
    refine l_istore rfl rfl rfl ?_
    have w1312 : 0 ≤ Xi T37 904 106 ∧ Xi T37 904 106 ≤ 9 := hHT37.c _ _
    have w1314 : -1 ≤ Xi T37 904 113 ∧ Xi T37 904 113 ≤ 6411 := hHT37.c _ _
    exact Rl_weak (C361 _ T37 hHT37 hFT37 (v1) (v2) (v5) (v6) (0) (by omega) (by omega) (by omega) (by omega) (by omega) (by omega) (by omega) (by omega) (by omega) (by omega) (by omega) (by omega) (by omega) (by omega) (by omega) (by omega) (by omega) (by first | exact fun q i a b => absurd b (by omega) | exact fun q i a b => (Int.lt_or_le i v7).elim (fun h => E361 (by omega) i a h) (fun h => by rw [show i = v7 by omega]; omega)) rfl) (And.intro rfl (And.intro rfl (And.intro rfl (And.intro rfl (And.intro rfl (And.intro rfl (True.intro)))))))
  · refine l_aload_n rfl rfl ?_
    have w1322 : 0 ≤ Xi T37 904 106 ∧ Xi T37 904 106 ≤ 9 := hHT37.c _ _
    refine l_callV rfl rfl rfl (t_mo_objectsOrNew hHT37 n (by first | assumption | exact (TK_FR hFT37 rfl (by assumption : TK S _))) (by first | assumption | exact (RNV_FR hFT37 rfl (by assumption : RNV S _))) (by first | assumption | exact (LXM_FR hFT37 rfl (by assumption : LXM S))) (by first | assumption | exact (by assumption : NWV T37)) (by first | assumption | omega) (by omega) _) ?_
    rintro _ T38 ⟨hHT38, w1336, rfl, w1332, f349, w1333, w1334⟩
    have hFT38 : FR md_mo_askFifteen S T38 := FR.tr hFT37 w1336 rfl
    show Rl _ _ _ _ _ [] _ _
    have O349 : Xi T38 904 106 = 0 → ONA S := fun q => ona_bk hFT37 rfl (f349 q)
    clear f349
    refine l_aload_n rfl rfl ?_
    refine l_iload_n rfl rfl ?_
    have w1337 : 0 ≤ Xi T38 904 106 ∧ Xi T38 904 106 ≤ 9 := hHT38.c _ _
    refine l_callV rfl rfl rfl (t_mo_oneReading hHT38 v2 ⟨by omega, by omega⟩ _) ?_
    rintro _ T39 ⟨hHT39, w1358, rfl, w1356⟩
    have hFT39 : FR md_mo_askFifteen S T39 := FR.tr hFT38 w1358 rfl
    show Rl _ _ _ _ _ [] _ _
    refine l_return rfl rfl ?_
    have w1359 : 0 ≤ Xi T39 904 106 ∧ Xi T39 904 106 ≤ 9 := hHT39.c _ _
    have w1360 : Xi T39 904 108 = Xi T38 904 108 := (show Xi T39 904 108 = Xi T38 904 108 from w1358.x _ _ rfl)
    have w1361 : 0 ≤ Xi T38 904 108 ∧ Xi T38 904 108 ≤ 2600 := hHT38.c _ _
    have w1362 : Xi T39 904 109 = Xi T37 904 109 := (show Xi T39 904 109 = Xi T38 904 109 from w1358.x _ _ rfl).trans ((show Xi T38 904 109 = Xi T37 904 109 from w1336.x _ _ rfl))
    have w1363 : Xi T39 904 110 = Xi T37 904 110 := (show Xi T39 904 110 = Xi T38 904 110 from w1358.x _ _ rfl).trans ((show Xi T38 904 110 = Xi T37 904 110 from w1336.x _ _ rfl))
    have w1364 : 0 ≤ Xi T37 904 110 ∧ Xi T37 904 110 ≤ 15 := hHT37.c _ _
    have w1365 : Xi T39 904 112 = Xi T37 904 112 := (show Xi T39 904 112 = Xi T38 904 112 from w1358.x _ _ rfl).trans ((show Xi T38 904 112 = Xi T37 904 112 from w1336.x _ _ rfl))
    have w1366 : 0 ≤ Xi T37 904 112 ∧ Xi T37 904 112 ≤ 6 := hHT37.c _ _
    have w1367 : Xi T39 904 113 = Xi T37 904 113 := (show Xi T39 904 113 = Xi T38 904 113 from w1358.x _ _ rfl).trans ((show Xi T38 904 113 = Xi T37 904 113 from w1336.x _ _ rfl))
    have w1368 : -1 ≤ Xi T37 904 113 ∧ Xi T37 904 113 ≤ 6411 := hHT37.c _ _
    have w1369 : Xi T39 904 142 = Xi T37 904 142 := (show Xi T39 904 142 = Xi T38 904 142 from w1358.x _ _ rfl).trans ((show Xi T38 904 142 = Xi T37 904 142 from w1336.x _ _ rfl))
    have w1371 : Xi T39 904 69 = Xi T37 904 69 := (show Xi T39 904 69 = Xi T38 904 69 from w1358.x _ _ rfl).trans ((show Xi T38 904 69 = Xi T37 904 69 from w1336.x _ _ rfl))
    have w1373 : Xi T39 904 70 = Xi T37 904 70 := (show Xi T39 904 70 = Xi T38 904 70 from w1358.x _ _ rfl).trans ((show Xi T38 904 70 = Xi T37 904 70 from w1336.x _ _ rfl))
    have w1375 : Xi T39 904 71 = Xi T37 904 71 := (show Xi T39 904 71 = Xi T38 904 71 from w1358.x _ _ rfl).trans ((show Xi T38 904 71 = Xi T37 904 71 from w1336.x _ _ rfl))
    have w1377 : Xi T39 904 72 = Xi T37 904 72 := (show Xi T39 904 72 = Xi T38 904 72 from w1358.x _ _ rfl).trans ((show Xi T38 904 72 = Xi T37 904 72 from w1336.x _ _ rfl))
    have w1379 : Xi T39 904 75 = Xi T37 904 75 := (show Xi T39 904 75 = Xi T38 904 75 from w1358.x _ _ rfl).trans ((show Xi T38 904 75 = Xi T37 904 75 from w1336.x _ _ rfl))
    have w1381 : Xi T39 904 78 = Xi T37 904 78 := (show Xi T39 904 78 = Xi T38 904 78 from w1358.x _ _ rfl).trans ((show Xi T38 904 78 = Xi T37 904 78 from w1336.x _ _ rfl))
    have w1383 : Xi T39 967 0 = Xi T37 967 0 := (show Xi T39 967 0 = Xi T38 967 0 from w1358.x _ _ rfl).trans ((show Xi T38 967 0 = Xi T37 967 0 from w1336.x _ _ rfl))
    have w1384 : -1 ≤ Xi T37 967 0 ∧ Xi T37 967 0 ≤ 6411 := hHT37.c _ _
    exact ⟨hHT39, hFT39, rfl, (by first | exact fun q e => ⟨by omega, A121 (by omega)⟩ | exact fun q e => absurd e (by omega) | exact fun q => absurd q (by omega)), (by first | exact fun q e => absurd e (by omega) | exact fun q => absurd q (by omega) | exact (fun _ => fun q e => (by have t := F215 q; rw [show r2R S (Xi S 904 71) 2 3 = v3 by omega]; exact ⟨by omega, t.1 (by omega), t.2⟩)) F215), (by first | exact fun q e => absurd e (by omega) | exact fun q => absurd q (by omega) | exact (fun _ => fun q e => (by have t := (RDV_FR w1358 rfl (RDV_FR w1336 rfl (by assumption : RDV T37 _))) (by omega); exact ⟨O349 (by omega), by rw [← hFT39.x 904 16 rfl]; exact t.1, fun i hi => (adx_s (t.2 i hi) (hFT39.x 904 23 rfl) (hFT39.x 904 32 rfl) (fun j => (hFT39.cx 922 rfl j).1)).1⟩)) O349), (by first | exact fun q a b c => absurd (by omega) a | exact fun q a b c => absurd (by omega) b | exact fun q a b c => absurd (by omega) c | exact fun q => absurd q (by omega) | exact fun q a b c i x y => ⟨E432 (by omega) i x (by omega), F432 (by omega) i x (by omega)⟩)⟩
set_option maxRecDepth 100000 in
set_option maxHeartbeats 4000000 in
theorem c321_mo_askFifteen {S : sS} (hH : HI S) (n : Nat) (hT : TK S n) (hv : RNV S n) (hM : LXM S) (hN : NWV S) (hB : ABV S) (hC : DCM S) (hl : Xi S 904 71 + Xi S 904 72 ≤ Xi S 904 69) (h1 : 1 ≤ Xi S 904 72) (h9 : Xi S 904 108 = 0) (hw : 0 ≤ Xi S 904 78 ∧ Xi S 904 78 < Xi S 904 69) (d : Nat) : ∀  (T40 : sS) (_ : HI T40) (_ : FR md_mo_askFifteen S T40) (v1 : Int) (v2 : Int) (v5 : Int) (v6 : Int), (0 ≤ v1 ∧ v1 ≤ 2600) → (0 ≤ v2 ∧ v2 ≤ 5001) → (0 ≤ v5 ∧ v5 ≤ 1) → (0 ≤ v6 ∧ v6 ≤ 1) → (Xi T40 904 69 = Xi S 904 69) → (Xi T40 904 70 = Xi S 904 70) → (Xi T40 904 71 = Xi S 904 71) → (Xi T40 904 72 = Xi S 904 72) → (Xi T40 904 75 = Xi S 904 75) → (Xi T40 904 78 = Xi S 904 78) → (v1 = Xi S 904 71) → (v2 = Xi S 950 (Xi S 904 78).toNat) → (Xi T40 904 108 = 0) → (NWV T40) → (v6 = 1 → Xi T40 904 109 ≠ 0) → (RDV T40 0) → Rl lay0 (d + 10) m_mo_askFifteen 321 [(0, .ref 904), (1, iv v1), (2, iv v2), (5, iv v5), (6, iv v6)] [] T40 (Q_mo_askFifteen S n) := by
  have C340 := c340_mo_askFifteen hH n hT hv hM hN hB hC hl h1 h9 hw d 
  have hF : FR md_mo_askFifteen S S := FR.rf
  have w1 : 0 ≤ Xi S 904 106 ∧ Xi S 904 106 ≤ 9 := hH.c _ _
  have w2 : 0 ≤ Xi S 904 108 ∧ Xi S 904 108 ≤ 2600 := hH.c _ _
  have w3 : -2147483648 ≤ Xi S 904 109 ∧ Xi S 904 109 ≤ 2147483647 := Xi_rgI
  have w4 : -1 ≤ Xi S 904 113 ∧ Xi S 904 113 ≤ 6411 := hH.c _ _
  have w5 : 0 ≤ Xi S 904 142 ∧ Xi S 904 142 ≤ 4 := hH.c _ _
  have w6 : 0 ≤ Xi S 904 16 ∧ Xi S 904 16 ≤ 16 := hH.c _ _
  have w7 : 0 ≤ Xi S 904 30 ∧ Xi S 904 30 ≤ 64 := hH.c _ _
  have w8 : 0 ≤ Xi S 904 69 ∧ Xi S 904 69 ≤ 2600 := hH.c _ _
  have w9 : 0 ≤ Xi S 904 70 ∧ Xi S 904 70 ≤ 20 := hH.c _ _
  have w10 : 0 ≤ Xi S 904 71 ∧ Xi S 904 71 ≤ 2600 := hH.c _ _
  have w11 : 0 ≤ Xi S 904 72 ∧ Xi S 904 72 ≤ 2600 := hH.c _ _
  have w12 : 0 ≤ Xi S 904 75 ∧ Xi S 904 75 ≤ 1 := hH.c _ _
  have w13 : -2 ≤ Xi S 904 78 ∧ Xi S 904 78 ≤ 5010 := hH.c _ _
  have hn5 := hT.1
  have hc69 : 0 ≤ Xi S 904 69 ∧ Xi S 904 69 ≤ 2600 := hH.c _ _
  have hc71 : 0 ≤ Xi S 904 71 ∧ Xi S 904 71 ≤ 2600 := hH.c _ _
  have hc72 : 0 ≤ Xi S 904 72 ∧ Xi S 904 72 ≤ 2600 := hH.c _ _
  have hrf : ∀ r : Int, 0 ≤ r → r < Xi S 904 69 → Xi S 950 r.toNat ≤ n := fun r a b => by have := hv r.toNat (by omega); omega
  have hc3 : 0 ≤ Xi S 904 23 ∧ Xi S 904 23 ≤ 24 := hH.c _ _
  have hc19 : 0 ≤ Xi S 904 19 ∧ Xi S 904 19 ≤ 24 := hH.c _ _
  have hc32 : 0 ≤ Xi S 904 32 ∧ Xi S 904 32 ≤ 12 := hH.c _ _
  have hqw : Xi S 950 (Xi S 904 78).toNat + Xi S 951 (Xi S 904 78).toNat ≤ n ∧ 1 ≤ Xi S 951 (Xi S 904 78).toNat := hv (Xi S 904 78).toNat (by omega)
  have hc16 : 0 ≤ Xi S 904 16 ∧ Xi S 904 16 ≤ 16 := hH.c _ _
  have hq7 : 0 ≤ Xi S 950 (Xi S 904 78).toNat := (hH.c 950 _).1
  intro T40 hHT40 hFT40 v1 v2 v5 v6 w1385 w1386 w1387 w1388 w1389 w1390 w1391 w1392 w1393 w1394 w1395 w1396 w1397 N321 w1398 R321
  have w1399 : Xi T40 904 15 = Xi S 904 15 := hFT40.x _ _ rfl
  have w1400 : Xi T40 904 16 = Xi S 904 16 := hFT40.x _ _ rfl
  have w1401 : Xi T40 904 30 = Xi S 904 30 := hFT40.x _ _ rfl
  have w1402 : Xi T40 904 69 = Xi S 904 69 := hFT40.x _ _ rfl
  have w1403 : Xi T40 904 70 = Xi S 904 70 := hFT40.x _ _ rfl
  have w1404 : Xi T40 904 71 = Xi S 904 71 := hFT40.x _ _ rfl
  have w1405 : Xi T40 904 72 = Xi S 904 72 := hFT40.x _ _ rfl
  have w1406 : Xi T40 904 75 = Xi S 904 75 := hFT40.x _ _ rfl
  have w1407 : Xi T40 904 78 = Xi S 904 78 := hFT40.x _ _ rfl
  have w1408 : 0 ≤ Xi T40 904 108 ∧ Xi T40 904 108 ≤ 2600 := hHT40.c _ _
  have w1409 : -2147483648 ≤ Xi T40 904 109 ∧ Xi T40 904 109 ≤ 2147483647 := Xi_rgI
  have w1410 : 0 ≤ Xi T40 904 69 ∧ Xi T40 904 69 ≤ 2600 := hHT40.c _ _
  have w1411 : 0 ≤ Xi T40 904 70 ∧ Xi T40 904 70 ≤ 20 := hHT40.c _ _
  have w1412 : 0 ≤ Xi T40 904 71 ∧ Xi T40 904 71 ≤ 2600 := hHT40.c _ _
  have w1413 : 0 ≤ Xi T40 904 72 ∧ Xi T40 904 72 ≤ 2600 := hHT40.c _ _
  have w1414 : 0 ≤ Xi T40 904 75 ∧ Xi T40 904 75 ≤ 1 := hHT40.c _ _
  have w1415 : -2 ≤ Xi T40 904 78 ∧ Xi T40 904 78 ≤ 5010 := hHT40.c _ _
  refine l_aload_n rfl rfl ?_
  refine l_iload rfl rfl ?_
  refine l_if_eq rfl rfl (by unfold rg; omega) (fun w1416 => ?_) (fun w1417 => ?_)
  · refine l_iconst rfl ?_
    refine l_pfi rfl rfl rfl rfl ?_
    obtain ⟨U41, eU41⟩ : ∃ T : sS, T = uI T40 904 142 (Int32.ofInt 4) := ⟨_, rfl⟩
    rw [← eU41]
    have hHU41 : HI U41 := by rw [eU41]; exact HI_w hHT40 (show 0 ≤ 4 by omega) (show 4 ≤ 4 by omega)
    have hFU41 : FR md_mo_askFifteen S U41 := by rw [eU41]; exact FR.wI hFT40 (mdf_i (r := (904, 905, 142, 143)) (List.mem_of_getElem? (i := 9) rfl) (inR_i (by omega) (by omega) (by omega) (by omega)))
    have w1418 : Xi U41 904 142 = 4 := by rw [eU41]; exact Xi_same (by unfold rg; omega)
    have w1419 : Xi U41 904 106 = Xi T40 904 106 := (show Xi U41 904 106 = Xi T40 904 106 from by rw [eU41]; exact Xi_ne (by omega))
    have w1420 : 0 ≤ Xi T40 904 106 ∧ Xi T40 904 106 ≤ 9 := hHT40.c _ _
    have w1421 : Xi U41 904 108 = Xi T40 904 108 := (show Xi U41 904 108 = Xi T40 904 108 from by rw [eU41]; exact Xi_ne (by omega))
    have w1423 : Xi U41 904 109 = Xi T40 904 109 := (show Xi U41 904 109 = Xi T40 904 109 from by rw [eU41]; exact Xi_ne (by omega))
    have w1424 : Xi U41 904 113 = Xi T40 904 113 := (show Xi U41 904 113 = Xi T40 904 113 from by rw [eU41]; exact Xi_ne (by omega))
    have w1425 : -1 ≤ Xi T40 904 113 ∧ Xi T40 904 113 ≤ 6411 := hHT40.c _ _
    have w1426 : 0 ≤ Xi U41 904 142 ∧ Xi U41 904 142 ≤ 4 := hHU41.c _ _
    have w1427 : Xi U41 904 69 = Xi T40 904 69 := (show Xi U41 904 69 = Xi T40 904 69 from by rw [eU41]; exact Xi_ne (by omega))
    have w1429 : Xi U41 904 70 = Xi T40 904 70 := (show Xi U41 904 70 = Xi T40 904 70 from by rw [eU41]; exact Xi_ne (by omega))
    have w1431 : Xi U41 904 71 = Xi T40 904 71 := (show Xi U41 904 71 = Xi T40 904 71 from by rw [eU41]; exact Xi_ne (by omega))
    have w1433 : Xi U41 904 72 = Xi T40 904 72 := (show Xi U41 904 72 = Xi T40 904 72 from by rw [eU41]; exact Xi_ne (by omega))
    have w1435 : Xi U41 904 75 = Xi T40 904 75 := (show Xi U41 904 75 = Xi T40 904 75 from by rw [eU41]; exact Xi_ne (by omega))
    have w1437 : Xi U41 904 78 = Xi T40 904 78 := (show Xi U41 904 78 = Xi T40 904 78 from by rw [eU41]; exact Xi_ne (by omega))
    exact Rl_weak (C340 U41 hHU41 hFU41 (v1) (v2) (v5) (v6) (by omega) (by omega) (by omega) (by omega) (by omega) (by omega) (by omega) (by omega) (by omega) (by omega) (by omega) (by omega) (by omega) (by first | assumption | exact (NWV_FR (FR_e eU41) rfl (by assumption : NWV T40))) (by omega) (by omega) (RDV_FR (FR_e eU41) rfl R321)) (And.intro rfl (And.intro rfl (And.intro rfl (And.intro rfl (And.intro rfl (True.intro))))))
  · refine l_iload rfl rfl ?_
    refine l_if_ne rfl rfl (by unfold rg; omega) (fun w1439 => ?_) (fun w1440 => ?_)
    · refine l_iconst rfl ?_
      refine l_pfi rfl rfl rfl rfl ?_
      obtain ⟨U42, eU42⟩ : ∃ T : sS, T = uI T40 904 142 (Int32.ofInt 4) := ⟨_, rfl⟩
      rw [← eU42]
      have hHU42 : HI U42 := by rw [eU42]; exact HI_w hHT40 (show 0 ≤ 4 by omega) (show 4 ≤ 4 by omega)
      have hFU42 : FR md_mo_askFifteen S U42 := by rw [eU42]; exact FR.wI hFT40 (mdf_i (r := (904, 905, 142, 143)) (List.mem_of_getElem? (i := 9) rfl) (inR_i (by omega) (by omega) (by omega) (by omega)))
      have w1441 : Xi U42 904 142 = 4 := by rw [eU42]; exact Xi_same (by unfold rg; omega)
      have w1442 : Xi U42 904 106 = Xi T40 904 106 := (show Xi U42 904 106 = Xi T40 904 106 from by rw [eU42]; exact Xi_ne (by omega))
      have w1443 : 0 ≤ Xi T40 904 106 ∧ Xi T40 904 106 ≤ 9 := hHT40.c _ _
      have w1444 : Xi U42 904 108 = Xi T40 904 108 := (show Xi U42 904 108 = Xi T40 904 108 from by rw [eU42]; exact Xi_ne (by omega))
      have w1446 : Xi U42 904 109 = Xi T40 904 109 := (show Xi U42 904 109 = Xi T40 904 109 from by rw [eU42]; exact Xi_ne (by omega))
      have w1447 : Xi U42 904 113 = Xi T40 904 113 := (show Xi U42 904 113 = Xi T40 904 113 from by rw [eU42]; exact Xi_ne (by omega))
      have w1448 : -1 ≤ Xi T40 904 113 ∧ Xi T40 904 113 ≤ 6411 := hHT40.c _ _
      have w1449 : 0 ≤ Xi U42 904 142 ∧ Xi U42 904 142 ≤ 4 := hHU42.c _ _
      have w1450 : Xi U42 904 69 = Xi T40 904 69 := (show Xi U42 904 69 = Xi T40 904 69 from by rw [eU42]; exact Xi_ne (by omega))
      have w1452 : Xi U42 904 70 = Xi T40 904 70 := (show Xi U42 904 70 = Xi T40 904 70 from by rw [eU42]; exact Xi_ne (by omega))
      have w1454 : Xi U42 904 71 = Xi T40 904 71 := (show Xi U42 904 71 = Xi T40 904 71 from by rw [eU42]; exact Xi_ne (by omega))
      have w1456 : Xi U42 904 72 = Xi T40 904 72 := (show Xi U42 904 72 = Xi T40 904 72 from by rw [eU42]; exact Xi_ne (by omega))
      have w1458 : Xi U42 904 75 = Xi T40 904 75 := (show Xi U42 904 75 = Xi T40 904 75 from by rw [eU42]; exact Xi_ne (by omega))
      have w1460 : Xi U42 904 78 = Xi T40 904 78 := (show Xi U42 904 78 = Xi T40 904 78 from by rw [eU42]; exact Xi_ne (by omega))
      exact Rl_weak (C340 U42 hHU42 hFU42 (v1) (v2) (v5) (v6) (by omega) (by omega) (by omega) (by omega) (by omega) (by omega) (by omega) (by omega) (by omega) (by omega) (by omega) (by omega) (by omega) (by first | assumption | exact (NWV_FR (FR_e eU42) rfl (by assumption : NWV T40))) (by omega) (by omega) (RDV_FR (FR_e eU42) rfl R321)) (And.intro rfl (And.intro rfl (And.intro rfl (And.intro rfl (And.intro rfl (True.intro))))))
    · refine l_iconst rfl ?_
      refine l_goto rfl rfl ?_
      refine l_pfi rfl rfl rfl rfl ?_
      obtain ⟨U43, eU43⟩ : ∃ T : sS, T = uI T40 904 142 (Int32.ofInt 3) := ⟨_, rfl⟩
      rw [← eU43]
      have hHU43 : HI U43 := by rw [eU43]; exact HI_w hHT40 (show 0 ≤ 3 by omega) (show 3 ≤ 4 by omega)
      have hFU43 : FR md_mo_askFifteen S U43 := by rw [eU43]; exact FR.wI hFT40 (mdf_i (r := (904, 905, 142, 143)) (List.mem_of_getElem? (i := 9) rfl) (inR_i (by omega) (by omega) (by omega) (by omega)))
      have w1462 : Xi U43 904 142 = 3 := by rw [eU43]; exact Xi_same (by unfold rg; omega)
      have w1463 : Xi U43 904 106 = Xi T40 904 106 := (show Xi U43 904 106 = Xi T40 904 106 from by rw [eU43]; exact Xi_ne (by omega))
      have w1464 : 0 ≤ Xi T40 904 106 ∧ Xi T40 904 106 ≤ 9 := hHT40.c _ _
      have w1465 : Xi U43 904 108 = Xi T40 904 108 := (show Xi U43 904 108 = Xi T40 904 108 from by rw [eU43]; exact Xi_ne (by omega))
      have w1467 : Xi U43 904 109 = Xi T40 904 109 := (show Xi U43 904 109 = Xi T40 904 109 from by rw [eU43]; exact Xi_ne (by omega))
      have w1468 : Xi U43 904 113 = Xi T40 904 113 := (show Xi U43 904 113 = Xi T40 904 113 from by rw [eU43]; exact Xi_ne (by omega))
      have w1469 : -1 ≤ Xi T40 904 113 ∧ Xi T40 904 113 ≤ 6411 := hHT40.c _ _
      have w1470 : 0 ≤ Xi U43 904 142 ∧ Xi U43 904 142 ≤ 4 := hHU43.c _ _
      have w1471 : Xi U43 904 69 = Xi T40 904 69 := (show Xi U43 904 69 = Xi T40 904 69 from by rw [eU43]; exact Xi_ne (by omega))
      have w1473 : Xi U43 904 70 = Xi T40 904 70 := (show Xi U43 904 70 = Xi T40 904 70 from by rw [eU43]; exact Xi_ne (by omega))
      have w1475 : Xi U43 904 71 = Xi T40 904 71 := (show Xi U43 904 71 = Xi T40 904 71 from by rw [eU43]; exact Xi_ne (by omega))
      have w1477 : Xi U43 904 72 = Xi T40 904 72 := (show Xi U43 904 72 = Xi T40 904 72 from by rw [eU43]; exact Xi_ne (by omega))
      have w1479 : Xi U43 904 75 = Xi T40 904 75 := (show Xi U43 904 75 = Xi T40 904 75 from by rw [eU43]; exact Xi_ne (by omega))
      have w1481 : Xi U43 904 78 = Xi T40 904 78 := (show Xi U43 904 78 = Xi T40 904 78 from by rw [eU43]; exact Xi_ne (by omega))
      exact Rl_weak (C340 U43 hHU43 hFU43 (v1) (v2) (v5) (v6) (by omega) (by omega) (by omega) (by omega) (by omega) (by omega) (by omega) (by omega) (by omega) (by omega) (by omega) (by omega) (by omega) (by first | assumption | exact (NWV_FR (FR_e eU43) rfl (by assumption : NWV T40))) (by omega) (by omega) (RDV_FR (FR_e eU43) rfl R321)) (And.intro rfl (And.intro rfl (And.intro rfl (And.intro rfl (And.intro rfl (True.intro))))))
set_option maxRecDepth 100000 in
set_option maxHeartbeats 4000000 in
theorem c307_mo_askFifteen {S : sS} (hH : HI S) (n : Nat) (hT : TK S n) (hv : RNV S n) (hM : LXM S) (hN : NWV S) (hB : ABV S) (hC : DCM S) (hl : Xi S 904 71 + Xi S 904 72 ≤ Xi S 904 69) (h1 : 1 ≤ Xi S 904 72) (h9 : Xi S 904 108 = 0) (hw : 0 ≤ Xi S 904 78 ∧ Xi S 904 78 < Xi S 904 69) (d : Nat) : ∀  (T44 : sS) (_ : HI T44) (_ : FR md_mo_askFifteen S T44) (v1 : Int) (v2 : Int) (v5 : Int), (0 ≤ v1 ∧ v1 ≤ 2600) → (0 ≤ v2 ∧ v2 ≤ 5001) → (0 ≤ v5 ∧ v5 ≤ 1) → (Xi T44 904 69 = Xi S 904 69) → (Xi T44 904 70 = Xi S 904 70) → (Xi T44 904 71 = Xi S 904 71) → (Xi T44 904 72 = Xi S 904 72) → (Xi T44 904 75 = Xi S 904 75) → (Xi T44 904 78 = Xi S 904 78) → (v1 = Xi S 904 71) → (v2 = Xi S 950 (Xi S 904 78).toNat) → (Xi T44 904 108 = 0) → (NWV T44) → (RDV T44 0) → Rl lay0 (d + 10) m_mo_askFifteen 307 [(0, .ref 904), (1, iv v1), (2, iv v2), (5, iv v5)] [] T44 (Q_mo_askFifteen S n) := by
  have C321 := c321_mo_askFifteen hH n hT hv hM hN hB hC hl h1 h9 hw d 
  have hF : FR md_mo_askFifteen S S := FR.rf
  have w1 : 0 ≤ Xi S 904 106 ∧ Xi S 904 106 ≤ 9 := hH.c _ _
  have w2 : 0 ≤ Xi S 904 108 ∧ Xi S 904 108 ≤ 2600 := hH.c _ _
  have w3 : -2147483648 ≤ Xi S 904 109 ∧ Xi S 904 109 ≤ 2147483647 := Xi_rgI
  have w4 : -1 ≤ Xi S 904 113 ∧ Xi S 904 113 ≤ 6411 := hH.c _ _
  have w5 : 0 ≤ Xi S 904 142 ∧ Xi S 904 142 ≤ 4 := hH.c _ _
  have w6 : 0 ≤ Xi S 904 16 ∧ Xi S 904 16 ≤ 16 := hH.c _ _
  have w7 : 0 ≤ Xi S 904 30 ∧ Xi S 904 30 ≤ 64 := hH.c _ _
  have w8 : 0 ≤ Xi S 904 69 ∧ Xi S 904 69 ≤ 2600 := hH.c _ _
  have w9 : 0 ≤ Xi S 904 70 ∧ Xi S 904 70 ≤ 20 := hH.c _ _
  have w10 : 0 ≤ Xi S 904 71 ∧ Xi S 904 71 ≤ 2600 := hH.c _ _
  have w11 : 0 ≤ Xi S 904 72 ∧ Xi S 904 72 ≤ 2600 := hH.c _ _
  have w12 : 0 ≤ Xi S 904 75 ∧ Xi S 904 75 ≤ 1 := hH.c _ _
  have w13 : -2 ≤ Xi S 904 78 ∧ Xi S 904 78 ≤ 5010 := hH.c _ _
  have hn5 := hT.1
  have hc69 : 0 ≤ Xi S 904 69 ∧ Xi S 904 69 ≤ 2600 := hH.c _ _
  have hc71 : 0 ≤ Xi S 904 71 ∧ Xi S 904 71 ≤ 2600 := hH.c _ _
  have hc72 : 0 ≤ Xi S 904 72 ∧ Xi S 904 72 ≤ 2600 := hH.c _ _
  have hrf : ∀ r : Int, 0 ≤ r → r < Xi S 904 69 → Xi S 950 r.toNat ≤ n := fun r a b => by have := hv r.toNat (by omega); omega
  have hc3 : 0 ≤ Xi S 904 23 ∧ Xi S 904 23 ≤ 24 := hH.c _ _
  have hc19 : 0 ≤ Xi S 904 19 ∧ Xi S 904 19 ≤ 24 := hH.c _ _
  have hc32 : 0 ≤ Xi S 904 32 ∧ Xi S 904 32 ≤ 12 := hH.c _ _
  have hqw : Xi S 950 (Xi S 904 78).toNat + Xi S 951 (Xi S 904 78).toNat ≤ n ∧ 1 ≤ Xi S 951 (Xi S 904 78).toNat := hv (Xi S 904 78).toNat (by omega)
  have hc16 : 0 ≤ Xi S 904 16 ∧ Xi S 904 16 ≤ 16 := hH.c _ _
  have hq7 : 0 ≤ Xi S 950 (Xi S 904 78).toNat := (hH.c 950 _).1
  intro T44 hHT44 hFT44 v1 v2 v5 w1483 w1484 w1485 w1486 w1487 w1488 w1489 w1490 w1491 w1492 w1493 w1494 N307 R307
  have w1495 : Xi T44 904 15 = Xi S 904 15 := hFT44.x _ _ rfl
  have w1496 : Xi T44 904 16 = Xi S 904 16 := hFT44.x _ _ rfl
  have w1497 : Xi T44 904 30 = Xi S 904 30 := hFT44.x _ _ rfl
  have w1498 : Xi T44 904 69 = Xi S 904 69 := hFT44.x _ _ rfl
  have w1499 : Xi T44 904 70 = Xi S 904 70 := hFT44.x _ _ rfl
  have w1500 : Xi T44 904 71 = Xi S 904 71 := hFT44.x _ _ rfl
  have w1501 : Xi T44 904 72 = Xi S 904 72 := hFT44.x _ _ rfl
  have w1502 : Xi T44 904 75 = Xi S 904 75 := hFT44.x _ _ rfl
  have w1503 : Xi T44 904 78 = Xi S 904 78 := hFT44.x _ _ rfl
  have w1504 : 0 ≤ Xi T44 904 108 ∧ Xi T44 904 108 ≤ 2600 := hHT44.c _ _
  have w1505 : 0 ≤ Xi T44 904 69 ∧ Xi T44 904 69 ≤ 2600 := hHT44.c _ _
  have w1506 : 0 ≤ Xi T44 904 70 ∧ Xi T44 904 70 ≤ 20 := hHT44.c _ _
  have w1507 : 0 ≤ Xi T44 904 71 ∧ Xi T44 904 71 ≤ 2600 := hHT44.c _ _
  have w1508 : 0 ≤ Xi T44 904 72 ∧ Xi T44 904 72 ≤ 2600 := hHT44.c _ _
  have w1509 : 0 ≤ Xi T44 904 75 ∧ Xi T44 904 75 ≤ 1 := hHT44.c _ _
  have w1510 : -2 ≤ Xi T44 904 78 ∧ Xi T44 904 78 ≤ 5010 := hHT44.c _ _
  refine l_aload_n rfl rfl ?_
  refine l_gfi rfl rfl rfl rfl rfl ?_
  have w1511 : -2147483648 ≤ (Xi T44 904 109) ∧ (Xi T44 904 109) ≤ 2147483647 := Xi_rgI
  refine l_if_le rfl rfl (by unfold rg; omega) (fun w1512 => ?_) (fun w1513 => ?_)
  · refine l_iconst rfl ?_
    refine l_istore rfl rfl rfl ?_
    have w1514 : 0 ≤ Xi T44 904 106 ∧ Xi T44 904 106 ≤ 9 := hHT44.c _ _
    have w1516 : -1 ≤ Xi T44 904 113 ∧ Xi T44 904 113 ≤ 6411 := hHT44.c _ _
    have w1517 : 0 ≤ Xi T44 904 142 ∧ Xi T44 904 142 ≤ 4 := hHT44.c _ _
    exact Rl_weak (C321 T44 hHT44 hFT44 (v1) (v2) (v5) (0) (by omega) (by omega) (by omega) (by omega) (by omega) (by omega) (by omega) (by omega) (by omega) (by omega) (by omega) (by omega) (by omega) (by first | assumption | exact (by assumption : NWV T44)) (by omega) (R307)) (And.intro rfl (And.intro rfl (And.intro rfl (And.intro rfl (And.intro rfl (True.intro))))))
  · refine l_iconst rfl ?_
    refine l_goto rfl rfl ?_
    refine l_istore rfl rfl rfl ?_
    have w1524 : 0 ≤ Xi T44 904 106 ∧ Xi T44 904 106 ≤ 9 := hHT44.c _ _
    have w1526 : -1 ≤ Xi T44 904 113 ∧ Xi T44 904 113 ≤ 6411 := hHT44.c _ _
    have w1527 : 0 ≤ Xi T44 904 142 ∧ Xi T44 904 142 ≤ 4 := hHT44.c _ _
    exact Rl_weak (C321 T44 hHT44 hFT44 (v1) (v2) (v5) (1) (by omega) (by omega) (by omega) (by omega) (by omega) (by omega) (by omega) (by omega) (by omega) (by omega) (by omega) (by omega) (by omega) (by first | assumption | exact (by assumption : NWV T44)) (by omega) (R307)) (And.intro rfl (And.intro rfl (And.intro rfl (And.intro rfl (And.intro rfl (True.intro))))))
set_option maxRecDepth 100000 in
set_option maxHeartbeats 4000000 in
theorem c271_mo_askFifteen {S : sS} (hH : HI S) (n : Nat) (hT : TK S n) (hv : RNV S n) (hM : LXM S) (hN : NWV S) (hB : ABV S) (hC : DCM S) (hl : Xi S 904 71 + Xi S 904 72 ≤ Xi S 904 69) (h1 : 1 ≤ Xi S 904 72) (h9 : Xi S 904 108 = 0) (hw : 0 ≤ Xi S 904 78 ∧ Xi S 904 78 < Xi S 904 69) (d : Nat) : ∀  (v1 : Int) (v2 : Int) (v5 : Int), (0 ≤ v1 ∧ v1 ≤ 2600) → (0 ≤ v2 ∧ v2 ≤ 5001) → (0 ≤ v5 ∧ v5 ≤ 1) → (v1 = Xi S 904 71) → (v2 = Xi S 950 (Xi S 904 78).toNat) → Rl lay0 (d + 10) m_mo_askFifteen 271 [(0, .ref 904), (1, iv v1), (2, iv v2), (5, iv v5)] [] S (Q_mo_askFifteen S n) := by
  have C307 := c307_mo_askFifteen hH n hT hv hM hN hB hC hl h1 h9 hw d 
  have hF : FR md_mo_askFifteen S S := FR.rf
  have w1 : 0 ≤ Xi S 904 106 ∧ Xi S 904 106 ≤ 9 := hH.c _ _
  have w2 : 0 ≤ Xi S 904 108 ∧ Xi S 904 108 ≤ 2600 := hH.c _ _
  have w3 : -2147483648 ≤ Xi S 904 109 ∧ Xi S 904 109 ≤ 2147483647 := Xi_rgI
  have w4 : -1 ≤ Xi S 904 113 ∧ Xi S 904 113 ≤ 6411 := hH.c _ _
  have w5 : 0 ≤ Xi S 904 142 ∧ Xi S 904 142 ≤ 4 := hH.c _ _
  have w6 : 0 ≤ Xi S 904 16 ∧ Xi S 904 16 ≤ 16 := hH.c _ _
  have w7 : 0 ≤ Xi S 904 30 ∧ Xi S 904 30 ≤ 64 := hH.c _ _
  have w8 : 0 ≤ Xi S 904 69 ∧ Xi S 904 69 ≤ 2600 := hH.c _ _
  have w9 : 0 ≤ Xi S 904 70 ∧ Xi S 904 70 ≤ 20 := hH.c _ _
  have w10 : 0 ≤ Xi S 904 71 ∧ Xi S 904 71 ≤ 2600 := hH.c _ _
  have w11 : 0 ≤ Xi S 904 72 ∧ Xi S 904 72 ≤ 2600 := hH.c _ _
  have w12 : 0 ≤ Xi S 904 75 ∧ Xi S 904 75 ≤ 1 := hH.c _ _
  have w13 : -2 ≤ Xi S 904 78 ∧ Xi S 904 78 ≤ 5010 := hH.c _ _
  have hn5 := hT.1
  have hc69 : 0 ≤ Xi S 904 69 ∧ Xi S 904 69 ≤ 2600 := hH.c _ _
  have hc71 : 0 ≤ Xi S 904 71 ∧ Xi S 904 71 ≤ 2600 := hH.c _ _
  have hc72 : 0 ≤ Xi S 904 72 ∧ Xi S 904 72 ≤ 2600 := hH.c _ _
  have hrf : ∀ r : Int, 0 ≤ r → r < Xi S 904 69 → Xi S 950 r.toNat ≤ n := fun r a b => by have := hv r.toNat (by omega); omega
  have hc3 : 0 ≤ Xi S 904 23 ∧ Xi S 904 23 ≤ 24 := hH.c _ _
  have hc19 : 0 ≤ Xi S 904 19 ∧ Xi S 904 19 ≤ 24 := hH.c _ _
  have hc32 : 0 ≤ Xi S 904 32 ∧ Xi S 904 32 ≤ 12 := hH.c _ _
  have hqw : Xi S 950 (Xi S 904 78).toNat + Xi S 951 (Xi S 904 78).toNat ≤ n ∧ 1 ≤ Xi S 951 (Xi S 904 78).toNat := hv (Xi S 904 78).toNat (by omega)
  have hc16 : 0 ≤ Xi S 904 16 ∧ Xi S 904 16 ≤ 16 := hH.c _ _
  have hq7 : 0 ≤ Xi S 950 (Xi S 904 78).toNat := (hH.c 950 _).1
  intro v1 v2 v5 w1534 w1535 w1536 w1537 w1538
  refine l_aload_n rfl rfl ?_
  refine l_iconst rfl ?_
  refine l_pfi rfl rfl rfl rfl ?_
  obtain ⟨U45, eU45⟩ : ∃ T : sS, T = uI S 904 109 (Int32.ofInt 0) := ⟨_, rfl⟩
  rw [← eU45]
  have hHU45 : HI U45 := by rw [eU45]; exact HI_any hH (rfl)
  have hFU45 : FR md_mo_askFifteen S U45 := by rw [eU45]; exact FR.wI hF (mdf_i (r := (904, 905, 109, 110)) (List.mem_of_getElem? (i := 5) rfl) (inR_i (by omega) (by omega) (by omega) (by omega)))
  have w1539 : Xi U45 904 109 = 0 := by rw [eU45]; exact Xi_same (by unfold rg; omega)
  refine l_aload_n rfl rfl ?_
  refine l_gfi rfl rfl rfl rfl rfl ?_
  have w1540 : 0 ≤ (Xi U45 904 77) ∧ (Xi U45 904 77) ≤ 1 := hHU45.c _ _
  refine l_if_eq rfl rfl (by unfold rg; omega) (fun w1541 => ?_) (fun w1542 => ?_)
  · have w1543 : Xi U45 904 106 = Xi S 904 106 := (show Xi U45 904 106 = Xi S 904 106 from by rw [eU45]; exact Xi_ne (by omega))
    have w1545 : Xi U45 904 108 = Xi S 904 108 := (show Xi U45 904 108 = Xi S 904 108 from by rw [eU45]; exact Xi_ne (by omega))
    have w1547 : Xi U45 904 113 = Xi S 904 113 := (show Xi U45 904 113 = Xi S 904 113 from by rw [eU45]; exact Xi_ne (by omega))
    have w1549 : Xi U45 904 142 = Xi S 904 142 := (show Xi U45 904 142 = Xi S 904 142 from by rw [eU45]; exact Xi_ne (by omega))
    have w1551 : Xi U45 904 69 = Xi S 904 69 := (show Xi U45 904 69 = Xi S 904 69 from by rw [eU45]; exact Xi_ne (by omega))
    have w1553 : Xi U45 904 70 = Xi S 904 70 := (show Xi U45 904 70 = Xi S 904 70 from by rw [eU45]; exact Xi_ne (by omega))
    have w1555 : Xi U45 904 71 = Xi S 904 71 := (show Xi U45 904 71 = Xi S 904 71 from by rw [eU45]; exact Xi_ne (by omega))
    have w1557 : Xi U45 904 72 = Xi S 904 72 := (show Xi U45 904 72 = Xi S 904 72 from by rw [eU45]; exact Xi_ne (by omega))
    have w1559 : Xi U45 904 75 = Xi S 904 75 := (show Xi U45 904 75 = Xi S 904 75 from by rw [eU45]; exact Xi_ne (by omega))
    have w1561 : Xi U45 904 78 = Xi S 904 78 := (show Xi U45 904 78 = Xi S 904 78 from by rw [eU45]; exact Xi_ne (by omega))
    exact Rl_weak (C307 U45 hHU45 hFU45 (v1) (v2) (v5) (by omega) (by omega) (by omega) (by omega) (by omega) (by omega) (by omega) (by omega) (by omega) (by omega) (by omega) (by omega) (by first | assumption | exact (NWV_FR (FR_e eU45) rfl (by assumption : NWV S))) (by first | assumption | exact fun x => absurd (by omega) x)) (And.intro rfl (And.intro rfl (And.intro rfl (And.intro rfl (True.intro)))))
  · refine l_aload_n rfl rfl ?_
    refine l_gfi rfl rfl rfl rfl rfl ?_
    have w1563 : (Xi U45 904 75) = (Xi S 904 75) := (show Xi U45 904 75 = Xi S 904 75 from by rw [eU45]; exact Xi_ne (by omega))
    rw [w1563]
    refine l_if_ne rfl rfl (by unfold rg; omega) (fun w1564 => ?_) (fun w1565 => ?_)
    · have w1566 : Xi U45 904 106 = Xi S 904 106 := (show Xi U45 904 106 = Xi S 904 106 from by rw [eU45]; exact Xi_ne (by omega))
      have w1568 : Xi U45 904 108 = Xi S 904 108 := (show Xi U45 904 108 = Xi S 904 108 from by rw [eU45]; exact Xi_ne (by omega))
      have w1570 : Xi U45 904 113 = Xi S 904 113 := (show Xi U45 904 113 = Xi S 904 113 from by rw [eU45]; exact Xi_ne (by omega))
      have w1572 : Xi U45 904 142 = Xi S 904 142 := (show Xi U45 904 142 = Xi S 904 142 from by rw [eU45]; exact Xi_ne (by omega))
      have w1574 : Xi U45 904 69 = Xi S 904 69 := (show Xi U45 904 69 = Xi S 904 69 from by rw [eU45]; exact Xi_ne (by omega))
      have w1576 : Xi U45 904 70 = Xi S 904 70 := (show Xi U45 904 70 = Xi S 904 70 from by rw [eU45]; exact Xi_ne (by omega))
      have w1578 : Xi U45 904 71 = Xi S 904 71 := (show Xi U45 904 71 = Xi S 904 71 from by rw [eU45]; exact Xi_ne (by omega))
      have w1580 : Xi U45 904 72 = Xi S 904 72 := (show Xi U45 904 72 = Xi S 904 72 from by rw [eU45]; exact Xi_ne (by omega))
      have w1582 : Xi U45 904 75 = Xi S 904 75 := (show Xi U45 904 75 = Xi S 904 75 from by rw [eU45]; exact Xi_ne (by omega))
      have w1584 : Xi U45 904 78 = Xi S 904 78 := (show Xi U45 904 78 = Xi S 904 78 from by rw [eU45]; exact Xi_ne (by omega))
      exact Rl_weak (C307 U45 hHU45 hFU45 (v1) (v2) (v5) (by omega) (by omega) (by omega) (by omega) (by omega) (by omega) (by omega) (by omega) (by omega) (by omega) (by omega) (by omega) (by first | assumption | exact (NWV_FR (FR_e eU45) rfl (by assumption : NWV S))) (by first | assumption | exact fun x => absurd (by omega) x)) (And.intro rfl (And.intro rfl (And.intro rfl (And.intro rfl (True.intro)))))
    · refine l_aload_n rfl rfl ?_
      refine l_iload_n rfl rfl ?_
      refine l_aload_n rfl rfl ?_
      refine l_gfr rfl rfl rfl rfl rfl (hHU45.r 904 68 951 rfl) ?_
      refine l_aload_n rfl rfl ?_
      refine l_gfi rfl rfl rfl rfl rfl ?_
      have w1586 : (Xi U45 904 78) = (Xi S 904 78) := (show Xi U45 904 78 = Xi S 904 78 from by rw [eU45]; exact Xi_ne (by omega))
      rw [w1586]
      refine l_iaload (n := 2600) rfl rfl (by omega) (by omega) (by unfold rg; omega) ?_
      have w1587 : 0 ≤ (Xi U45 951 (((Xi S 904 78)).toNat)) ∧ (Xi U45 951 (((Xi S 904 78)).toNat)) ≤ 5010 := hHU45.c _ _
      have e300 : (Xi U45 951 (((Xi S 904 78)).toNat)) = Xi S 951 (Xi S 904 78).toNat := by first | rfl | exact (hFU45.cx 951 rfl _).1 | (rw [(hFU45.cx 951 rfl _).1]; exact congrArg (fun t : Int => Xi S 951 t.toNat) (by omega))
      refine l_iconst rfl ?_
      refine l_iconst rfl ?_
      refine l_iconst rfl ?_
      have w1606 : Xi U45 904 78 = Xi S 904 78 := (show Xi U45 904 78 = Xi S 904 78 from by rw [eU45]; exact Xi_ne (by omega))
      refine l_callV rfl rfl rfl (t_mo_describe hHU45 v2 (Xi U45 951 (((Xi S 904 78)).toNat)) 1 0 (-1) ⟨by omega, by omega⟩ ⟨by omega, by omega⟩ ⟨by omega, by omega⟩ ⟨by omega, by omega⟩ ⟨by omega, by omega⟩ (by first | assumption | exact (LXM_FR hFU45 rfl (by assumption : LXM S))) (by first | assumption | exact (ABV_FR hFU45 rfl (by assumption : ABV S))) (by first | assumption | exact (DCM_FR hFU45 rfl (by assumption : DCM S))) (by first | assumption | omega) (fun x => absurd (by omega) x) _) ?_
      rintro _ T46 ⟨hHT46, w1610, rfl, w1608⟩
      have hFT46 : FR md_mo_askFifteen S T46 := FR.tr hFU45 w1610 rfl
      show Rl _ _ _ _ _ [] _ _
      have w1611 : Xi T46 904 106 = Xi S 904 106 := (show Xi T46 904 106 = Xi U45 904 106 from w1610.x _ _ rfl).trans ((show Xi U45 904 106 = Xi S 904 106 from by rw [eU45]; exact Xi_ne (by omega)))
      have w1613 : Xi T46 904 108 = Xi S 904 108 := (show Xi T46 904 108 = Xi U45 904 108 from w1610.x _ _ rfl).trans ((show Xi U45 904 108 = Xi S 904 108 from by rw [eU45]; exact Xi_ne (by omega)))
      have w1615 : -1 ≤ Xi T46 904 113 ∧ Xi T46 904 113 ≤ 6411 := hHT46.c _ _
      have w1616 : Xi T46 904 142 = Xi S 904 142 := (show Xi T46 904 142 = Xi U45 904 142 from w1610.x _ _ rfl).trans ((show Xi U45 904 142 = Xi S 904 142 from by rw [eU45]; exact Xi_ne (by omega)))
      have w1618 : Xi T46 904 69 = Xi S 904 69 := (show Xi T46 904 69 = Xi U45 904 69 from w1610.x _ _ rfl).trans ((show Xi U45 904 69 = Xi S 904 69 from by rw [eU45]; exact Xi_ne (by omega)))
      have w1620 : Xi T46 904 70 = Xi S 904 70 := (show Xi T46 904 70 = Xi U45 904 70 from w1610.x _ _ rfl).trans ((show Xi U45 904 70 = Xi S 904 70 from by rw [eU45]; exact Xi_ne (by omega)))
      have w1622 : Xi T46 904 71 = Xi S 904 71 := (show Xi T46 904 71 = Xi U45 904 71 from w1610.x _ _ rfl).trans ((show Xi U45 904 71 = Xi S 904 71 from by rw [eU45]; exact Xi_ne (by omega)))
      have w1624 : Xi T46 904 72 = Xi S 904 72 := (show Xi T46 904 72 = Xi U45 904 72 from w1610.x _ _ rfl).trans ((show Xi U45 904 72 = Xi S 904 72 from by rw [eU45]; exact Xi_ne (by omega)))
      have w1626 : Xi T46 904 75 = Xi S 904 75 := (show Xi T46 904 75 = Xi U45 904 75 from w1610.x _ _ rfl).trans ((show Xi U45 904 75 = Xi S 904 75 from by rw [eU45]; exact Xi_ne (by omega)))
      have w1628 : Xi T46 904 78 = Xi S 904 78 := (show Xi T46 904 78 = Xi U45 904 78 from w1610.x _ _ rfl).trans ((show Xi U45 904 78 = Xi S 904 78 from by rw [eU45]; exact Xi_ne (by omega)))
      exact Rl_weak (C307 T46 hHT46 hFT46 (v1) (v2) (v5) (by omega) (by omega) (by omega) (by omega) (by omega) (by omega) (by omega) (by omega) (by omega) (by omega) (by omega) (by omega) (by first | assumption | exact (NWV_FR w1610 rfl (NWV_FR (FR_e eU45) rfl (by assumption : NWV S)))) (by first | assumption | exact fun x => absurd (by omega) x)) (And.intro rfl (And.intro rfl (And.intro rfl (And.intro rfl (True.intro)))))
set_option maxRecDepth 100000 in
set_option maxHeartbeats 4000000 in
theorem c264_mo_askFifteen {S : sS} (hH : HI S) (n : Nat) (hT : TK S n) (hv : RNV S n) (hM : LXM S) (hN : NWV S) (hB : ABV S) (hC : DCM S) (hl : Xi S 904 71 + Xi S 904 72 ≤ Xi S 904 69) (h1 : 1 ≤ Xi S 904 72) (h9 : Xi S 904 108 = 0) (hw : 0 ≤ Xi S 904 78 ∧ Xi S 904 78 < Xi S 904 69) (d : Nat) : ∀  (v1 : Int) (v2 : Int), (0 ≤ v1 ∧ v1 ≤ 2600) → (0 ≤ v2 ∧ v2 ≤ 5001) → (v1 = Xi S 904 71) → (v2 = Xi S 950 (Xi S 904 78).toNat) → Rl lay0 (d + 10) m_mo_askFifteen 264 [(0, .ref 904), (1, iv v1), (2, iv v2)] [] S (Q_mo_askFifteen S n) := by
  have C271 := c271_mo_askFifteen hH n hT hv hM hN hB hC hl h1 h9 hw d 
  have hF : FR md_mo_askFifteen S S := FR.rf
  have w1 : 0 ≤ Xi S 904 106 ∧ Xi S 904 106 ≤ 9 := hH.c _ _
  have w2 : 0 ≤ Xi S 904 108 ∧ Xi S 904 108 ≤ 2600 := hH.c _ _
  have w3 : -2147483648 ≤ Xi S 904 109 ∧ Xi S 904 109 ≤ 2147483647 := Xi_rgI
  have w4 : -1 ≤ Xi S 904 113 ∧ Xi S 904 113 ≤ 6411 := hH.c _ _
  have w5 : 0 ≤ Xi S 904 142 ∧ Xi S 904 142 ≤ 4 := hH.c _ _
  have w6 : 0 ≤ Xi S 904 16 ∧ Xi S 904 16 ≤ 16 := hH.c _ _
  have w7 : 0 ≤ Xi S 904 30 ∧ Xi S 904 30 ≤ 64 := hH.c _ _
  have w8 : 0 ≤ Xi S 904 69 ∧ Xi S 904 69 ≤ 2600 := hH.c _ _
  have w9 : 0 ≤ Xi S 904 70 ∧ Xi S 904 70 ≤ 20 := hH.c _ _
  have w10 : 0 ≤ Xi S 904 71 ∧ Xi S 904 71 ≤ 2600 := hH.c _ _
  have w11 : 0 ≤ Xi S 904 72 ∧ Xi S 904 72 ≤ 2600 := hH.c _ _
  have w12 : 0 ≤ Xi S 904 75 ∧ Xi S 904 75 ≤ 1 := hH.c _ _
  have w13 : -2 ≤ Xi S 904 78 ∧ Xi S 904 78 ≤ 5010 := hH.c _ _
  have hn5 := hT.1
  have hc69 : 0 ≤ Xi S 904 69 ∧ Xi S 904 69 ≤ 2600 := hH.c _ _
  have hc71 : 0 ≤ Xi S 904 71 ∧ Xi S 904 71 ≤ 2600 := hH.c _ _
  have hc72 : 0 ≤ Xi S 904 72 ∧ Xi S 904 72 ≤ 2600 := hH.c _ _
  have hrf : ∀ r : Int, 0 ≤ r → r < Xi S 904 69 → Xi S 950 r.toNat ≤ n := fun r a b => by have := hv r.toNat (by omega); omega
  have hc3 : 0 ≤ Xi S 904 23 ∧ Xi S 904 23 ≤ 24 := hH.c _ _
  have hc19 : 0 ≤ Xi S 904 19 ∧ Xi S 904 19 ≤ 24 := hH.c _ _
  have hc32 : 0 ≤ Xi S 904 32 ∧ Xi S 904 32 ≤ 12 := hH.c _ _
  have hqw : Xi S 950 (Xi S 904 78).toNat + Xi S 951 (Xi S 904 78).toNat ≤ n ∧ 1 ≤ Xi S 951 (Xi S 904 78).toNat := hv (Xi S 904 78).toNat (by omega)
  have hc16 : 0 ≤ Xi S 904 16 ∧ Xi S 904 16 ≤ 16 := hH.c _ _
  have hq7 : 0 ≤ Xi S 950 (Xi S 904 78).toNat := (hH.c 950 _).1
  intro v1 v2 w1630 w1631 w1632 w1633
  refine l_iconst rfl ?_
  refine l_goto rfl rfl ?_
  refine l_istore rfl rfl rfl ?_
  exact Rl_weak (C271 (v1) (v2) (1) (by omega) (by omega) (by omega) (by omega) (by omega)) (And.intro rfl (And.intro rfl (And.intro rfl (And.intro rfl (True.intro)))))
set_option maxRecDepth 100000 in
set_option maxHeartbeats 4000000 in
theorem c268_mo_askFifteen {S : sS} (hH : HI S) (n : Nat) (hT : TK S n) (hv : RNV S n) (hM : LXM S) (hN : NWV S) (hB : ABV S) (hC : DCM S) (hl : Xi S 904 71 + Xi S 904 72 ≤ Xi S 904 69) (h1 : 1 ≤ Xi S 904 72) (h9 : Xi S 904 108 = 0) (hw : 0 ≤ Xi S 904 78 ∧ Xi S 904 78 < Xi S 904 69) (d : Nat) : ∀  (v1 : Int) (v2 : Int), (0 ≤ v1 ∧ v1 ≤ 2600) → (0 ≤ v2 ∧ v2 ≤ 5001) → (v1 = Xi S 904 71) → (v2 = Xi S 950 (Xi S 904 78).toNat) → Rl lay0 (d + 10) m_mo_askFifteen 268 [(0, .ref 904), (1, iv v1), (2, iv v2)] [] S (Q_mo_askFifteen S n) := by
  have C271 := c271_mo_askFifteen hH n hT hv hM hN hB hC hl h1 h9 hw d 
  have hF : FR md_mo_askFifteen S S := FR.rf
  have w1 : 0 ≤ Xi S 904 106 ∧ Xi S 904 106 ≤ 9 := hH.c _ _
  have w2 : 0 ≤ Xi S 904 108 ∧ Xi S 904 108 ≤ 2600 := hH.c _ _
  have w3 : -2147483648 ≤ Xi S 904 109 ∧ Xi S 904 109 ≤ 2147483647 := Xi_rgI
  have w4 : -1 ≤ Xi S 904 113 ∧ Xi S 904 113 ≤ 6411 := hH.c _ _
  have w5 : 0 ≤ Xi S 904 142 ∧ Xi S 904 142 ≤ 4 := hH.c _ _
  have w6 : 0 ≤ Xi S 904 16 ∧ Xi S 904 16 ≤ 16 := hH.c _ _
  have w7 : 0 ≤ Xi S 904 30 ∧ Xi S 904 30 ≤ 64 := hH.c _ _
  have w8 : 0 ≤ Xi S 904 69 ∧ Xi S 904 69 ≤ 2600 := hH.c _ _
  have w9 : 0 ≤ Xi S 904 70 ∧ Xi S 904 70 ≤ 20 := hH.c _ _
  have w10 : 0 ≤ Xi S 904 71 ∧ Xi S 904 71 ≤ 2600 := hH.c _ _
  have w11 : 0 ≤ Xi S 904 72 ∧ Xi S 904 72 ≤ 2600 := hH.c _ _
  have w12 : 0 ≤ Xi S 904 75 ∧ Xi S 904 75 ≤ 1 := hH.c _ _
  have w13 : -2 ≤ Xi S 904 78 ∧ Xi S 904 78 ≤ 5010 := hH.c _ _
  have hn5 := hT.1
  have hc69 : 0 ≤ Xi S 904 69 ∧ Xi S 904 69 ≤ 2600 := hH.c _ _
  have hc71 : 0 ≤ Xi S 904 71 ∧ Xi S 904 71 ≤ 2600 := hH.c _ _
  have hc72 : 0 ≤ Xi S 904 72 ∧ Xi S 904 72 ≤ 2600 := hH.c _ _
  have hrf : ∀ r : Int, 0 ≤ r → r < Xi S 904 69 → Xi S 950 r.toNat ≤ n := fun r a b => by have := hv r.toNat (by omega); omega
  have hc3 : 0 ≤ Xi S 904 23 ∧ Xi S 904 23 ≤ 24 := hH.c _ _
  have hc19 : 0 ≤ Xi S 904 19 ∧ Xi S 904 19 ≤ 24 := hH.c _ _
  have hc32 : 0 ≤ Xi S 904 32 ∧ Xi S 904 32 ≤ 12 := hH.c _ _
  have hqw : Xi S 950 (Xi S 904 78).toNat + Xi S 951 (Xi S 904 78).toNat ≤ n ∧ 1 ≤ Xi S 951 (Xi S 904 78).toNat := hv (Xi S 904 78).toNat (by omega)
  have hc16 : 0 ≤ Xi S 904 16 ∧ Xi S 904 16 ≤ 16 := hH.c _ _
  have hq7 : 0 ≤ Xi S 950 (Xi S 904 78).toNat := (hH.c 950 _).1
  intro v1 v2 w1644 w1645 w1646 w1647
  refine l_iconst rfl ?_
  refine l_istore rfl rfl rfl ?_
  exact Rl_weak (C271 (v1) (v2) (0) (by omega) (by omega) (by omega) (by omega) (by omega)) (And.intro rfl (And.intro rfl (And.intro rfl (And.intro rfl (True.intro)))))
set_option maxRecDepth 100000 in
set_option maxHeartbeats 4000000 in
theorem c219_mo_askFifteen {S : sS} (hH : HI S) (n : Nat) (hT : TK S n) (hv : RNV S n) (hM : LXM S) (hN : NWV S) (hB : ABV S) (hC : DCM S) (hl : Xi S 904 71 + Xi S 904 72 ≤ Xi S 904 69) (h1 : 1 ≤ Xi S 904 72) (h9 : Xi S 904 108 = 0) (hw : 0 ≤ Xi S 904 78 ∧ Xi S 904 78 < Xi S 904 69) (d : Nat) : ∀  (v1 : Int) (v2 : Int), (0 ≤ v1 ∧ v1 ≤ 2600) → (0 ≤ v2 ∧ v2 ≤ 5001) → (v1 = Xi S 904 71) → (v2 = Xi S 950 (Xi S 904 78).toNat) → Rl lay0 (d + 10) m_mo_askFifteen 219 [(0, .ref 904), (1, iv v1), (2, iv v2)] [] S (Q_mo_askFifteen S n) := by
  have C264 := c264_mo_askFifteen hH n hT hv hM hN hB hC hl h1 h9 hw d 
  have C268 := c268_mo_askFifteen hH n hT hv hM hN hB hC hl h1 h9 hw d 
  have hF : FR md_mo_askFifteen S S := FR.rf
  have w1 : 0 ≤ Xi S 904 106 ∧ Xi S 904 106 ≤ 9 := hH.c _ _
  have w2 : 0 ≤ Xi S 904 108 ∧ Xi S 904 108 ≤ 2600 := hH.c _ _
  have w3 : -2147483648 ≤ Xi S 904 109 ∧ Xi S 904 109 ≤ 2147483647 := Xi_rgI
  have w4 : -1 ≤ Xi S 904 113 ∧ Xi S 904 113 ≤ 6411 := hH.c _ _
  have w5 : 0 ≤ Xi S 904 142 ∧ Xi S 904 142 ≤ 4 := hH.c _ _
  have w6 : 0 ≤ Xi S 904 16 ∧ Xi S 904 16 ≤ 16 := hH.c _ _
  have w7 : 0 ≤ Xi S 904 30 ∧ Xi S 904 30 ≤ 64 := hH.c _ _
  have w8 : 0 ≤ Xi S 904 69 ∧ Xi S 904 69 ≤ 2600 := hH.c _ _
  have w9 : 0 ≤ Xi S 904 70 ∧ Xi S 904 70 ≤ 20 := hH.c _ _
  have w10 : 0 ≤ Xi S 904 71 ∧ Xi S 904 71 ≤ 2600 := hH.c _ _
  have w11 : 0 ≤ Xi S 904 72 ∧ Xi S 904 72 ≤ 2600 := hH.c _ _
  have w12 : 0 ≤ Xi S 904 75 ∧ Xi S 904 75 ≤ 1 := hH.c _ _
  have w13 : -2 ≤ Xi S 904 78 ∧ Xi S 904 78 ≤ 5010 := hH.c _ _
  have hn5 := hT.1
  have hc69 : 0 ≤ Xi S 904 69 ∧ Xi S 904 69 ≤ 2600 := hH.c _ _
  have hc71 : 0 ≤ Xi S 904 71 ∧ Xi S 904 71 ≤ 2600 := hH.c _ _
  have hc72 : 0 ≤ Xi S 904 72 ∧ Xi S 904 72 ≤ 2600 := hH.c _ _
  have hrf : ∀ r : Int, 0 ≤ r → r < Xi S 904 69 → Xi S 950 r.toNat ≤ n := fun r a b => by have := hv r.toNat (by omega); omega
  have hc3 : 0 ≤ Xi S 904 23 ∧ Xi S 904 23 ≤ 24 := hH.c _ _
  have hc19 : 0 ≤ Xi S 904 19 ∧ Xi S 904 19 ≤ 24 := hH.c _ _
  have hc32 : 0 ≤ Xi S 904 32 ∧ Xi S 904 32 ≤ 12 := hH.c _ _
  have hqw : Xi S 950 (Xi S 904 78).toNat + Xi S 951 (Xi S 904 78).toNat ≤ n ∧ 1 ≤ Xi S 951 (Xi S 904 78).toNat := hv (Xi S 904 78).toNat (by omega)
  have hc16 : 0 ≤ Xi S 904 16 ∧ Xi S 904 16 ≤ 16 := hH.c _ _
  have hq7 : 0 ≤ Xi S 950 (Xi S 904 78).toNat := (hH.c 950 _).1
  intro v1 v2 w1658 w1659 w1660 w1661
  refine l_aload_n rfl rfl ?_
  refine l_iload_n rfl rfl ?_
  refine l_aload_n rfl rfl ?_
  refine l_gfr rfl rfl rfl rfl rfl (hH.r 904 68 951 rfl) ?_
  refine l_aload_n rfl rfl ?_
  refine l_gfi rfl rfl rfl rfl rfl ?_
  refine l_iaload (n := 2600) rfl rfl (by omega) (by omega) (by unfold rg; omega) ?_
  have w1662 : 0 ≤ (Xi S 951 (((Xi S 904 78)).toNat)) ∧ (Xi S 951 (((Xi S 904 78)).toNat)) ≤ 5010 := hH.c _ _
  have e229 : (Xi S 951 (((Xi S 904 78)).toNat)) = Xi S 951 (Xi S 904 78).toNat := by first | rfl | exact (hF.cx 951 rfl _).1 | (rw [(hF.cx 951 rfl _).1]; exact congrArg (fun t : Int => Xi S 951 t.toNat) (by omega))
  have w1667 : 0 ≤ Xi S 904 15 ∧ Xi S 904 15 ≤ 300 := hH.c _ _
  refine l_callV rfl rfl rfl (t_mo_mean__2 hH v2 (Xi S 951 (((Xi S 904 78)).toNat)) ⟨by omega, by omega⟩ ⟨by omega, by omega⟩ (by first | assumption | omega) _) ?_
  rintro _ _ ⟨rfl, z1676, rfl, w1676, w1674, w1675⟩
  show Rl _ _ _ _ _ [iv z1676] _ _
  refine l_istore rfl rfl rfl ?_
  refine l_iload rfl rfl ?_
  refine l_iconst rfl ?_
  refine l_icmp_eq rfl rfl (by unfold rg; omega) (by unfold rg; omega) (fun w1677 => ?_) (fun w1678 => ?_)
  · have w1679 : 0 ≤ Xi S 904 106 ∧ Xi S 904 106 ≤ 9 := hH.c _ _
    exact Rl_weak (C268 (v1) (v2) (by omega) (by omega) (by omega) (by omega)) (And.intro rfl (And.intro rfl (And.intro rfl (True.intro))))
  · refine l_aload_n rfl rfl ?_
    refine l_gfr rfl rfl rfl rfl rfl (hH.r 904 12 914 rfl) ?_
    refine l_iload rfl rfl ?_
    refine l_iaload (n := 300) rfl rfl (by omega) (by omega) (by unfold rg; omega) ?_
    have w1689 : 0 ≤ (Xi S 914 ((z1676).toNat)) ∧ (Xi S 914 ((z1676).toNat)) ≤ 12 := hH.c _ _
    refine l_iconst rfl ?_
    refine l_icmp_eq rfl rfl (by unfold rg; omega) (by unfold rg; omega) (fun w1690 => ?_) (fun w1691 => ?_)
    · have w1692 : 0 ≤ Xi S 904 106 ∧ Xi S 904 106 ≤ 9 := hH.c _ _
      exact Rl_weak (C264 (v1) (v2) (by omega) (by omega) (by omega) (by omega)) (And.intro rfl (And.intro rfl (And.intro rfl (True.intro))))
    · refine l_aload_n rfl rfl ?_
      refine l_gfr rfl rfl rfl rfl rfl (hH.r 904 12 914 rfl) ?_
      refine l_iload rfl rfl ?_
      refine l_iaload (n := 300) rfl rfl (by omega) (by omega) (by unfold rg; omega) ?_
      refine l_bipush rfl rfl ?_
      refine l_icmp_ne rfl rfl (by unfold rg; omega) (by unfold rg; omega) (fun w1702 => ?_) (fun w1703 => ?_)
      · have w1704 : 0 ≤ Xi S 904 106 ∧ Xi S 904 106 ≤ 9 := hH.c _ _
        exact Rl_weak (C268 (v1) (v2) (by omega) (by omega) (by omega) (by omega)) (And.intro rfl (And.intro rfl (And.intro rfl (True.intro))))
      · have w1714 : 0 ≤ Xi S 904 106 ∧ Xi S 904 106 ≤ 9 := hH.c _ _
        exact Rl_weak (C264 (v1) (v2) (by omega) (by omega) (by omega) (by omega)) (And.intro rfl (And.intro rfl (And.intro rfl (True.intro))))
set_option maxRecDepth 100000 in
set_option maxHeartbeats 4000000 in
theorem c141_mo_askFifteen {S : sS} (hH : HI S) (n : Nat) (hT : TK S n) (hv : RNV S n) (hM : LXM S) (hN : NWV S) (hB : ABV S) (hC : DCM S) (hl : Xi S 904 71 + Xi S 904 72 ≤ Xi S 904 69) (h1 : 1 ≤ Xi S 904 72) (h9 : Xi S 904 108 = 0) (hw : 0 ≤ Xi S 904 78 ∧ Xi S 904 78 < Xi S 904 69) (d : Nat) : ∀  (v1 : Int) (v2 : Int) (v3 : Int), (0 ≤ v1 ∧ v1 ≤ 2600) → (0 ≤ v2 ∧ v2 ≤ 5001) → (-1 ≤ v3 ∧ v3 ≤ 7) → (v1 = Xi S 904 71) → (v2 = Xi S 950 (Xi S 904 78).toNat) → (Xi S 904 72 = 1 → v3 = r2R S (Xi S 904 71) 2 3) → (Xi S 904 72 ≠ 1 → v3 = -1) → Rl lay0 (d + 10) m_mo_askFifteen 141 [(0, .ref 904), (1, iv v1), (2, iv v2), (3, iv v3)] [] S (Q_mo_askFifteen S n) := by
  have C162 := c162_mo_askFifteen hH n hT hv hM hN hB hC hl h1 h9 hw d 
  have C219 := c219_mo_askFifteen hH n hT hv hM hN hB hC hl h1 h9 hw d 
  have hF : FR md_mo_askFifteen S S := FR.rf
  have w1 : 0 ≤ Xi S 904 106 ∧ Xi S 904 106 ≤ 9 := hH.c _ _
  have w2 : 0 ≤ Xi S 904 108 ∧ Xi S 904 108 ≤ 2600 := hH.c _ _
  have w3 : -2147483648 ≤ Xi S 904 109 ∧ Xi S 904 109 ≤ 2147483647 := Xi_rgI
  have w4 : -1 ≤ Xi S 904 113 ∧ Xi S 904 113 ≤ 6411 := hH.c _ _
  have w5 : 0 ≤ Xi S 904 142 ∧ Xi S 904 142 ≤ 4 := hH.c _ _
  have w6 : 0 ≤ Xi S 904 16 ∧ Xi S 904 16 ≤ 16 := hH.c _ _
  have w7 : 0 ≤ Xi S 904 30 ∧ Xi S 904 30 ≤ 64 := hH.c _ _
  have w8 : 0 ≤ Xi S 904 69 ∧ Xi S 904 69 ≤ 2600 := hH.c _ _
  have w9 : 0 ≤ Xi S 904 70 ∧ Xi S 904 70 ≤ 20 := hH.c _ _
  have w10 : 0 ≤ Xi S 904 71 ∧ Xi S 904 71 ≤ 2600 := hH.c _ _
  have w11 : 0 ≤ Xi S 904 72 ∧ Xi S 904 72 ≤ 2600 := hH.c _ _
  have w12 : 0 ≤ Xi S 904 75 ∧ Xi S 904 75 ≤ 1 := hH.c _ _
  have w13 : -2 ≤ Xi S 904 78 ∧ Xi S 904 78 ≤ 5010 := hH.c _ _
  have hn5 := hT.1
  have hc69 : 0 ≤ Xi S 904 69 ∧ Xi S 904 69 ≤ 2600 := hH.c _ _
  have hc71 : 0 ≤ Xi S 904 71 ∧ Xi S 904 71 ≤ 2600 := hH.c _ _
  have hc72 : 0 ≤ Xi S 904 72 ∧ Xi S 904 72 ≤ 2600 := hH.c _ _
  have hrf : ∀ r : Int, 0 ≤ r → r < Xi S 904 69 → Xi S 950 r.toNat ≤ n := fun r a b => by have := hv r.toNat (by omega); omega
  have hc3 : 0 ≤ Xi S 904 23 ∧ Xi S 904 23 ≤ 24 := hH.c _ _
  have hc19 : 0 ≤ Xi S 904 19 ∧ Xi S 904 19 ≤ 24 := hH.c _ _
  have hc32 : 0 ≤ Xi S 904 32 ∧ Xi S 904 32 ≤ 12 := hH.c _ _
  have hqw : Xi S 950 (Xi S 904 78).toNat + Xi S 951 (Xi S 904 78).toNat ≤ n ∧ 1 ≤ Xi S 951 (Xi S 904 78).toNat := hv (Xi S 904 78).toNat (by omega)
  have hc16 : 0 ≤ Xi S 904 16 ∧ Xi S 904 16 ≤ 16 := hH.c _ _
  have hq7 : 0 ≤ Xi S 950 (Xi S 904 78).toNat := (hH.c 950 _).1
  intro v1 v2 v3 w1724 w1725 w1726 w1727 w1728 w1729 w1730
  refine l_aload_n rfl rfl ?_
  refine l_gfi rfl rfl rfl rfl rfl ?_
  refine l_bipush rfl rfl ?_
  refine l_icmp_eq rfl rfl (by unfold rg; omega) (by unfold rg; omega) (fun w1731 => ?_) (fun w1732 => ?_)
  · have w1733 : 0 ≤ Xi S 904 106 ∧ Xi S 904 106 ≤ 9 := hH.c _ _
    exact Rl_weak (C162 (v1) (v3) (by omega) (by omega) (by omega) (by omega) (by omega)) (And.intro rfl (And.intro rfl (And.intro rfl (True.intro))))
  · refine l_iload_n rfl rfl ?_
    refine l_iconst rfl ?_
    refine l_icmp_le rfl rfl (by unfold rg; omega) (by unfold rg; omega) (fun w1743 => ?_) (fun w1744 => ?_)
    · have w1745 : 0 ≤ Xi S 904 106 ∧ Xi S 904 106 ≤ 9 := hH.c _ _
      exact Rl_weak (C219 (v1) (v2) (by omega) (by omega) (by omega) (by omega)) (And.intro rfl (And.intro rfl (And.intro rfl (True.intro))))
    · refine l_aload_n rfl rfl ?_
      refine l_gfi rfl rfl rfl rfl rfl ?_
      refine l_if_ne rfl rfl (by unfold rg; omega) (fun w1755 => ?_) (fun w1756 => ?_)
      · have w1757 : 0 ≤ Xi S 904 106 ∧ Xi S 904 106 ≤ 9 := hH.c _ _
        exact Rl_weak (C219 (v1) (v2) (by omega) (by omega) (by omega) (by omega)) (And.intro rfl (And.intro rfl (And.intro rfl (True.intro))))
      · have w1767 : 0 ≤ Xi S 904 106 ∧ Xi S 904 106 ≤ 9 := hH.c _ _
        exact Rl_weak (C162 (v1) (v3) (by omega) (by omega) (by omega) (by omega) (by omega)) (And.intro rfl (And.intro rfl (And.intro rfl (True.intro))))
set_option maxRecDepth 100000 in
set_option maxHeartbeats 4000000 in
theorem t_mo_askFifteen {S : sS} (hH : HI S) (n : Nat) (hT : TK S n) (hv : RNV S n) (hM : LXM S) (hN : NWV S) (hB : ABV S) (hC : DCM S) (hl : Xi S 904 71 + Xi S 904 72 ≤ Xi S 904 69) (h1 : 1 ≤ Xi S 904 72) (h9 : Xi S 904 108 = 0) (hw : 0 ≤ Xi S 904 78 ∧ Xi S 904 78 < Xi S 904 69) (d : Nat) : Mt lay0 (d + 11) m_mo_askFifteen [.ref 904] S (Q_mo_askFifteen S n) := by
  refine Mt_R rfl rfl ?_
  have C78 := c78_mo_askFifteen hH n hT hv hM hN hB hC hl h1 h9 hw d 
  have C54 := c54_mo_askFifteen hH n hT hv hM hN hB hC hl h1 h9 hw d 
  have C213 := c213_mo_askFifteen hH n hT hv hM hN hB hC hl h1 h9 hw d 
  have C192 := c192_mo_askFifteen hH n hT hv hM hN hB hC hl h1 h9 hw d 
  have C162 := c162_mo_askFifteen hH n hT hv hM hN hB hC hl h1 h9 hw d 
  have C432 := c432_mo_askFifteen hH n hT hv hM hN hB hC hl h1 h9 hw d 
  have C361 := c361_mo_askFifteen hH n hT hv hM hN hB hC hl h1 h9 hw d 
  have C340 := c340_mo_askFifteen hH n hT hv hM hN hB hC hl h1 h9 hw d 
  have C321 := c321_mo_askFifteen hH n hT hv hM hN hB hC hl h1 h9 hw d 
  have C307 := c307_mo_askFifteen hH n hT hv hM hN hB hC hl h1 h9 hw d 
  have C271 := c271_mo_askFifteen hH n hT hv hM hN hB hC hl h1 h9 hw d 
  have C264 := c264_mo_askFifteen hH n hT hv hM hN hB hC hl h1 h9 hw d 
  have C268 := c268_mo_askFifteen hH n hT hv hM hN hB hC hl h1 h9 hw d 
  have C219 := c219_mo_askFifteen hH n hT hv hM hN hB hC hl h1 h9 hw d 
  have C141 := c141_mo_askFifteen hH n hT hv hM hN hB hC hl h1 h9 hw d 
  have hF : FR md_mo_askFifteen S S := FR.rf
  have w1 : 0 ≤ Xi S 904 106 ∧ Xi S 904 106 ≤ 9 := hH.c _ _
  have w2 : 0 ≤ Xi S 904 108 ∧ Xi S 904 108 ≤ 2600 := hH.c _ _
  have w3 : -2147483648 ≤ Xi S 904 109 ∧ Xi S 904 109 ≤ 2147483647 := Xi_rgI
  have w4 : -1 ≤ Xi S 904 113 ∧ Xi S 904 113 ≤ 6411 := hH.c _ _
  have w5 : 0 ≤ Xi S 904 142 ∧ Xi S 904 142 ≤ 4 := hH.c _ _
  have w6 : 0 ≤ Xi S 904 16 ∧ Xi S 904 16 ≤ 16 := hH.c _ _
  have w7 : 0 ≤ Xi S 904 30 ∧ Xi S 904 30 ≤ 64 := hH.c _ _
  have w8 : 0 ≤ Xi S 904 69 ∧ Xi S 904 69 ≤ 2600 := hH.c _ _
  have w9 : 0 ≤ Xi S 904 70 ∧ Xi S 904 70 ≤ 20 := hH.c _ _
  have w10 : 0 ≤ Xi S 904 71 ∧ Xi S 904 71 ≤ 2600 := hH.c _ _
  have w11 : 0 ≤ Xi S 904 72 ∧ Xi S 904 72 ≤ 2600 := hH.c _ _
  have w12 : 0 ≤ Xi S 904 75 ∧ Xi S 904 75 ≤ 1 := hH.c _ _
  have w13 : -2 ≤ Xi S 904 78 ∧ Xi S 904 78 ≤ 5010 := hH.c _ _
  have hn5 := hT.1
  have hc69 : 0 ≤ Xi S 904 69 ∧ Xi S 904 69 ≤ 2600 := hH.c _ _
  have hc71 : 0 ≤ Xi S 904 71 ∧ Xi S 904 71 ≤ 2600 := hH.c _ _
  have hc72 : 0 ≤ Xi S 904 72 ∧ Xi S 904 72 ≤ 2600 := hH.c _ _
  have hrf : ∀ r : Int, 0 ≤ r → r < Xi S 904 69 → Xi S 950 r.toNat ≤ n := fun r a b => by have := hv r.toNat (by omega); omega
  have hc3 : 0 ≤ Xi S 904 23 ∧ Xi S 904 23 ≤ 24 := hH.c _ _
  have hc19 : 0 ≤ Xi S 904 19 ∧ Xi S 904 19 ≤ 24 := hH.c _ _
  have hc32 : 0 ≤ Xi S 904 32 ∧ Xi S 904 32 ≤ 12 := hH.c _ _
  have hqw : Xi S 950 (Xi S 904 78).toNat + Xi S 951 (Xi S 904 78).toNat ≤ n ∧ 1 ≤ Xi S 951 (Xi S 904 78).toNat := hv (Xi S 904 78).toNat (by omega)
  have hc16 : 0 ≤ Xi S 904 16 ∧ Xi S 904 16 ≤ 16 := hH.c _ _
  have hq7 : 0 ≤ Xi S 950 (Xi S 904 78).toNat := (hH.c 950 _).1
  refine l_aload_n rfl rfl ?_
  refine l_gfi rfl rfl rfl rfl rfl ?_
  refine l_istore_n rfl rfl rfl ?_
  refine l_aload_n rfl rfl ?_
  refine l_gfr rfl rfl rfl rfl rfl (hH.r 904 67 950 rfl) ?_
  refine l_aload_n rfl rfl ?_
  refine l_gfi rfl rfl rfl rfl rfl ?_
  refine l_iaload (n := 2600) rfl rfl (by omega) (by omega) (by unfold rg; omega) ?_
  have w1777 : 0 ≤ (Xi S 950 (((Xi S 904 78)).toNat)) ∧ (Xi S 950 (((Xi S 904 78)).toNat)) ≤ 5010 := hH.c _ _
  have e13 : (Xi S 950 (((Xi S 904 78)).toNat)) = Xi S 950 (Xi S 904 78).toNat := by first | rfl | exact (hF.cx 950 rfl _).1 | (rw [(hF.cx 950 rfl _).1]; exact congrArg (fun t : Int => Xi S 950 t.toNat) (by omega))
  refine l_istore_n rfl rfl rfl ?_
  refine l_aload_n rfl rfl ?_
  refine l_gfi rfl rfl rfl rfl rfl ?_
  have w1778 : 0 ≤ (Xi S 904 76) ∧ (Xi S 904 76) ≤ 1 := hH.c _ _
  refine l_if_eq rfl rfl (by unfold rg; omega) (fun w1779 => ?_) (fun w1780 => ?_)
  · refine l_aload_n rfl rfl ?_
    refine l_gfi rfl rfl rfl rfl rfl ?_
    refine l_iconst rfl ?_
    refine l_icmp_ne rfl rfl (by unfold rg; omega) (by unfold rg; omega) (fun w1781 => ?_) (fun w1782 => ?_)
    · refine l_iconst rfl ?_
      refine l_istore_n rfl rfl rfl ?_
      exact Rl_weak (C141 ((Xi S 904 71)) ((Xi S 950 (((Xi S 904 78)).toNat))) ((-1)) (by omega) (by omega) (by omega) (by omega) (by omega) (by omega) (by omega)) (And.intro rfl (And.intro rfl (And.intro rfl (And.intro rfl (True.intro)))))
    · refine l_aload_n rfl rfl ?_
      refine l_iload_n rfl rfl ?_
      refine l_callV rfl rfl rfl (t_mo_typeOrPlural__2 hH n (Xi S 904 71) ⟨by omega, by omega⟩ (by first | assumption | exact (TK_FR hF rfl (by assumption : TK S _))) (by first | assumption | exact (RNV_FR hF rfl (by assumption : RNV S _))) (by first | assumption | omega) (by first | assumption | exact (LXM_FR hF rfl (by assumption : LXM S))) _) ?_
      rintro _ _ ⟨rfl, z1804, rfl, w1804, w1803⟩
      show Rl _ _ _ _ _ [iv z1804] _ _
      have r133 : z1804 = r2R S (Xi S 904 71) 2 3 := by first | assumption | (have t := (by assumption : z1804 = r2R S _ _ _); exact t)
      refine l_goto rfl rfl ?_
      refine l_istore_n rfl rfl rfl ?_
      exact Rl_weak (C141 ((Xi S 904 71)) ((Xi S 950 (((Xi S 904 78)).toNat))) (z1804) (by omega) (by omega) (by omega) (by omega) (by omega) (by omega) (by omega)) (And.intro rfl (And.intro rfl (And.intro rfl (And.intro rfl (True.intro)))))
  · refine l_aload_n rfl rfl ?_
    refine l_iconst rfl ?_
    refine l_pfi rfl rfl rfl rfl ?_
    obtain ⟨U47, eU47⟩ : ∃ T : sS, T = uI S 904 142 (Int32.ofInt 1) := ⟨_, rfl⟩
    rw [← eU47]
    have hHU47 : HI U47 := by rw [eU47]; exact HI_w hH (show 0 ≤ 1 by omega) (show 1 ≤ 4 by omega)
    have hFU47 : FR md_mo_askFifteen S U47 := by rw [eU47]; exact FR.wI hF (mdf_i (r := (904, 905, 142, 143)) (List.mem_of_getElem? (i := 9) rfl) (inR_i (by omega) (by omega) (by omega) (by omega)))
    have w1815 : Xi U47 904 142 = 1 := by rw [eU47]; exact Xi_same (by unfold rg; omega)
    refine l_aload_n rfl rfl ?_
    refine l_iload_n rfl rfl ?_
    have w1816 : Xi U47 904 106 = Xi S 904 106 := (show Xi U47 904 106 = Xi S 904 106 from by rw [eU47]; exact Xi_ne (by omega))
    have w1824 : Xi U47 904 16 = Xi S 904 16 := (show Xi U47 904 16 = Xi S 904 16 from by rw [eU47]; exact Xi_ne (by omega))
    have w1826 : Xi U47 904 69 = Xi S 904 69 := (show Xi U47 904 69 = Xi S 904 69 from by rw [eU47]; exact Xi_ne (by omega))
    have w1830 : Xi U47 904 71 = Xi S 904 71 := (show Xi U47 904 71 = Xi S 904 71 from by rw [eU47]; exact Xi_ne (by omega))
    refine l_callV rfl rfl rfl (t_mo_kindOfRun__2 hHU47 n (Xi S 904 71) ⟨by omega, by omega⟩ (by first | assumption | exact (TK_FR hFU47 rfl (by assumption : TK S _))) (by first | assumption | exact (RNV_FR hFU47 rfl (by assumption : RNV S _))) (by first | assumption | omega) (by first | assumption | exact (LXM_FR hFU47 rfl (by assumption : LXM S))) _) ?_
    rintro _ T48 ⟨hHT48, w1843, z1842, rfl, w1842, w1838, w1839, w1840, w1841⟩
    have hFT48 : FR md_mo_askFifteen S T48 := FR.tr hFU47 w1843 rfl
    show Rl _ _ _ _ _ [iv z1842] _ _
    have r29 : z1842 = rnR S (Xi S 904 71) 0 := by have t := (by assumption : z1842 = rnR U47 _ _).trans (rnR_FR hFU47 rfl rfl); first | exact t | (rw [t]; exact congrArg (fun x : Int => rnR S x 0) (by omega))
    refine l_istore_n rfl rfl rfl ?_
    refine l_aload_n rfl rfl ?_
    refine l_gfi rfl rfl rfl rfl rfl ?_
    have w1844 : (Xi T48 904 72) = (Xi S 904 72) := (show Xi T48 904 72 = Xi U47 904 72 from w1843.x _ _ rfl).trans ((show Xi U47 904 72 = Xi S 904 72 from by rw [eU47]; exact Xi_ne (by omega)))
    rw [w1844]
    refine l_iconst rfl ?_
    refine l_icmp_le rfl rfl (by unfold rg; omega) (by unfold rg; omega) (fun w1845 => ?_) (fun w1846 => ?_)
    · have w1847 : 0 ≤ Xi T48 904 106 ∧ Xi T48 904 106 ≤ 9 := hHT48.c _ _
      have w1848 : Xi T48 904 108 = Xi S 904 108 := (show Xi T48 904 108 = Xi U47 904 108 from w1843.x _ _ rfl).trans ((show Xi U47 904 108 = Xi S 904 108 from by rw [eU47]; exact Xi_ne (by omega)))
      have w1850 : Xi T48 904 109 = Xi S 904 109 := (show Xi T48 904 109 = Xi U47 904 109 from w1843.x _ _ rfl).trans ((show Xi U47 904 109 = Xi S 904 109 from by rw [eU47]; exact Xi_ne (by omega)))
      have w1851 : Xi T48 904 113 = Xi S 904 113 := (show Xi T48 904 113 = Xi U47 904 113 from w1843.x _ _ rfl).trans ((show Xi U47 904 113 = Xi S 904 113 from by rw [eU47]; exact Xi_ne (by omega)))
      have w1853 : Xi T48 904 142 = Xi U47 904 142 := (show Xi T48 904 142 = Xi U47 904 142 from w1843.x _ _ rfl)
      have w1854 : 0 ≤ Xi U47 904 142 ∧ Xi U47 904 142 ≤ 4 := hHU47.c _ _
      have w1855 : Xi T48 904 69 = Xi S 904 69 := (show Xi T48 904 69 = Xi U47 904 69 from w1843.x _ _ rfl).trans ((show Xi U47 904 69 = Xi S 904 69 from by rw [eU47]; exact Xi_ne (by omega)))
      have w1857 : Xi T48 904 70 = Xi S 904 70 := (show Xi T48 904 70 = Xi U47 904 70 from w1843.x _ _ rfl).trans ((show Xi U47 904 70 = Xi S 904 70 from by rw [eU47]; exact Xi_ne (by omega)))
      have w1859 : Xi T48 904 71 = Xi S 904 71 := (show Xi T48 904 71 = Xi U47 904 71 from w1843.x _ _ rfl).trans ((show Xi U47 904 71 = Xi S 904 71 from by rw [eU47]; exact Xi_ne (by omega)))
      have w1861 : Xi T48 904 72 = Xi S 904 72 := (show Xi T48 904 72 = Xi U47 904 72 from w1843.x _ _ rfl).trans ((show Xi U47 904 72 = Xi S 904 72 from by rw [eU47]; exact Xi_ne (by omega)))
      have w1863 : Xi T48 904 75 = Xi S 904 75 := (show Xi T48 904 75 = Xi U47 904 75 from w1843.x _ _ rfl).trans ((show Xi U47 904 75 = Xi S 904 75 from by rw [eU47]; exact Xi_ne (by omega)))
      have w1865 : Xi T48 904 78 = Xi S 904 78 := (show Xi T48 904 78 = Xi U47 904 78 from w1843.x _ _ rfl).trans ((show Xi U47 904 78 = Xi S 904 78 from by rw [eU47]; exact Xi_ne (by omega)))
      exact Rl_weak (C54 T48 hHT48 hFT48 ((Xi S 950 (((Xi S 904 78)).toNat))) (z1842) (by omega) (by omega) (by omega) (by omega) (by omega) (by omega) (by omega) (by omega) (by omega) (by omega) (by omega) (by omega) (by omega)) (And.intro rfl (And.intro rfl (And.intro rfl (True.intro))))
    · refine l_aload_n rfl rfl ?_
      refine l_iconst rfl ?_
      refine l_aload_n rfl rfl ?_
      refine l_gfr rfl rfl rfl rfl rfl (hHT48.r 904 67 950 rfl) ?_
      refine l_iload_n rfl rfl ?_
      refine l_iconst rfl ?_
      refine l_iadd rfl ?_
      refine l_iaload (n := 2600) rfl rfl (by omega) (by omega) (by unfold rg; omega) ?_
      have w1867 : 0 ≤ (Xi T48 950 ((((Xi S 904 71) + 1)).toNat)) ∧ (Xi T48 950 ((((Xi S 904 71) + 1)).toNat)) ≤ 5010 := hHT48.c _ _
      have e50 : (Xi T48 950 ((((Xi S 904 71) + 1)).toNat)) = Xi S 950 (Xi S 904 71 + 1).toNat := by first | rfl | exact (hFT48.cx 950 rfl _).1 | (rw [(hFT48.cx 950 rfl _).1]; exact congrArg (fun t : Int => Xi S 950 t.toNat) (by omega))
      have f50 := hrf (Xi S 904 71 + 1) (by omega) (by omega)
      have w1868 : 0 ≤ Xi T48 904 106 ∧ Xi T48 904 106 ≤ 9 := hHT48.c _ _
      have w1880 : Xi T48 904 71 = Xi S 904 71 := (show Xi T48 904 71 = Xi U47 904 71 from w1843.x _ _ rfl).trans ((show Xi U47 904 71 = Xi S 904 71 from by rw [eU47]; exact Xi_ne (by omega)))
      refine l_callV rfl rfl rfl (t_mo_note hHT48 4 (Xi T48 950 ((((Xi S 904 71) + 1)).toNat)) ⟨by omega, by omega⟩ ⟨by omega, by omega⟩ _) ?_
      rintro _ T49 ⟨hHT49, w1890, rfl, w1888⟩
      have hFT49 : FR md_mo_askFifteen S T49 := FR.tr hFT48 w1890 rfl
      show Rl _ _ _ _ _ [] _ _
      have w1891 : 0 ≤ Xi T49 904 106 ∧ Xi T49 904 106 ≤ 9 := hHT49.c _ _
      have w1892 : Xi T49 904 108 = Xi S 904 108 := (show Xi T49 904 108 = Xi T48 904 108 from w1890.x _ _ rfl).trans ( (show Xi T48 904 108 = Xi U47 904 108 from w1843.x _ _ rfl).trans ((show Xi U47 904 108 = Xi S 904 108 from by rw [eU47]; exact Xi_ne (by omega))))
      have w1894 : Xi T49 904 109 = Xi S 904 109 := (show Xi T49 904 109 = Xi T48 904 109 from w1890.x _ _ rfl).trans ( (show Xi T48 904 109 = Xi U47 904 109 from w1843.x _ _ rfl).trans ((show Xi U47 904 109 = Xi S 904 109 from by rw [eU47]; exact Xi_ne (by omega))))
      have w1895 : Xi T49 904 113 = Xi S 904 113 := (show Xi T49 904 113 = Xi T48 904 113 from w1890.x _ _ rfl).trans ( (show Xi T48 904 113 = Xi U47 904 113 from w1843.x _ _ rfl).trans ((show Xi U47 904 113 = Xi S 904 113 from by rw [eU47]; exact Xi_ne (by omega))))
      have w1897 : Xi T49 904 142 = Xi U47 904 142 := (show Xi T49 904 142 = Xi T48 904 142 from w1890.x _ _ rfl).trans ((show Xi T48 904 142 = Xi U47 904 142 from w1843.x _ _ rfl))
      have w1898 : 0 ≤ Xi U47 904 142 ∧ Xi U47 904 142 ≤ 4 := hHU47.c _ _
      have w1899 : Xi T49 904 69 = Xi S 904 69 := (show Xi T49 904 69 = Xi T48 904 69 from w1890.x _ _ rfl).trans ( (show Xi T48 904 69 = Xi U47 904 69 from w1843.x _ _ rfl).trans ((show Xi U47 904 69 = Xi S 904 69 from by rw [eU47]; exact Xi_ne (by omega))))
      have w1901 : Xi T49 904 70 = Xi S 904 70 := (show Xi T49 904 70 = Xi T48 904 70 from w1890.x _ _ rfl).trans ( (show Xi T48 904 70 = Xi U47 904 70 from w1843.x _ _ rfl).trans ((show Xi U47 904 70 = Xi S 904 70 from by rw [eU47]; exact Xi_ne (by omega))))
      have w1903 : Xi T49 904 71 = Xi S 904 71 := (show Xi T49 904 71 = Xi T48 904 71 from w1890.x _ _ rfl).trans ( (show Xi T48 904 71 = Xi U47 904 71 from w1843.x _ _ rfl).trans ((show Xi U47 904 71 = Xi S 904 71 from by rw [eU47]; exact Xi_ne (by omega))))
      have w1905 : Xi T49 904 72 = Xi S 904 72 := (show Xi T49 904 72 = Xi T48 904 72 from w1890.x _ _ rfl).trans ( (show Xi T48 904 72 = Xi U47 904 72 from w1843.x _ _ rfl).trans ((show Xi U47 904 72 = Xi S 904 72 from by rw [eU47]; exact Xi_ne (by omega))))
      have w1907 : Xi T49 904 75 = Xi S 904 75 := (show Xi T49 904 75 = Xi T48 904 75 from w1890.x _ _ rfl).trans ( (show Xi T48 904 75 = Xi U47 904 75 from w1843.x _ _ rfl).trans ((show Xi U47 904 75 = Xi S 904 75 from by rw [eU47]; exact Xi_ne (by omega))))
      have w1909 : Xi T49 904 78 = Xi S 904 78 := (show Xi T49 904 78 = Xi T48 904 78 from w1890.x _ _ rfl).trans ( (show Xi T48 904 78 = Xi U47 904 78 from w1843.x _ _ rfl).trans ((show Xi U47 904 78 = Xi S 904 78 from by rw [eU47]; exact Xi_ne (by omega))))
      exact Rl_weak (C54 T49 hHT49 hFT49 ((Xi S 950 (((Xi S 904 78)).toNat))) (z1842) (by omega) (by omega) (by omega) (by omega) (by omega) (by omega) (by omega) (by omega) (by omega) (by omega) (by omega) (by omega) (by omega)) (And.intro rfl (And.intro rfl (And.intro rfl (True.intro))))


