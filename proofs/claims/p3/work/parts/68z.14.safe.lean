/-! SAFETY of methods: printed by wip/safe (vc.py, decl.py) -/
set_option maxRecDepth 100000 in
set_option maxHeartbeats 8000000 in
theorem c234_mo_asked {S : sS} (hH : HI S) (n : Nat) (dd : Nat) (first : Int) (hfirst : 0 ≤ first ∧ first ≤ 5001) (hT : TK S n) (hv : RNV S n) (hM : LXM S) (hB : ABV S) (hC : DCM S) (hK : TXK S n) (hX : TXM S) (hq : SNQ S n) (hap : AP9 S n) (h94 : Xi S 904 94 ≤ 1668) (hRD : RDT S) (hPF : PF S) (hdt : Xi S 904 70 = 20 → first ≤ dd ∧ dd < n ∧ Xi S 907 dd = 46) (d : Nat) : ∀  (T21 : sS) (_ : HI T21) (_ : FR md_mo_asked S T21), (Xi T21 904 117 = Xi S 904 117) → (Xi T21 904 69 = Xi S 904 69) → (Xi T21 904 70 = Xi S 904 70) → (Xi T21 904 71 = Xi S 904 71) → (Xi T21 904 72 = Xi S 904 72) → (Xi T21 904 73 = Xi S 904 73) → (Xi T21 904 74 = Xi S 904 74) → (Xi T21 904 78 = Xi S 904 78) → (Xi T21 904 81 = Xi S 904 81) → (Xi T21 904 94 = Xi S 904 94) → (Xi T21 904 98 = Xi S 904 98) → (Xi T21 904 60 = Xi S 904 60) → (Xi T21 904 106 = 0) → (Xi T21 904 108 = 0) → (Xi T21 904 115 = -1) → (Xi T21 904 116 = -1) → (SNQ T21 n) → (RDT T21) → (KQL T21 S (Xi S 904 117)) → (Xi S 904 70 = 9) → Rl lay0 (d + 12) m_mo_asked 234 [(0, .ref 904)] [] T21 (Q_mo_asked S n dd first) := by
  have hF : FR md_mo_asked S S := FR.rf
  have w1 : 0 ≤ Xi S 904 106 ∧ Xi S 904 106 ≤ 9 := hH.c _ _
  have w2 : 0 ≤ Xi S 904 108 ∧ Xi S 904 108 ≤ 2600 := hH.c _ _
  have w3 : -1 ≤ Xi S 904 115 ∧ Xi S 904 115 ≤ 15 := hH.c _ _
  have w4 : -1 ≤ Xi S 904 116 ∧ Xi S 904 116 ≤ 15 := hH.c _ _
  have w5 : 0 ≤ Xi S 904 117 ∧ Xi S 904 117 ≤ 480 := hH.c _ _
  have w6 : 0 ≤ Xi S 904 23 ∧ Xi S 904 23 ≤ 24 := hH.c _ _
  have w7 : 0 ≤ Xi S 904 41 ∧ Xi S 904 41 ≤ 6 := hH.c _ _
  have w8 : -1 ≤ Xi S 904 60 ∧ Xi S 904 60 ≤ 23 := hH.c _ _
  have w9 : 0 ≤ Xi S 904 69 ∧ Xi S 904 69 ≤ 2600 := hH.c _ _
  have w10 : 0 ≤ Xi S 904 70 ∧ Xi S 904 70 ≤ 20 := hH.c _ _
  have w11 : 0 ≤ Xi S 904 71 ∧ Xi S 904 71 ≤ 2600 := hH.c _ _
  have w12 : 0 ≤ Xi S 904 72 ∧ Xi S 904 72 ≤ 2600 := hH.c _ _
  have w13 : 0 ≤ Xi S 904 73 ∧ Xi S 904 73 ≤ 5 := hH.c _ _
  have w14 : 0 ≤ Xi S 904 74 ∧ Xi S 904 74 ≤ 2600 := hH.c _ _
  have w15 : -2 ≤ Xi S 904 78 ∧ Xi S 904 78 ≤ 5010 := hH.c _ _
  have w16 : 0 ≤ Xi S 904 81 ∧ Xi S 904 81 ≤ 5010 := hH.c _ _
  have w17 : 0 ≤ Xi S 904 94 ∧ Xi S 904 94 ≤ 1700 := hH.c _ _
  have w18 : 0 ≤ Xi S 904 98 ∧ Xi S 904 98 ≤ 1700 := hH.c _ _
  have w19 : 0 ≤ Xi S 951 0 ∧ Xi S 951 0 ≤ 5010 := hH.c _ _
  have w20 : 0 ≤ Xi S 951 1 ∧ Xi S 951 1 ≤ 5010 := hH.c _ _
  have hn5 := hT.1
  have hc69 : 0 ≤ Xi S 904 69 ∧ Xi S 904 69 ≤ 2600 := hH.c _ _
  have hc70 : 0 ≤ Xi S 904 70 ∧ Xi S 904 70 ≤ 20 := hH.c _ _
  have hc23 : 0 ≤ Xi S 904 23 ∧ Xi S 904 23 ≤ 24 := hH.c _ _
  have hrf : ∀ r : Int, 0 ≤ r → r < Xi S 904 69 → Xi S 950 r.toNat + Xi S 951 r.toNat ≤ n ∧ 1 ≤ Xi S 951 r.toNat := fun r a b => hv r.toNat (by omega)
  have hq0 : KQL S S (Xi S 904 117) := KQL.rf
  intro T21 hHT21 hFT21 w1087 w1088 w1089 w1090 w1091 w1092 w1093 w1094 w1095 w1096 w1097 w1098 w1099 w1100 w1101 w1102 q20 r20 K20 w1103
  have w1104 : Xi T21 904 102 = Xi S 904 102 := hFT21.x _ _ rfl
  have w1105 : Xi T21 904 103 = Xi S 904 103 := hFT21.x _ _ rfl
  have w1106 : Xi T21 904 16 = Xi S 904 16 := hFT21.x _ _ rfl
  have w1107 : Xi T21 904 18 = Xi S 904 18 := hFT21.x _ _ rfl
  have w1108 : Xi T21 904 19 = Xi S 904 19 := hFT21.x _ _ rfl
  have w1109 : Xi T21 904 23 = Xi S 904 23 := hFT21.x _ _ rfl
  have w1110 : Xi T21 904 30 = Xi S 904 30 := hFT21.x _ _ rfl
  have w1111 : Xi T21 904 41 = Xi S 904 41 := hFT21.x _ _ rfl
  have w1112 : Xi T21 904 47 = Xi S 904 47 := hFT21.x _ _ rfl
  have w1113 : Xi T21 904 49 = Xi S 904 49 := hFT21.x _ _ rfl
  have w1114 : Xi T21 904 55 = Xi S 904 55 := hFT21.x _ _ rfl
  have w1115 : Xi T21 904 60 = Xi S 904 60 := hFT21.x _ _ rfl
  have w1116 : Xi T21 904 69 = Xi S 904 69 := hFT21.x _ _ rfl
  have w1117 : Xi T21 904 70 = Xi S 904 70 := hFT21.x _ _ rfl
  have w1118 : Xi T21 904 71 = Xi S 904 71 := hFT21.x _ _ rfl
  have w1119 : Xi T21 904 72 = Xi S 904 72 := hFT21.x _ _ rfl
  have w1120 : Xi T21 904 73 = Xi S 904 73 := hFT21.x _ _ rfl
  have w1121 : Xi T21 904 74 = Xi S 904 74 := hFT21.x _ _ rfl
  have w1122 : Xi T21 904 78 = Xi S 904 78 := hFT21.x _ _ rfl
  have w1123 : Xi T21 904 81 = Xi S 904 81 := hFT21.x _ _ rfl
  have w1124 : Xi T21 904 94 = Xi S 904 94 := hFT21.x _ _ rfl
  have w1125 : Xi T21 904 98 = Xi S 904 98 := hFT21.x _ _ rfl
  have w1126 : Xi T21 951 0 = Xi S 951 0 := hFT21.x _ _ rfl
  have w1127 : Xi T21 951 1 = Xi S 951 1 := hFT21.x _ _ rfl
  have w1128 : 0 ≤ Xi T21 904 106 ∧ Xi T21 904 106 ≤ 9 := hHT21.c _ _
  have w1129 : 0 ≤ Xi T21 904 108 ∧ Xi T21 904 108 ≤ 2600 := hHT21.c _ _
  have w1130 : -1 ≤ Xi T21 904 115 ∧ Xi T21 904 115 ≤ 15 := hHT21.c _ _
  have w1131 : -1 ≤ Xi T21 904 116 ∧ Xi T21 904 116 ≤ 15 := hHT21.c _ _
  have w1132 : 0 ≤ Xi T21 904 117 ∧ Xi T21 904 117 ≤ 480 := hHT21.c _ _
  have w1133 : -1 ≤ Xi T21 904 60 ∧ Xi T21 904 60 ≤ 23 := hHT21.c _ _
  have w1134 : 0 ≤ Xi T21 904 69 ∧ Xi T21 904 69 ≤ 2600 := hHT21.c _ _
  have w1135 : 0 ≤ Xi T21 904 70 ∧ Xi T21 904 70 ≤ 20 := hHT21.c _ _
  have w1136 : 0 ≤ Xi T21 904 71 ∧ Xi T21 904 71 ≤ 2600 := hHT21.c _ _
  have w1137 : 0 ≤ Xi T21 904 72 ∧ Xi T21 904 72 ≤ 2600 := hHT21.c _ _
  have w1138 : 0 ≤ Xi T21 904 73 ∧ Xi T21 904 73 ≤ 5 := hHT21.c _ _
  have w1139 : 0 ≤ Xi T21 904 74 ∧ Xi T21 904 74 ≤ 2600 := hHT21.c _ _
  have w1140 : -2 ≤ Xi T21 904 78 ∧ Xi T21 904 78 ≤ 5010 := hHT21.c _ _
  have w1141 : 0 ≤ Xi T21 904 81 ∧ Xi T21 904 81 ≤ 5010 := hHT21.c _ _
  have w1142 : 0 ≤ Xi T21 904 94 ∧ Xi T21 904 94 ≤ 1700 := hHT21.c _ _
  have w1143 : 0 ≤ Xi T21 904 98 ∧ Xi T21 904 98 ≤ 1700 := hHT21.c _ _
  refine l_aload_n rfl rfl ?_
  have s234 := q20.2.2.1 (by omega)
  have x234 := q20.2.2.2.2.1 (by omega)
  have w1144 : 0 ≤ Xi T21 904 106 ∧ Xi T21 904 106 ≤ 9 := hHT21.c _ _
  have w1145 : 0 ≤ Xi T21 904 108 ∧ Xi T21 904 108 ≤ 2600 := hHT21.c _ _
  have w1146 : -1 ≤ Xi T21 904 115 ∧ Xi T21 904 115 ≤ 15 := hHT21.c _ _
  have w1147 : -1 ≤ Xi T21 904 116 ∧ Xi T21 904 116 ≤ 15 := hHT21.c _ _
  have w1148 : 0 ≤ Xi T21 904 117 ∧ Xi T21 904 117 ≤ 480 := hHT21.c _ _
  have w1149 : 0 ≤ Xi T21 904 142 ∧ Xi T21 904 142 ≤ 4 := hHT21.c _ _
  have w1150 : -1 ≤ Xi T21 904 60 ∧ Xi T21 904 60 ≤ 23 := hHT21.c _ _
  have w1151 : 0 ≤ Xi T21 904 69 ∧ Xi T21 904 69 ≤ 2600 := hHT21.c _ _
  have w1152 : 0 ≤ Xi T21 904 70 ∧ Xi T21 904 70 ≤ 20 := hHT21.c _ _
  have w1153 : 0 ≤ Xi T21 904 71 ∧ Xi T21 904 71 ≤ 2600 := hHT21.c _ _
  have w1154 : 0 ≤ Xi T21 904 72 ∧ Xi T21 904 72 ≤ 2600 := hHT21.c _ _
  have w1155 : 0 ≤ Xi T21 904 73 ∧ Xi T21 904 73 ≤ 5 := hHT21.c _ _
  have w1156 : 0 ≤ Xi T21 904 74 ∧ Xi T21 904 74 ≤ 2600 := hHT21.c _ _
  have w1157 : -2 ≤ Xi T21 904 78 ∧ Xi T21 904 78 ≤ 5010 := hHT21.c _ _
  have w1158 : 0 ≤ Xi T21 904 81 ∧ Xi T21 904 81 ≤ 5010 := hHT21.c _ _
  have w1159 : 0 ≤ Xi T21 904 94 ∧ Xi T21 904 94 ≤ 1700 := hHT21.c _ _
  have w1160 : 0 ≤ Xi T21 904 98 ∧ Xi T21 904 98 ≤ 1700 := hHT21.c _ _
  refine l_callV rfl rfl rfl (t_mo_askProperty hHT21 n (by first | assumption | exact (TK_FR hFT21 rfl (by assumption : TK S _))) (by first | assumption | exact (RNV_FR hFT21 rfl (by assumption : RNV S _))) (by first | assumption | exact (LXM_FR hFT21 rfl (by assumption : LXM S))) (by first | assumption | exact (ABV_FR hFT21 rfl (by assumption : ABV S))) (by first | assumption | exact (TXM_FR hFT21 rfl (by assumption : TXM S))) (by first | assumption | exact (TXK_FR hFT21 rfl (by assumption : TXK S _))) (by first | assumption | omega) (by first | assumption | omega) (by have t := x234.2.2; exact t) _) ?_
  rintro _ T22 ⟨hHT22, w1162, rfl, f235, kq235⟩
  have hFT22 : FR md_mo_asked S T22 := FR.tr hFT21 w1162 rfl
  show Rl _ _ _ _ _ [] _ _
  have R235 : RDT T22 := rdt_keep (by assumption : RDT T21) hHT21 (GR_FR (by assumption : FR md_mo_askProperty T21 T22) rfl GR.rf) ((by assumption : FR md_mo_askProperty T21 T22).x 904 117 rfl) ((by assumption : FR md_mo_askProperty T21 T22).x 904 125 rfl) ((by assumption : FR md_mo_askProperty T21 T22).x 904 130 rfl) ((by assumption : FR md_mo_askProperty T21 T22).x 904 23 rfl) (smk_r8 (by assumption : FR md_mo_askProperty T21 T22) rfl) (KQL.q KQL.rf kq235 (Int.le_refl _)) (KHL_FR (by assumption : FR md_mo_askProperty T21 T22) rfl KHL.rf)
  have y235_69 : Xi T22 904 69 = Xi T21 904 69 := ((show Xi T22 904 69 = Xi T21 904 69 from w1162.x _ _ rfl))
  have y235_70 : Xi T22 904 70 = Xi T21 904 70 := ((show Xi T22 904 70 = Xi T21 904 70 from w1162.x _ _ rfl))
  have y235_71 : Xi T22 904 71 = Xi T21 904 71 := ((show Xi T22 904 71 = Xi T21 904 71 from w1162.x _ _ rfl))
  have y235_72 : Xi T22 904 72 = Xi T21 904 72 := ((show Xi T22 904 72 = Xi T21 904 72 from w1162.x _ _ rfl))
  have y235_73 : Xi T22 904 73 = Xi T21 904 73 := ((show Xi T22 904 73 = Xi T21 904 73 from w1162.x _ _ rfl))
  have y235_74 : Xi T22 904 74 = Xi T21 904 74 := ((show Xi T22 904 74 = Xi T21 904 74 from w1162.x _ _ rfl))
  have y235_78 : Xi T22 904 78 = Xi T21 904 78 := ((show Xi T22 904 78 = Xi T21 904 78 from w1162.x _ _ rfl))
  have y235_81 : Xi T22 904 81 = Xi T21 904 81 := ((show Xi T22 904 81 = Xi T21 904 81 from w1162.x _ _ rfl))
  have y235_94 : Xi T22 904 94 = Xi T21 904 94 := ((show Xi T22 904 94 = Xi T21 904 94 from w1162.x _ _ rfl))
  have y235_98 : Xi T22 904 98 = Xi T21 904 98 := ((show Xi T22 904 98 = Xi T21 904 98 from w1162.x _ _ rfl))
  have y235_60 : Xi T22 904 60 = Xi T21 904 60 := ((show Xi T22 904 60 = Xi T21 904 60 from w1162.x _ _ rfl))
  have y235_117 : Xi T22 904 117 = Xi T21 904 117 := ((show Xi T22 904 117 = Xi T21 904 117 from w1162.x _ _ rfl))
  have y235 : Xi T22 904 117 = Xi S 904 117 ∧ Xi T21 904 117 = Xi S 904 117 := ⟨by omega, by omega⟩
  have F235 : Xi T22 904 106 = 0 → DOK T22 := fun q => dok_9 (by omega) (by have t := f235 q; rw [rnR_FR hFT21 rfl rfl, rnR_FR hFT21 rfl rfl, rnR_FR hFT21 rfl rfl, y235.2] at t; unfold D9; rw [rnR_FR hFT22 rfl rfl, rnR_FR hFT22 rfl rfl, rnR_FR hFT22 rfl rfl, y235.1]; exact t)
  refine l_goto rfl rfl ?_
  refine l_return rfl rfl ?_
  have w1163 : 0 ≤ Xi T22 904 106 ∧ Xi T22 904 106 ≤ 9 := hHT22.c _ _
  have w1164 : Xi T22 904 108 = Xi T21 904 108 := (show Xi T22 904 108 = Xi T21 904 108 from w1162.x _ _ rfl)
  have w1165 : 0 ≤ Xi T21 904 108 ∧ Xi T21 904 108 ≤ 2600 := hHT21.c _ _
  have w1166 : Xi T22 904 109 = Xi T21 904 109 := (show Xi T22 904 109 = Xi T21 904 109 from w1162.x _ _ rfl)
  have w1167 : Xi T22 904 115 = Xi T21 904 115 := (show Xi T22 904 115 = Xi T21 904 115 from w1162.x _ _ rfl)
  have w1168 : -1 ≤ Xi T21 904 115 ∧ Xi T21 904 115 ≤ 15 := hHT21.c _ _
  have w1169 : Xi T22 904 116 = Xi T21 904 116 := (show Xi T22 904 116 = Xi T21 904 116 from w1162.x _ _ rfl)
  have w1170 : -1 ≤ Xi T21 904 116 ∧ Xi T21 904 116 ≤ 15 := hHT21.c _ _
  have w1171 : Xi T22 904 117 = Xi T21 904 117 := (show Xi T22 904 117 = Xi T21 904 117 from w1162.x _ _ rfl)
  have w1172 : 0 ≤ Xi T21 904 117 ∧ Xi T21 904 117 ≤ 480 := hHT21.c _ _
  have w1173 : Xi T22 904 142 = Xi T21 904 142 := (show Xi T22 904 142 = Xi T21 904 142 from w1162.x _ _ rfl)
  have w1174 : 0 ≤ Xi T21 904 142 ∧ Xi T21 904 142 ≤ 4 := hHT21.c _ _
  have w1175 : Xi T22 904 60 = Xi T21 904 60 := (show Xi T22 904 60 = Xi T21 904 60 from w1162.x _ _ rfl)
  have w1176 : -1 ≤ Xi T21 904 60 ∧ Xi T21 904 60 ≤ 23 := hHT21.c _ _
  have w1177 : Xi T22 904 69 = Xi T21 904 69 := (show Xi T22 904 69 = Xi T21 904 69 from w1162.x _ _ rfl)
  have w1178 : 0 ≤ Xi T21 904 69 ∧ Xi T21 904 69 ≤ 2600 := hHT21.c _ _
  have w1179 : Xi T22 904 70 = Xi T21 904 70 := (show Xi T22 904 70 = Xi T21 904 70 from w1162.x _ _ rfl)
  have w1180 : 0 ≤ Xi T21 904 70 ∧ Xi T21 904 70 ≤ 20 := hHT21.c _ _
  have w1181 : Xi T22 904 71 = Xi T21 904 71 := (show Xi T22 904 71 = Xi T21 904 71 from w1162.x _ _ rfl)
  have w1182 : 0 ≤ Xi T21 904 71 ∧ Xi T21 904 71 ≤ 2600 := hHT21.c _ _
  have w1183 : Xi T22 904 72 = Xi T21 904 72 := (show Xi T22 904 72 = Xi T21 904 72 from w1162.x _ _ rfl)
  have w1184 : 0 ≤ Xi T21 904 72 ∧ Xi T21 904 72 ≤ 2600 := hHT21.c _ _
  have w1185 : Xi T22 904 73 = Xi T21 904 73 := (show Xi T22 904 73 = Xi T21 904 73 from w1162.x _ _ rfl)
  have w1186 : 0 ≤ Xi T21 904 73 ∧ Xi T21 904 73 ≤ 5 := hHT21.c _ _
  have w1187 : Xi T22 904 74 = Xi T21 904 74 := (show Xi T22 904 74 = Xi T21 904 74 from w1162.x _ _ rfl)
  have w1188 : 0 ≤ Xi T21 904 74 ∧ Xi T21 904 74 ≤ 2600 := hHT21.c _ _
  have w1189 : Xi T22 904 78 = Xi T21 904 78 := (show Xi T22 904 78 = Xi T21 904 78 from w1162.x _ _ rfl)
  have w1190 : -2 ≤ Xi T21 904 78 ∧ Xi T21 904 78 ≤ 5010 := hHT21.c _ _
  have w1191 : Xi T22 904 81 = Xi T21 904 81 := (show Xi T22 904 81 = Xi T21 904 81 from w1162.x _ _ rfl)
  have w1192 : 0 ≤ Xi T21 904 81 ∧ Xi T21 904 81 ≤ 5010 := hHT21.c _ _
  have w1193 : Xi T22 904 94 = Xi T21 904 94 := (show Xi T22 904 94 = Xi T21 904 94 from w1162.x _ _ rfl)
  have w1194 : 0 ≤ Xi T21 904 94 ∧ Xi T21 904 94 ≤ 1700 := hHT21.c _ _
  have w1195 : Xi T22 904 98 = Xi T21 904 98 := (show Xi T22 904 98 = Xi T21 904 98 from w1162.x _ _ rfl)
  have w1196 : 0 ≤ Xi T21 904 98 ∧ Xi T21 904 98 ≤ 1700 := hHT21.c _ _
  exact ⟨hHT22, hFT22, rfl, (by assumption), (by first | exact fun q => by assumption | assumption | exact fun q => (by assumption : RDT T22))⟩
set_option maxRecDepth 100000 in
set_option maxHeartbeats 8000000 in
theorem c241_mo_asked {S : sS} (hH : HI S) (n : Nat) (dd : Nat) (first : Int) (hfirst : 0 ≤ first ∧ first ≤ 5001) (hT : TK S n) (hv : RNV S n) (hM : LXM S) (hB : ABV S) (hC : DCM S) (hK : TXK S n) (hX : TXM S) (hq : SNQ S n) (hap : AP9 S n) (h94 : Xi S 904 94 ≤ 1668) (hRD : RDT S) (hPF : PF S) (hdt : Xi S 904 70 = 20 → first ≤ dd ∧ dd < n ∧ Xi S 907 dd = 46) (d : Nat) : ∀  (T23 : sS) (_ : HI T23) (_ : FR md_mo_asked S T23), (Xi T23 904 117 = Xi S 904 117) → (Xi T23 904 69 = Xi S 904 69) → (Xi T23 904 70 = Xi S 904 70) → (Xi T23 904 71 = Xi S 904 71) → (Xi T23 904 72 = Xi S 904 72) → (Xi T23 904 73 = Xi S 904 73) → (Xi T23 904 74 = Xi S 904 74) → (Xi T23 904 78 = Xi S 904 78) → (Xi T23 904 81 = Xi S 904 81) → (Xi T23 904 94 = Xi S 904 94) → (Xi T23 904 98 = Xi S 904 98) → (Xi T23 904 60 = Xi S 904 60) → (Xi T23 904 106 = 0) → (Xi T23 904 108 = 0) → (Xi T23 904 115 = -1) → (Xi T23 904 116 = -1) → (SNQ T23 n) → (RDT T23) → (KQL T23 S (Xi S 904 117)) → (10 ≤ Xi S 904 70 ∧ Xi S 904 70 ≤ 11) → Rl lay0 (d + 12) m_mo_asked 241 [(0, .ref 904)] [] T23 (Q_mo_asked S n dd first) := by
  have hF : FR md_mo_asked S S := FR.rf
  have w1 : 0 ≤ Xi S 904 106 ∧ Xi S 904 106 ≤ 9 := hH.c _ _
  have w2 : 0 ≤ Xi S 904 108 ∧ Xi S 904 108 ≤ 2600 := hH.c _ _
  have w3 : -1 ≤ Xi S 904 115 ∧ Xi S 904 115 ≤ 15 := hH.c _ _
  have w4 : -1 ≤ Xi S 904 116 ∧ Xi S 904 116 ≤ 15 := hH.c _ _
  have w5 : 0 ≤ Xi S 904 117 ∧ Xi S 904 117 ≤ 480 := hH.c _ _
  have w6 : 0 ≤ Xi S 904 23 ∧ Xi S 904 23 ≤ 24 := hH.c _ _
  have w7 : 0 ≤ Xi S 904 41 ∧ Xi S 904 41 ≤ 6 := hH.c _ _
  have w8 : -1 ≤ Xi S 904 60 ∧ Xi S 904 60 ≤ 23 := hH.c _ _
  have w9 : 0 ≤ Xi S 904 69 ∧ Xi S 904 69 ≤ 2600 := hH.c _ _
  have w10 : 0 ≤ Xi S 904 70 ∧ Xi S 904 70 ≤ 20 := hH.c _ _
  have w11 : 0 ≤ Xi S 904 71 ∧ Xi S 904 71 ≤ 2600 := hH.c _ _
  have w12 : 0 ≤ Xi S 904 72 ∧ Xi S 904 72 ≤ 2600 := hH.c _ _
  have w13 : 0 ≤ Xi S 904 73 ∧ Xi S 904 73 ≤ 5 := hH.c _ _
  have w14 : 0 ≤ Xi S 904 74 ∧ Xi S 904 74 ≤ 2600 := hH.c _ _
  have w15 : -2 ≤ Xi S 904 78 ∧ Xi S 904 78 ≤ 5010 := hH.c _ _
  have w16 : 0 ≤ Xi S 904 81 ∧ Xi S 904 81 ≤ 5010 := hH.c _ _
  have w17 : 0 ≤ Xi S 904 94 ∧ Xi S 904 94 ≤ 1700 := hH.c _ _
  have w18 : 0 ≤ Xi S 904 98 ∧ Xi S 904 98 ≤ 1700 := hH.c _ _
  have w19 : 0 ≤ Xi S 951 0 ∧ Xi S 951 0 ≤ 5010 := hH.c _ _
  have w20 : 0 ≤ Xi S 951 1 ∧ Xi S 951 1 ≤ 5010 := hH.c _ _
  have hn5 := hT.1
  have hc69 : 0 ≤ Xi S 904 69 ∧ Xi S 904 69 ≤ 2600 := hH.c _ _
  have hc70 : 0 ≤ Xi S 904 70 ∧ Xi S 904 70 ≤ 20 := hH.c _ _
  have hc23 : 0 ≤ Xi S 904 23 ∧ Xi S 904 23 ≤ 24 := hH.c _ _
  have hrf : ∀ r : Int, 0 ≤ r → r < Xi S 904 69 → Xi S 950 r.toNat + Xi S 951 r.toNat ≤ n ∧ 1 ≤ Xi S 951 r.toNat := fun r a b => hv r.toNat (by omega)
  have hq0 : KQL S S (Xi S 904 117) := KQL.rf
  intro T23 hHT23 hFT23 w1197 w1198 w1199 w1200 w1201 w1202 w1203 w1204 w1205 w1206 w1207 w1208 w1209 w1210 w1211 w1212 q20 r20 K20 w1213
  have w1214 : Xi T23 904 102 = Xi S 904 102 := hFT23.x _ _ rfl
  have w1215 : Xi T23 904 103 = Xi S 904 103 := hFT23.x _ _ rfl
  have w1216 : Xi T23 904 16 = Xi S 904 16 := hFT23.x _ _ rfl
  have w1217 : Xi T23 904 18 = Xi S 904 18 := hFT23.x _ _ rfl
  have w1218 : Xi T23 904 19 = Xi S 904 19 := hFT23.x _ _ rfl
  have w1219 : Xi T23 904 23 = Xi S 904 23 := hFT23.x _ _ rfl
  have w1220 : Xi T23 904 30 = Xi S 904 30 := hFT23.x _ _ rfl
  have w1221 : Xi T23 904 41 = Xi S 904 41 := hFT23.x _ _ rfl
  have w1222 : Xi T23 904 47 = Xi S 904 47 := hFT23.x _ _ rfl
  have w1223 : Xi T23 904 49 = Xi S 904 49 := hFT23.x _ _ rfl
  have w1224 : Xi T23 904 55 = Xi S 904 55 := hFT23.x _ _ rfl
  have w1225 : Xi T23 904 60 = Xi S 904 60 := hFT23.x _ _ rfl
  have w1226 : Xi T23 904 69 = Xi S 904 69 := hFT23.x _ _ rfl
  have w1227 : Xi T23 904 70 = Xi S 904 70 := hFT23.x _ _ rfl
  have w1228 : Xi T23 904 71 = Xi S 904 71 := hFT23.x _ _ rfl
  have w1229 : Xi T23 904 72 = Xi S 904 72 := hFT23.x _ _ rfl
  have w1230 : Xi T23 904 73 = Xi S 904 73 := hFT23.x _ _ rfl
  have w1231 : Xi T23 904 74 = Xi S 904 74 := hFT23.x _ _ rfl
  have w1232 : Xi T23 904 78 = Xi S 904 78 := hFT23.x _ _ rfl
  have w1233 : Xi T23 904 81 = Xi S 904 81 := hFT23.x _ _ rfl
  have w1234 : Xi T23 904 94 = Xi S 904 94 := hFT23.x _ _ rfl
  have w1235 : Xi T23 904 98 = Xi S 904 98 := hFT23.x _ _ rfl
  have w1236 : Xi T23 951 0 = Xi S 951 0 := hFT23.x _ _ rfl
  have w1237 : Xi T23 951 1 = Xi S 951 1 := hFT23.x _ _ rfl
  have w1238 : 0 ≤ Xi T23 904 106 ∧ Xi T23 904 106 ≤ 9 := hHT23.c _ _
  have w1239 : 0 ≤ Xi T23 904 108 ∧ Xi T23 904 108 ≤ 2600 := hHT23.c _ _
  have w1240 : -1 ≤ Xi T23 904 115 ∧ Xi T23 904 115 ≤ 15 := hHT23.c _ _
  have w1241 : -1 ≤ Xi T23 904 116 ∧ Xi T23 904 116 ≤ 15 := hHT23.c _ _
  have w1242 : 0 ≤ Xi T23 904 117 ∧ Xi T23 904 117 ≤ 480 := hHT23.c _ _
  have w1243 : -1 ≤ Xi T23 904 60 ∧ Xi T23 904 60 ≤ 23 := hHT23.c _ _
  have w1244 : 0 ≤ Xi T23 904 69 ∧ Xi T23 904 69 ≤ 2600 := hHT23.c _ _
  have w1245 : 0 ≤ Xi T23 904 70 ∧ Xi T23 904 70 ≤ 20 := hHT23.c _ _
  have w1246 : 0 ≤ Xi T23 904 71 ∧ Xi T23 904 71 ≤ 2600 := hHT23.c _ _
  have w1247 : 0 ≤ Xi T23 904 72 ∧ Xi T23 904 72 ≤ 2600 := hHT23.c _ _
  have w1248 : 0 ≤ Xi T23 904 73 ∧ Xi T23 904 73 ≤ 5 := hHT23.c _ _
  have w1249 : 0 ≤ Xi T23 904 74 ∧ Xi T23 904 74 ≤ 2600 := hHT23.c _ _
  have w1250 : -2 ≤ Xi T23 904 78 ∧ Xi T23 904 78 ≤ 5010 := hHT23.c _ _
  have w1251 : 0 ≤ Xi T23 904 81 ∧ Xi T23 904 81 ≤ 5010 := hHT23.c _ _
  have w1252 : 0 ≤ Xi T23 904 94 ∧ Xi T23 904 94 ≤ 1700 := hHT23.c _ _
  have w1253 : 0 ≤ Xi T23 904 98 ∧ Xi T23 904 98 ≤ 1700 := hHT23.c _ _
  refine l_aload_n rfl rfl ?_
  have s241 := q20.2.2.2.2.2.1 (by omega)
  have x241 := q20.2.2.2.2.2.2.1 (by omega)
  have w1254 : 0 ≤ Xi T23 904 106 ∧ Xi T23 904 106 ≤ 9 := hHT23.c _ _
  have w1255 : 0 ≤ Xi T23 904 108 ∧ Xi T23 904 108 ≤ 2600 := hHT23.c _ _
  have w1256 : -1 ≤ Xi T23 904 115 ∧ Xi T23 904 115 ≤ 15 := hHT23.c _ _
  have w1257 : -1 ≤ Xi T23 904 116 ∧ Xi T23 904 116 ≤ 15 := hHT23.c _ _
  have w1258 : 0 ≤ Xi T23 904 117 ∧ Xi T23 904 117 ≤ 480 := hHT23.c _ _
  have w1259 : 0 ≤ Xi T23 904 142 ∧ Xi T23 904 142 ≤ 4 := hHT23.c _ _
  have w1260 : 0 ≤ Xi T23 904 16 ∧ Xi T23 904 16 ≤ 16 := hHT23.c _ _
  have w1261 : 0 ≤ Xi T23 904 18 ∧ Xi T23 904 18 ≤ 8 := hHT23.c _ _
  have w1262 : 0 ≤ Xi T23 904 49 ∧ Xi T23 904 49 ≤ 12 := hHT23.c _ _
  have w1263 : -1 ≤ Xi T23 904 60 ∧ Xi T23 904 60 ≤ 23 := hHT23.c _ _
  have w1264 : 0 ≤ Xi T23 904 69 ∧ Xi T23 904 69 ≤ 2600 := hHT23.c _ _
  have w1265 : 0 ≤ Xi T23 904 70 ∧ Xi T23 904 70 ≤ 20 := hHT23.c _ _
  have w1266 : 0 ≤ Xi T23 904 71 ∧ Xi T23 904 71 ≤ 2600 := hHT23.c _ _
  have w1267 : 0 ≤ Xi T23 904 72 ∧ Xi T23 904 72 ≤ 2600 := hHT23.c _ _
  have w1268 : 0 ≤ Xi T23 904 73 ∧ Xi T23 904 73 ≤ 5 := hHT23.c _ _
  have w1269 : 0 ≤ Xi T23 904 74 ∧ Xi T23 904 74 ≤ 2600 := hHT23.c _ _
  have w1270 : -2 ≤ Xi T23 904 78 ∧ Xi T23 904 78 ≤ 5010 := hHT23.c _ _
  have w1271 : 0 ≤ Xi T23 904 81 ∧ Xi T23 904 81 ≤ 5010 := hHT23.c _ _
  have w1272 : 0 ≤ Xi T23 904 94 ∧ Xi T23 904 94 ≤ 1700 := hHT23.c _ _
  have w1273 : 0 ≤ Xi T23 904 98 ∧ Xi T23 904 98 ≤ 1700 := hHT23.c _ _
  refine l_callV rfl rfl rfl (t_mo_askKinds hHT23 n (by first | assumption | exact (TK_FR hFT23 rfl (by assumption : TK S _))) (by first | assumption | exact (RNV_FR hFT23 rfl (by assumption : RNV S _))) (by first | assumption | exact (LXM_FR hFT23 rfl (by assumption : LXM S))) (by first | assumption | exact fun k hk => absurd hk (by omega) | exact (by assumption : NWV T23)) (by first | assumption | omega) (by first | assumption | omega) (by first | assumption | omega) (by first | assumption | omega) (fun e => by have t := hap.2.2.2.1 (by omega); omega) _) ?_
  rintro _ T24 ⟨hHT24, w1275, rfl, f242, h242, g242⟩
  have hFT24 : FR md_mo_asked S T24 := FR.tr hFT23 w1275 rfl
  show Rl _ _ _ _ _ [] _ _
  have y242_69 : Xi T24 904 69 = Xi T23 904 69 := ((show Xi T24 904 69 = Xi T23 904 69 from w1275.x _ _ rfl))
  have y242_70 : Xi T24 904 70 = Xi T23 904 70 := ((show Xi T24 904 70 = Xi T23 904 70 from w1275.x _ _ rfl))
  have y242_71 : Xi T24 904 71 = Xi T23 904 71 := ((show Xi T24 904 71 = Xi T23 904 71 from w1275.x _ _ rfl))
  have y242_72 : Xi T24 904 72 = Xi T23 904 72 := ((show Xi T24 904 72 = Xi T23 904 72 from w1275.x _ _ rfl))
  have y242_73 : Xi T24 904 73 = Xi T23 904 73 := ((show Xi T24 904 73 = Xi T23 904 73 from w1275.x _ _ rfl))
  have y242_74 : Xi T24 904 74 = Xi T23 904 74 := ((show Xi T24 904 74 = Xi T23 904 74 from w1275.x _ _ rfl))
  have y242_78 : Xi T24 904 78 = Xi T23 904 78 := ((show Xi T24 904 78 = Xi T23 904 78 from w1275.x _ _ rfl))
  have y242_81 : Xi T24 904 81 = Xi T23 904 81 := ((show Xi T24 904 81 = Xi T23 904 81 from w1275.x _ _ rfl))
  have y242_94 : Xi T24 904 94 = Xi T23 904 94 := ((show Xi T24 904 94 = Xi T23 904 94 from w1275.x _ _ rfl))
  have y242_98 : Xi T24 904 98 = Xi T23 904 98 := ((show Xi T24 904 98 = Xi T23 904 98 from w1275.x _ _ rfl))
  have y242_60 : Xi T24 904 60 = Xi T23 904 60 := ((show Xi T24 904 60 = Xi T23 904 60 from w1275.x _ _ rfl))
  have y242_117 : Xi T24 904 117 = Xi T23 904 117 := ((show Xi T24 904 117 = Xi T23 904 117 from w1275.x _ _ rfl))
  have u242_16 : Xi T24 904 16 = Xi S 904 16 := hFT24.x 904 16 rfl
  have u242_18 : Xi T24 904 18 = Xi S 904 18 := hFT24.x 904 18 rfl
  have u242_49 : Xi T24 904 49 = Xi S 904 49 := hFT24.x 904 49 rfl
  have F242 : Xi T24 904 106 = 0 → DOK T24 := fun q => (by have a := f242 q; have b := h242 q; have c := g242 q; rw [hFT23.x 904 16 rfl, hFT23.x 904 18 rfl, hFT23.x 904 49 rfl] at a; rw [rnR_FR hFT23 rfl rfl] at b; simp only [(hFT23.cx 951 rfl _).1] at c; rcases (by omega : Xi T24 904 70 = 10 ∨ Xi T24 904 70 = 11) with e | e; exact dok_10 e ⟨fun y => by have t := a.2.1 (by omega) (by omega); omega, fun y => by have t := a.2.2 (by omega) (by omega); omega, fun y => by rw [rnR_FR hFT24 rfl rfl, show Xi T24 904 78 = Xi T23 904 78 by omega]; exact b (by omega), fun i x y => by rw [(hFT24.cx 951 rfl _).1, show Xi T24 904 71 = Xi T23 904 71 by omega]; exact c i x (by omega)⟩; exact dok_11 e ⟨by have t := a.1 (by omega); omega, fun y => by rw [rnR_FR hFT24 rfl rfl, show Xi T24 904 78 = Xi T23 904 78 by omega]; exact b (by omega), fun i x y => by rw [(hFT24.cx 951 rfl _).1, show Xi T24 904 71 = Xi T23 904 71 by omega]; exact c i x (by omega)⟩)
  refine l_goto rfl rfl ?_
  refine l_return rfl rfl ?_
  have w1276 : 0 ≤ Xi T24 904 106 ∧ Xi T24 904 106 ≤ 9 := hHT24.c _ _
  have w1277 : 0 ≤ Xi T24 904 108 ∧ Xi T24 904 108 ≤ 2600 := hHT24.c _ _
  have w1278 : Xi T24 904 109 = Xi T23 904 109 := (show Xi T24 904 109 = Xi T23 904 109 from w1275.x _ _ rfl)
  have w1279 : Xi T24 904 115 = Xi T23 904 115 := (show Xi T24 904 115 = Xi T23 904 115 from w1275.x _ _ rfl)
  have w1280 : -1 ≤ Xi T23 904 115 ∧ Xi T23 904 115 ≤ 15 := hHT23.c _ _
  have w1281 : Xi T24 904 116 = Xi T23 904 116 := (show Xi T24 904 116 = Xi T23 904 116 from w1275.x _ _ rfl)
  have w1282 : -1 ≤ Xi T23 904 116 ∧ Xi T23 904 116 ≤ 15 := hHT23.c _ _
  have w1283 : Xi T24 904 117 = Xi T23 904 117 := (show Xi T24 904 117 = Xi T23 904 117 from w1275.x _ _ rfl)
  have w1284 : 0 ≤ Xi T23 904 117 ∧ Xi T23 904 117 ≤ 480 := hHT23.c _ _
  have w1285 : Xi T24 904 142 = Xi T23 904 142 := (show Xi T24 904 142 = Xi T23 904 142 from w1275.x _ _ rfl)
  have w1286 : 0 ≤ Xi T23 904 142 ∧ Xi T23 904 142 ≤ 4 := hHT23.c _ _
  have w1287 : Xi T24 904 60 = Xi T23 904 60 := (show Xi T24 904 60 = Xi T23 904 60 from w1275.x _ _ rfl)
  have w1288 : -1 ≤ Xi T23 904 60 ∧ Xi T23 904 60 ≤ 23 := hHT23.c _ _
  have w1289 : Xi T24 904 69 = Xi T23 904 69 := (show Xi T24 904 69 = Xi T23 904 69 from w1275.x _ _ rfl)
  have w1290 : 0 ≤ Xi T23 904 69 ∧ Xi T23 904 69 ≤ 2600 := hHT23.c _ _
  have w1291 : Xi T24 904 70 = Xi T23 904 70 := (show Xi T24 904 70 = Xi T23 904 70 from w1275.x _ _ rfl)
  have w1292 : 0 ≤ Xi T23 904 70 ∧ Xi T23 904 70 ≤ 20 := hHT23.c _ _
  have w1293 : Xi T24 904 71 = Xi T23 904 71 := (show Xi T24 904 71 = Xi T23 904 71 from w1275.x _ _ rfl)
  have w1294 : 0 ≤ Xi T23 904 71 ∧ Xi T23 904 71 ≤ 2600 := hHT23.c _ _
  have w1295 : Xi T24 904 72 = Xi T23 904 72 := (show Xi T24 904 72 = Xi T23 904 72 from w1275.x _ _ rfl)
  have w1296 : 0 ≤ Xi T23 904 72 ∧ Xi T23 904 72 ≤ 2600 := hHT23.c _ _
  have w1297 : Xi T24 904 73 = Xi T23 904 73 := (show Xi T24 904 73 = Xi T23 904 73 from w1275.x _ _ rfl)
  have w1298 : 0 ≤ Xi T23 904 73 ∧ Xi T23 904 73 ≤ 5 := hHT23.c _ _
  have w1299 : Xi T24 904 74 = Xi T23 904 74 := (show Xi T24 904 74 = Xi T23 904 74 from w1275.x _ _ rfl)
  have w1300 : 0 ≤ Xi T23 904 74 ∧ Xi T23 904 74 ≤ 2600 := hHT23.c _ _
  have w1301 : Xi T24 904 78 = Xi T23 904 78 := (show Xi T24 904 78 = Xi T23 904 78 from w1275.x _ _ rfl)
  have w1302 : -2 ≤ Xi T23 904 78 ∧ Xi T23 904 78 ≤ 5010 := hHT23.c _ _
  have w1303 : Xi T24 904 81 = Xi T23 904 81 := (show Xi T24 904 81 = Xi T23 904 81 from w1275.x _ _ rfl)
  have w1304 : 0 ≤ Xi T23 904 81 ∧ Xi T23 904 81 ≤ 5010 := hHT23.c _ _
  have w1305 : Xi T24 904 94 = Xi T23 904 94 := (show Xi T24 904 94 = Xi T23 904 94 from w1275.x _ _ rfl)
  have w1306 : 0 ≤ Xi T23 904 94 ∧ Xi T23 904 94 ≤ 1700 := hHT23.c _ _
  have w1307 : Xi T24 904 98 = Xi T23 904 98 := (show Xi T24 904 98 = Xi T23 904 98 from w1275.x _ _ rfl)
  have w1308 : 0 ≤ Xi T23 904 98 ∧ Xi T23 904 98 ≤ 1700 := hHT23.c _ _
  exact ⟨hHT24, hFT24, rfl, (by assumption), (by first | exact fun q => by assumption | assumption | exact fun q => (RDT_FR hHT23 w1275 rfl rfl rfl (by assumption : RDT T23)))⟩
set_option maxRecDepth 100000 in
set_option maxHeartbeats 8000000 in
theorem c248_mo_asked {S : sS} (hH : HI S) (n : Nat) (dd : Nat) (first : Int) (hfirst : 0 ≤ first ∧ first ≤ 5001) (hT : TK S n) (hv : RNV S n) (hM : LXM S) (hB : ABV S) (hC : DCM S) (hK : TXK S n) (hX : TXM S) (hq : SNQ S n) (hap : AP9 S n) (h94 : Xi S 904 94 ≤ 1668) (hRD : RDT S) (hPF : PF S) (hdt : Xi S 904 70 = 20 → first ≤ dd ∧ dd < n ∧ Xi S 907 dd = 46) (d : Nat) : ∀  (T25 : sS) (_ : HI T25) (_ : FR md_mo_asked S T25), (Xi T25 904 117 = Xi S 904 117) → (Xi T25 904 69 = Xi S 904 69) → (Xi T25 904 70 = Xi S 904 70) → (Xi T25 904 71 = Xi S 904 71) → (Xi T25 904 72 = Xi S 904 72) → (Xi T25 904 73 = Xi S 904 73) → (Xi T25 904 74 = Xi S 904 74) → (Xi T25 904 78 = Xi S 904 78) → (Xi T25 904 81 = Xi S 904 81) → (Xi T25 904 94 = Xi S 904 94) → (Xi T25 904 98 = Xi S 904 98) → (Xi T25 904 60 = Xi S 904 60) → (Xi T25 904 106 = 0) → (Xi T25 904 108 = 0) → (Xi T25 904 115 = -1) → (Xi T25 904 116 = -1) → (SNQ T25 n) → (RDT T25) → (KQL T25 S (Xi S 904 117)) → (Xi S 904 70 = 12) → Rl lay0 (d + 12) m_mo_asked 248 [(0, .ref 904)] [] T25 (Q_mo_asked S n dd first) := by
  have hF : FR md_mo_asked S S := FR.rf
  have w1 : 0 ≤ Xi S 904 106 ∧ Xi S 904 106 ≤ 9 := hH.c _ _
  have w2 : 0 ≤ Xi S 904 108 ∧ Xi S 904 108 ≤ 2600 := hH.c _ _
  have w3 : -1 ≤ Xi S 904 115 ∧ Xi S 904 115 ≤ 15 := hH.c _ _
  have w4 : -1 ≤ Xi S 904 116 ∧ Xi S 904 116 ≤ 15 := hH.c _ _
  have w5 : 0 ≤ Xi S 904 117 ∧ Xi S 904 117 ≤ 480 := hH.c _ _
  have w6 : 0 ≤ Xi S 904 23 ∧ Xi S 904 23 ≤ 24 := hH.c _ _
  have w7 : 0 ≤ Xi S 904 41 ∧ Xi S 904 41 ≤ 6 := hH.c _ _
  have w8 : -1 ≤ Xi S 904 60 ∧ Xi S 904 60 ≤ 23 := hH.c _ _
  have w9 : 0 ≤ Xi S 904 69 ∧ Xi S 904 69 ≤ 2600 := hH.c _ _
  have w10 : 0 ≤ Xi S 904 70 ∧ Xi S 904 70 ≤ 20 := hH.c _ _
  have w11 : 0 ≤ Xi S 904 71 ∧ Xi S 904 71 ≤ 2600 := hH.c _ _
  have w12 : 0 ≤ Xi S 904 72 ∧ Xi S 904 72 ≤ 2600 := hH.c _ _
  have w13 : 0 ≤ Xi S 904 73 ∧ Xi S 904 73 ≤ 5 := hH.c _ _
  have w14 : 0 ≤ Xi S 904 74 ∧ Xi S 904 74 ≤ 2600 := hH.c _ _
  have w15 : -2 ≤ Xi S 904 78 ∧ Xi S 904 78 ≤ 5010 := hH.c _ _
  have w16 : 0 ≤ Xi S 904 81 ∧ Xi S 904 81 ≤ 5010 := hH.c _ _
  have w17 : 0 ≤ Xi S 904 94 ∧ Xi S 904 94 ≤ 1700 := hH.c _ _
  have w18 : 0 ≤ Xi S 904 98 ∧ Xi S 904 98 ≤ 1700 := hH.c _ _
  have w19 : 0 ≤ Xi S 951 0 ∧ Xi S 951 0 ≤ 5010 := hH.c _ _
  have w20 : 0 ≤ Xi S 951 1 ∧ Xi S 951 1 ≤ 5010 := hH.c _ _
  have hn5 := hT.1
  have hc69 : 0 ≤ Xi S 904 69 ∧ Xi S 904 69 ≤ 2600 := hH.c _ _
  have hc70 : 0 ≤ Xi S 904 70 ∧ Xi S 904 70 ≤ 20 := hH.c _ _
  have hc23 : 0 ≤ Xi S 904 23 ∧ Xi S 904 23 ≤ 24 := hH.c _ _
  have hrf : ∀ r : Int, 0 ≤ r → r < Xi S 904 69 → Xi S 950 r.toNat + Xi S 951 r.toNat ≤ n ∧ 1 ≤ Xi S 951 r.toNat := fun r a b => hv r.toNat (by omega)
  have hq0 : KQL S S (Xi S 904 117) := KQL.rf
  intro T25 hHT25 hFT25 w1309 w1310 w1311 w1312 w1313 w1314 w1315 w1316 w1317 w1318 w1319 w1320 w1321 w1322 w1323 w1324 q20 r20 K20 w1325
  have w1326 : Xi T25 904 102 = Xi S 904 102 := hFT25.x _ _ rfl
  have w1327 : Xi T25 904 103 = Xi S 904 103 := hFT25.x _ _ rfl
  have w1328 : Xi T25 904 16 = Xi S 904 16 := hFT25.x _ _ rfl
  have w1329 : Xi T25 904 18 = Xi S 904 18 := hFT25.x _ _ rfl
  have w1330 : Xi T25 904 19 = Xi S 904 19 := hFT25.x _ _ rfl
  have w1331 : Xi T25 904 23 = Xi S 904 23 := hFT25.x _ _ rfl
  have w1332 : Xi T25 904 30 = Xi S 904 30 := hFT25.x _ _ rfl
  have w1333 : Xi T25 904 41 = Xi S 904 41 := hFT25.x _ _ rfl
  have w1334 : Xi T25 904 47 = Xi S 904 47 := hFT25.x _ _ rfl
  have w1335 : Xi T25 904 49 = Xi S 904 49 := hFT25.x _ _ rfl
  have w1336 : Xi T25 904 55 = Xi S 904 55 := hFT25.x _ _ rfl
  have w1337 : Xi T25 904 60 = Xi S 904 60 := hFT25.x _ _ rfl
  have w1338 : Xi T25 904 69 = Xi S 904 69 := hFT25.x _ _ rfl
  have w1339 : Xi T25 904 70 = Xi S 904 70 := hFT25.x _ _ rfl
  have w1340 : Xi T25 904 71 = Xi S 904 71 := hFT25.x _ _ rfl
  have w1341 : Xi T25 904 72 = Xi S 904 72 := hFT25.x _ _ rfl
  have w1342 : Xi T25 904 73 = Xi S 904 73 := hFT25.x _ _ rfl
  have w1343 : Xi T25 904 74 = Xi S 904 74 := hFT25.x _ _ rfl
  have w1344 : Xi T25 904 78 = Xi S 904 78 := hFT25.x _ _ rfl
  have w1345 : Xi T25 904 81 = Xi S 904 81 := hFT25.x _ _ rfl
  have w1346 : Xi T25 904 94 = Xi S 904 94 := hFT25.x _ _ rfl
  have w1347 : Xi T25 904 98 = Xi S 904 98 := hFT25.x _ _ rfl
  have w1348 : Xi T25 951 0 = Xi S 951 0 := hFT25.x _ _ rfl
  have w1349 : Xi T25 951 1 = Xi S 951 1 := hFT25.x _ _ rfl
  have w1350 : 0 ≤ Xi T25 904 106 ∧ Xi T25 904 106 ≤ 9 := hHT25.c _ _
  have w1351 : 0 ≤ Xi T25 904 108 ∧ Xi T25 904 108 ≤ 2600 := hHT25.c _ _
  have w1352 : -1 ≤ Xi T25 904 115 ∧ Xi T25 904 115 ≤ 15 := hHT25.c _ _
  have w1353 : -1 ≤ Xi T25 904 116 ∧ Xi T25 904 116 ≤ 15 := hHT25.c _ _
  have w1354 : 0 ≤ Xi T25 904 117 ∧ Xi T25 904 117 ≤ 480 := hHT25.c _ _
  have w1355 : -1 ≤ Xi T25 904 60 ∧ Xi T25 904 60 ≤ 23 := hHT25.c _ _
  have w1356 : 0 ≤ Xi T25 904 69 ∧ Xi T25 904 69 ≤ 2600 := hHT25.c _ _
  have w1357 : 0 ≤ Xi T25 904 70 ∧ Xi T25 904 70 ≤ 20 := hHT25.c _ _
  have w1358 : 0 ≤ Xi T25 904 71 ∧ Xi T25 904 71 ≤ 2600 := hHT25.c _ _
  have w1359 : 0 ≤ Xi T25 904 72 ∧ Xi T25 904 72 ≤ 2600 := hHT25.c _ _
  have w1360 : 0 ≤ Xi T25 904 73 ∧ Xi T25 904 73 ≤ 5 := hHT25.c _ _
  have w1361 : 0 ≤ Xi T25 904 74 ∧ Xi T25 904 74 ≤ 2600 := hHT25.c _ _
  have w1362 : -2 ≤ Xi T25 904 78 ∧ Xi T25 904 78 ≤ 5010 := hHT25.c _ _
  have w1363 : 0 ≤ Xi T25 904 81 ∧ Xi T25 904 81 ≤ 5010 := hHT25.c _ _
  have w1364 : 0 ≤ Xi T25 904 94 ∧ Xi T25 904 94 ≤ 1700 := hHT25.c _ _
  have w1365 : 0 ≤ Xi T25 904 98 ∧ Xi T25 904 98 ≤ 1700 := hHT25.c _ _
  refine l_aload_n rfl rfl ?_
  have s248 := q20.2.2.2.2.2.1 (by omega)
  have x248 := q20.2.2.2.2.2.2.1 (by omega)
  have y248 := q20.2.2.2.2.2.2.2.1 (by omega)
  have z248 : Xi T25 904 73 ≠ 0 → Xi T25 904 74 < Xi T25 904 69 := fun h => q20.2.2.2.2.2.2.2.2.1 (by omega)
  have g248 := hrf (Xi S 904 78) (by omega) (by omega)
  have w1366 : 0 ≤ Xi T25 904 106 ∧ Xi T25 904 106 ≤ 9 := hHT25.c _ _
  have w1367 : 0 ≤ Xi T25 904 108 ∧ Xi T25 904 108 ≤ 2600 := hHT25.c _ _
  have w1368 : -1 ≤ Xi T25 904 115 ∧ Xi T25 904 115 ≤ 15 := hHT25.c _ _
  have w1369 : -1 ≤ Xi T25 904 116 ∧ Xi T25 904 116 ≤ 15 := hHT25.c _ _
  have w1370 : 0 ≤ Xi T25 904 117 ∧ Xi T25 904 117 ≤ 480 := hHT25.c _ _
  have w1371 : 0 ≤ Xi T25 904 142 ∧ Xi T25 904 142 ≤ 4 := hHT25.c _ _
  have w1372 : -1 ≤ Xi T25 904 60 ∧ Xi T25 904 60 ≤ 23 := hHT25.c _ _
  have w1373 : 0 ≤ Xi T25 904 69 ∧ Xi T25 904 69 ≤ 2600 := hHT25.c _ _
  have w1374 : 0 ≤ Xi T25 904 70 ∧ Xi T25 904 70 ≤ 20 := hHT25.c _ _
  have w1375 : 0 ≤ Xi T25 904 71 ∧ Xi T25 904 71 ≤ 2600 := hHT25.c _ _
  have w1376 : 0 ≤ Xi T25 904 72 ∧ Xi T25 904 72 ≤ 2600 := hHT25.c _ _
  have w1377 : 0 ≤ Xi T25 904 73 ∧ Xi T25 904 73 ≤ 5 := hHT25.c _ _
  have w1378 : 0 ≤ Xi T25 904 74 ∧ Xi T25 904 74 ≤ 2600 := hHT25.c _ _
  have w1379 : -2 ≤ Xi T25 904 78 ∧ Xi T25 904 78 ≤ 5010 := hHT25.c _ _
  have w1380 : 0 ≤ Xi T25 904 81 ∧ Xi T25 904 81 ≤ 5010 := hHT25.c _ _
  have w1381 : 0 ≤ Xi T25 904 94 ∧ Xi T25 904 94 ≤ 1700 := hHT25.c _ _
  have w1382 : 0 ≤ Xi T25 904 98 ∧ Xi T25 904 98 ≤ 1700 := hHT25.c _ _
  refine l_callV rfl rfl rfl (t_mo_objectsOrNew hHT25 n (by first | assumption | exact (TK_FR hFT25 rfl (by assumption : TK S _))) (by first | assumption | exact (RNV_FR hFT25 rfl (by assumption : RNV S _))) (by first | assumption | exact (LXM_FR hFT25 rfl (by assumption : LXM S))) (by first | assumption | exact fun k hk => absurd hk (by omega) | exact (by assumption : NWV T25)) (by first | assumption | omega) (by first | assumption | omega) _) ?_
  rintro _ T26 ⟨hHT26, w1387, rfl, w1383, f249, w1384, w1385⟩
  have hFT26 : FR md_mo_asked S T26 := FR.tr hFT25 w1387 rfl
  show Rl _ _ _ _ _ [] _ _
  have O249 : Xi T26 904 106 = 0 → ONA S := fun q => ona_bk hFT25 rfl (f249 q)
  clear f249
  refine l_aload_n rfl rfl ?_
  refine l_iconst rfl ?_
  refine l_pfi rfl rfl rfl rfl ?_
  obtain ⟨U27, eU27⟩ : ∃ T : sS, T = uI T26 904 109 (Int32.ofInt 0) := ⟨_, rfl⟩
  rw [← eU27]
  have hHU27 : HI U27 := by rw [eU27]; exact HI_any hHT26 (rfl)
  have hFU27 : FR md_mo_asked S U27 := by rw [eU27]; exact FR.wI hFT26 (mdf_i (r := (904, 905, 109, 110)) (List.mem_of_getElem? (i := 5) rfl) (inR_i (by omega) (by omega) (by omega) (by omega)))
  have w1388 : Xi U27 904 109 = 0 := by rw [eU27]; exact Xi_same (by unfold rg; omega)
  refine l_aload_n rfl rfl ?_
  refine l_aload_n rfl rfl ?_
  refine l_gfr rfl rfl rfl rfl rfl (hHU27.r 904 67 950 rfl) ?_
  refine l_aload_n rfl rfl ?_
  refine l_gfi rfl rfl rfl rfl rfl ?_
  have w1389 : (Xi U27 904 78) = (Xi T25 904 78) := (show Xi U27 904 78 = Xi T26 904 78 from by rw [eU27]; exact Xi_ne (by omega)).trans ((show Xi T26 904 78 = Xi T25 904 78 from w1387.x _ _ rfl))
  rw [w1389]
  refine l_iaload (n := 2600) rfl rfl (by omega) (by omega) (by unfold rg; omega) ?_
  have w1390 : 0 ≤ (Xi U27 950 (((Xi T25 904 78)).toNat)) ∧ (Xi U27 950 (((Xi T25 904 78)).toNat)) ≤ 5010 := hHU27.c _ _
  have e266 : (Xi U27 950 (((Xi T25 904 78)).toNat)) = Xi S 950 (Xi S 904 78).toNat := by first | rfl | exact (hFU27.cx 950 rfl _).1 | (rw [(hFU27.cx 950 rfl _).1]; exact congrArg (fun t : Int => Xi S 950 t.toNat) (by omega))
  refine l_aload_n rfl rfl ?_
  refine l_gfr rfl rfl rfl rfl rfl (hHU27.r 904 68 951 rfl) ?_
  refine l_aload_n rfl rfl ?_
  refine l_gfi rfl rfl rfl rfl rfl ?_
  have w1391 : (Xi U27 904 78) = (Xi T25 904 78) := (show Xi U27 904 78 = Xi T26 904 78 from by rw [eU27]; exact Xi_ne (by omega)).trans ((show Xi T26 904 78 = Xi T25 904 78 from w1387.x _ _ rfl))
  rw [w1391]
  refine l_iaload (n := 2600) rfl rfl (by omega) (by omega) (by unfold rg; omega) ?_
  have w1392 : 0 ≤ (Xi U27 951 (((Xi T25 904 78)).toNat)) ∧ (Xi U27 951 (((Xi T25 904 78)).toNat)) ≤ 5010 := hHU27.c _ _
  have e275 : (Xi U27 951 (((Xi T25 904 78)).toNat)) = Xi S 951 (Xi S 904 78).toNat := by first | rfl | exact (hFU27.cx 951 rfl _).1 | (rw [(hFU27.cx 951 rfl _).1]; exact congrArg (fun t : Int => Xi S 951 t.toNat) (by omega))
  refine l_iconst rfl ?_
  refine l_iconst rfl ?_
  refine l_iconst rfl ?_
  have w1393 : Xi U27 904 106 = Xi T26 904 106 := (show Xi U27 904 106 = Xi T26 904 106 from by rw [eU27]; exact Xi_ne (by omega))
  have w1394 : 0 ≤ Xi T26 904 106 ∧ Xi T26 904 106 ≤ 9 := hHT26.c _ _
  have w1395 : Xi U27 904 108 = Xi T26 904 108 := (show Xi U27 904 108 = Xi T26 904 108 from by rw [eU27]; exact Xi_ne (by omega))
  have w1396 : 0 ≤ Xi T26 904 108 ∧ Xi T26 904 108 ≤ 2600 := hHT26.c _ _
  have w1397 : Xi U27 904 115 = Xi T25 904 115 := (show Xi U27 904 115 = Xi T26 904 115 from by rw [eU27]; exact Xi_ne (by omega)).trans ((show Xi T26 904 115 = Xi T25 904 115 from w1387.x _ _ rfl))
  have w1398 : -1 ≤ Xi T25 904 115 ∧ Xi T25 904 115 ≤ 15 := hHT25.c _ _
  have w1399 : Xi U27 904 116 = Xi T25 904 116 := (show Xi U27 904 116 = Xi T26 904 116 from by rw [eU27]; exact Xi_ne (by omega)).trans ((show Xi T26 904 116 = Xi T25 904 116 from w1387.x _ _ rfl))
  have w1400 : -1 ≤ Xi T25 904 116 ∧ Xi T25 904 116 ≤ 15 := hHT25.c _ _
  have w1401 : Xi U27 904 117 = Xi T25 904 117 := (show Xi U27 904 117 = Xi T26 904 117 from by rw [eU27]; exact Xi_ne (by omega)).trans ((show Xi T26 904 117 = Xi T25 904 117 from w1387.x _ _ rfl))
  have w1402 : 0 ≤ Xi T25 904 117 ∧ Xi T25 904 117 ≤ 480 := hHT25.c _ _
  have w1403 : Xi U27 904 142 = Xi T25 904 142 := (show Xi U27 904 142 = Xi T26 904 142 from by rw [eU27]; exact Xi_ne (by omega)).trans ((show Xi T26 904 142 = Xi T25 904 142 from w1387.x _ _ rfl))
  have w1404 : 0 ≤ Xi T25 904 142 ∧ Xi T25 904 142 ≤ 4 := hHT25.c _ _
  have w1405 : Xi U27 904 60 = Xi T25 904 60 := (show Xi U27 904 60 = Xi T26 904 60 from by rw [eU27]; exact Xi_ne (by omega)).trans ((show Xi T26 904 60 = Xi T25 904 60 from w1387.x _ _ rfl))
  have w1406 : -1 ≤ Xi T25 904 60 ∧ Xi T25 904 60 ≤ 23 := hHT25.c _ _
  have w1407 : Xi U27 904 69 = Xi T25 904 69 := (show Xi U27 904 69 = Xi T26 904 69 from by rw [eU27]; exact Xi_ne (by omega)).trans ((show Xi T26 904 69 = Xi T25 904 69 from w1387.x _ _ rfl))
  have w1408 : 0 ≤ Xi T25 904 69 ∧ Xi T25 904 69 ≤ 2600 := hHT25.c _ _
  have w1409 : Xi U27 904 70 = Xi T25 904 70 := (show Xi U27 904 70 = Xi T26 904 70 from by rw [eU27]; exact Xi_ne (by omega)).trans ((show Xi T26 904 70 = Xi T25 904 70 from w1387.x _ _ rfl))
  have w1410 : 0 ≤ Xi T25 904 70 ∧ Xi T25 904 70 ≤ 20 := hHT25.c _ _
  have w1411 : Xi U27 904 71 = Xi T25 904 71 := (show Xi U27 904 71 = Xi T26 904 71 from by rw [eU27]; exact Xi_ne (by omega)).trans ((show Xi T26 904 71 = Xi T25 904 71 from w1387.x _ _ rfl))
  have w1412 : 0 ≤ Xi T25 904 71 ∧ Xi T25 904 71 ≤ 2600 := hHT25.c _ _
  have w1413 : Xi U27 904 72 = Xi T25 904 72 := (show Xi U27 904 72 = Xi T26 904 72 from by rw [eU27]; exact Xi_ne (by omega)).trans ((show Xi T26 904 72 = Xi T25 904 72 from w1387.x _ _ rfl))
  have w1414 : 0 ≤ Xi T25 904 72 ∧ Xi T25 904 72 ≤ 2600 := hHT25.c _ _
  have w1415 : Xi U27 904 73 = Xi T25 904 73 := (show Xi U27 904 73 = Xi T26 904 73 from by rw [eU27]; exact Xi_ne (by omega)).trans ((show Xi T26 904 73 = Xi T25 904 73 from w1387.x _ _ rfl))
  have w1416 : 0 ≤ Xi T25 904 73 ∧ Xi T25 904 73 ≤ 5 := hHT25.c _ _
  have w1417 : Xi U27 904 74 = Xi T25 904 74 := (show Xi U27 904 74 = Xi T26 904 74 from by rw [eU27]; exact Xi_ne (by omega)).trans ((show Xi T26 904 74 = Xi T25 904 74 from w1387.x _ _ rfl))
  have w1418 : 0 ≤ Xi T25 904 74 ∧ Xi T25 904 74 ≤ 2600 := hHT25.c _ _
  have w1419 : Xi U27 904 78 = Xi T25 904 78 := (show Xi U27 904 78 = Xi T26 904 78 from by rw [eU27]; exact Xi_ne (by omega)).trans ((show Xi T26 904 78 = Xi T25 904 78 from w1387.x _ _ rfl))
  have w1420 : -2 ≤ Xi T25 904 78 ∧ Xi T25 904 78 ≤ 5010 := hHT25.c _ _
  have w1421 : Xi U27 904 81 = Xi T25 904 81 := (show Xi U27 904 81 = Xi T26 904 81 from by rw [eU27]; exact Xi_ne (by omega)).trans ((show Xi T26 904 81 = Xi T25 904 81 from w1387.x _ _ rfl))
  have w1422 : 0 ≤ Xi T25 904 81 ∧ Xi T25 904 81 ≤ 5010 := hHT25.c _ _
  have w1423 : Xi U27 904 94 = Xi T25 904 94 := (show Xi U27 904 94 = Xi T26 904 94 from by rw [eU27]; exact Xi_ne (by omega)).trans ((show Xi T26 904 94 = Xi T25 904 94 from w1387.x _ _ rfl))
  have w1424 : 0 ≤ Xi T25 904 94 ∧ Xi T25 904 94 ≤ 1700 := hHT25.c _ _
  have w1425 : Xi U27 904 98 = Xi T25 904 98 := (show Xi U27 904 98 = Xi T26 904 98 from by rw [eU27]; exact Xi_ne (by omega)).trans ((show Xi T26 904 98 = Xi T25 904 98 from w1387.x _ _ rfl))
  have w1426 : 0 ≤ Xi T25 904 98 ∧ Xi T25 904 98 ≤ 1700 := hHT25.c _ _
  refine l_callV rfl rfl rfl (t_mo_describe hHU27 (Xi U27 950 (((Xi T25 904 78)).toNat)) (Xi U27 951 (((Xi T25 904 78)).toNat)) 0 0 (-1) ⟨by omega, by omega⟩ ⟨by omega, by omega⟩ ⟨by omega, by omega⟩ ⟨by omega, by omega⟩ ⟨by omega, by omega⟩ (by first | assumption | exact (LXM_FR hFU27 rfl (by assumption : LXM S))) (by first | assumption | exact (ABV_FR hFU27 rfl (by assumption : ABV S))) (by first | assumption | exact (DCM_FR hFU27 rfl (by assumption : DCM S))) (by first | assumption | omega) (fun x => absurd (by omega) x) _) ?_
  rintro _ T28 ⟨hHT28, w1428, rfl, r279⟩
  have hFT28 : FR md_mo_asked S T28 := FR.tr hFU27 w1428 rfl
  show Rl _ _ _ _ _ [] _ _
  refine l_aload_n rfl rfl ?_
  refine l_aload_n rfl rfl ?_
  refine l_gfr rfl rfl rfl rfl rfl (hHT28.r 904 67 950 rfl) ?_
  refine l_aload_n rfl rfl ?_
  refine l_gfi rfl rfl rfl rfl rfl ?_
  have w1429 : (Xi T28 904 78) = (Xi T25 904 78) := (show Xi T28 904 78 = Xi U27 904 78 from w1428.x _ _ rfl).trans ( (show Xi U27 904 78 = Xi T26 904 78 from by rw [eU27]; exact Xi_ne (by omega)).trans ((show Xi T26 904 78 = Xi T25 904 78 from w1387.x _ _ rfl)))
  rw [w1429]
  refine l_iaload (n := 2600) rfl rfl (by omega) (by omega) (by unfold rg; omega) ?_
  have w1430 : (Xi T28 950 (((Xi T25 904 78)).toNat)) = (Xi U27 950 (((Xi T25 904 78)).toNat)) := (show Xi T28 950 (((Xi T25 904 78)).toNat) = Xi U27 950 (((Xi T25 904 78)).toNat) from w1428.x _ _ rfl)
  rw [w1430]
  have e291 : (Xi U27 950 (((Xi T25 904 78)).toNat)) = Xi S 950 (Xi S 904 78).toNat := by first | rfl | exact (hFT28.cx 950 rfl _).1 | (rw [(hFU27.cx 950 rfl _).1]; exact congrArg (fun t : Int => Xi S 950 t.toNat) (by omega))
  have w1431 : Xi T28 904 106 = Xi T26 904 106 := (show Xi T28 904 106 = Xi U27 904 106 from w1428.x _ _ rfl).trans ((show Xi U27 904 106 = Xi T26 904 106 from by rw [eU27]; exact Xi_ne (by omega)))
  have w1432 : 0 ≤ Xi T26 904 106 ∧ Xi T26 904 106 ≤ 9 := hHT26.c _ _
  have w1433 : Xi T28 904 108 = Xi T26 904 108 := (show Xi T28 904 108 = Xi U27 904 108 from w1428.x _ _ rfl).trans ((show Xi U27 904 108 = Xi T26 904 108 from by rw [eU27]; exact Xi_ne (by omega)))
  have w1434 : 0 ≤ Xi T26 904 108 ∧ Xi T26 904 108 ≤ 2600 := hHT26.c _ _
  have w1435 : Xi T28 904 115 = Xi T25 904 115 := (show Xi T28 904 115 = Xi U27 904 115 from w1428.x _ _ rfl).trans ( (show Xi U27 904 115 = Xi T26 904 115 from by rw [eU27]; exact Xi_ne (by omega)).trans ((show Xi T26 904 115 = Xi T25 904 115 from w1387.x _ _ rfl)))
  have w1436 : -1 ≤ Xi T25 904 115 ∧ Xi T25 904 115 ≤ 15 := hHT25.c _ _
  have w1437 : Xi T28 904 116 = Xi T25 904 116 := (show Xi T28 904 116 = Xi U27 904 116 from w1428.x _ _ rfl).trans ( (show Xi U27 904 116 = Xi T26 904 116 from by rw [eU27]; exact Xi_ne (by omega)).trans ((show Xi T26 904 116 = Xi T25 904 116 from w1387.x _ _ rfl)))
  have w1438 : -1 ≤ Xi T25 904 116 ∧ Xi T25 904 116 ≤ 15 := hHT25.c _ _
  have w1439 : Xi T28 904 117 = Xi T25 904 117 := (show Xi T28 904 117 = Xi U27 904 117 from w1428.x _ _ rfl).trans ( (show Xi U27 904 117 = Xi T26 904 117 from by rw [eU27]; exact Xi_ne (by omega)).trans ((show Xi T26 904 117 = Xi T25 904 117 from w1387.x _ _ rfl)))
  have w1440 : 0 ≤ Xi T25 904 117 ∧ Xi T25 904 117 ≤ 480 := hHT25.c _ _
  have w1441 : Xi T28 904 142 = Xi T25 904 142 := (show Xi T28 904 142 = Xi U27 904 142 from w1428.x _ _ rfl).trans ( (show Xi U27 904 142 = Xi T26 904 142 from by rw [eU27]; exact Xi_ne (by omega)).trans ((show Xi T26 904 142 = Xi T25 904 142 from w1387.x _ _ rfl)))
  have w1442 : 0 ≤ Xi T25 904 142 ∧ Xi T25 904 142 ≤ 4 := hHT25.c _ _
  have w1443 : Xi T28 904 60 = Xi T25 904 60 := (show Xi T28 904 60 = Xi U27 904 60 from w1428.x _ _ rfl).trans ( (show Xi U27 904 60 = Xi T26 904 60 from by rw [eU27]; exact Xi_ne (by omega)).trans ((show Xi T26 904 60 = Xi T25 904 60 from w1387.x _ _ rfl)))
  have w1444 : -1 ≤ Xi T25 904 60 ∧ Xi T25 904 60 ≤ 23 := hHT25.c _ _
  have w1445 : Xi T28 904 69 = Xi T25 904 69 := (show Xi T28 904 69 = Xi U27 904 69 from w1428.x _ _ rfl).trans ( (show Xi U27 904 69 = Xi T26 904 69 from by rw [eU27]; exact Xi_ne (by omega)).trans ((show Xi T26 904 69 = Xi T25 904 69 from w1387.x _ _ rfl)))
  have w1446 : 0 ≤ Xi T25 904 69 ∧ Xi T25 904 69 ≤ 2600 := hHT25.c _ _
  have w1447 : Xi T28 904 70 = Xi T25 904 70 := (show Xi T28 904 70 = Xi U27 904 70 from w1428.x _ _ rfl).trans ( (show Xi U27 904 70 = Xi T26 904 70 from by rw [eU27]; exact Xi_ne (by omega)).trans ((show Xi T26 904 70 = Xi T25 904 70 from w1387.x _ _ rfl)))
  have w1448 : 0 ≤ Xi T25 904 70 ∧ Xi T25 904 70 ≤ 20 := hHT25.c _ _
  have w1449 : Xi T28 904 71 = Xi T25 904 71 := (show Xi T28 904 71 = Xi U27 904 71 from w1428.x _ _ rfl).trans ( (show Xi U27 904 71 = Xi T26 904 71 from by rw [eU27]; exact Xi_ne (by omega)).trans ((show Xi T26 904 71 = Xi T25 904 71 from w1387.x _ _ rfl)))
  have w1450 : 0 ≤ Xi T25 904 71 ∧ Xi T25 904 71 ≤ 2600 := hHT25.c _ _
  have w1451 : Xi T28 904 72 = Xi T25 904 72 := (show Xi T28 904 72 = Xi U27 904 72 from w1428.x _ _ rfl).trans ( (show Xi U27 904 72 = Xi T26 904 72 from by rw [eU27]; exact Xi_ne (by omega)).trans ((show Xi T26 904 72 = Xi T25 904 72 from w1387.x _ _ rfl)))
  have w1452 : 0 ≤ Xi T25 904 72 ∧ Xi T25 904 72 ≤ 2600 := hHT25.c _ _
  have w1453 : Xi T28 904 73 = Xi T25 904 73 := (show Xi T28 904 73 = Xi U27 904 73 from w1428.x _ _ rfl).trans ( (show Xi U27 904 73 = Xi T26 904 73 from by rw [eU27]; exact Xi_ne (by omega)).trans ((show Xi T26 904 73 = Xi T25 904 73 from w1387.x _ _ rfl)))
  have w1454 : 0 ≤ Xi T25 904 73 ∧ Xi T25 904 73 ≤ 5 := hHT25.c _ _
  have w1455 : Xi T28 904 74 = Xi T25 904 74 := (show Xi T28 904 74 = Xi U27 904 74 from w1428.x _ _ rfl).trans ( (show Xi U27 904 74 = Xi T26 904 74 from by rw [eU27]; exact Xi_ne (by omega)).trans ((show Xi T26 904 74 = Xi T25 904 74 from w1387.x _ _ rfl)))
  have w1456 : 0 ≤ Xi T25 904 74 ∧ Xi T25 904 74 ≤ 2600 := hHT25.c _ _
  have w1457 : Xi T28 904 78 = Xi T25 904 78 := (show Xi T28 904 78 = Xi U27 904 78 from w1428.x _ _ rfl).trans ( (show Xi U27 904 78 = Xi T26 904 78 from by rw [eU27]; exact Xi_ne (by omega)).trans ((show Xi T26 904 78 = Xi T25 904 78 from w1387.x _ _ rfl)))
  have w1458 : -2 ≤ Xi T25 904 78 ∧ Xi T25 904 78 ≤ 5010 := hHT25.c _ _
  have w1459 : Xi T28 904 81 = Xi T25 904 81 := (show Xi T28 904 81 = Xi U27 904 81 from w1428.x _ _ rfl).trans ( (show Xi U27 904 81 = Xi T26 904 81 from by rw [eU27]; exact Xi_ne (by omega)).trans ((show Xi T26 904 81 = Xi T25 904 81 from w1387.x _ _ rfl)))
  have w1460 : 0 ≤ Xi T25 904 81 ∧ Xi T25 904 81 ≤ 5010 := hHT25.c _ _
  have w1461 : Xi T28 904 94 = Xi T25 904 94 := (show Xi T28 904 94 = Xi U27 904 94 from w1428.x _ _ rfl).trans ( (show Xi U27 904 94 = Xi T26 904 94 from by rw [eU27]; exact Xi_ne (by omega)).trans ((show Xi T26 904 94 = Xi T25 904 94 from w1387.x _ _ rfl)))
  have w1462 : 0 ≤ Xi T25 904 94 ∧ Xi T25 904 94 ≤ 1700 := hHT25.c _ _
  have w1463 : Xi T28 904 98 = Xi T25 904 98 := (show Xi T28 904 98 = Xi U27 904 98 from w1428.x _ _ rfl).trans ( (show Xi U27 904 98 = Xi T26 904 98 from by rw [eU27]; exact Xi_ne (by omega)).trans ((show Xi T26 904 98 = Xi T25 904 98 from w1387.x _ _ rfl)))
  have w1464 : 0 ≤ Xi T25 904 98 ∧ Xi T25 904 98 ≤ 1700 := hHT25.c _ _
  refine l_callV rfl rfl rfl (t_mo_oneReading__2 hHT28 (Xi U27 950 (((Xi T25 904 78)).toNat)) ⟨by omega, by omega⟩ _) ?_
  rintro _ T29 ⟨hHT29, w1467, rfl, w1465, n292_⟩
  have hFT29 : FR md_mo_asked S T29 := FR.tr hFT28 w1467 rfl
  show Rl _ _ _ _ _ [] _ _
  have n292 : Xi T29 904 106 = 0 → Xi T29 904 109 ≠ 0 := fun q => by have t := n292_ q; rw [(by assumption : FR md_mo_oneReading T28 T29).x 904 109 rfl]; exact t
  clear n292_
  refine l_aload_n rfl rfl ?_
  have w1468 : 0 ≤ Xi T29 904 106 ∧ Xi T29 904 106 ≤ 9 := hHT29.c _ _
  have w1469 : Xi T29 904 108 = Xi T26 904 108 := (show Xi T29 904 108 = Xi T28 904 108 from w1467.x _ _ rfl).trans ( (show Xi T28 904 108 = Xi U27 904 108 from w1428.x _ _ rfl).trans ((show Xi U27 904 108 = Xi T26 904 108 from by rw [eU27]; exact Xi_ne (by omega))))
  have w1470 : 0 ≤ Xi T26 904 108 ∧ Xi T26 904 108 ≤ 2600 := hHT26.c _ _
  have w1471 : Xi T29 904 109 = Xi T28 904 109 := (show Xi T29 904 109 = Xi T28 904 109 from w1467.x _ _ rfl)
  have w1472 : Xi T29 904 115 = Xi T25 904 115 := (show Xi T29 904 115 = Xi T28 904 115 from w1467.x _ _ rfl).trans ( (show Xi T28 904 115 = Xi U27 904 115 from w1428.x _ _ rfl).trans ( (show Xi U27 904 115 = Xi T26 904 115 from by rw [eU27]; exact Xi_ne (by omega)).trans ((show Xi T26 904 115 = Xi T25 904 115 from w1387.x _ _ rfl))))
  have w1473 : -1 ≤ Xi T25 904 115 ∧ Xi T25 904 115 ≤ 15 := hHT25.c _ _
  have w1474 : Xi T29 904 116 = Xi T25 904 116 := (show Xi T29 904 116 = Xi T28 904 116 from w1467.x _ _ rfl).trans ( (show Xi T28 904 116 = Xi U27 904 116 from w1428.x _ _ rfl).trans ( (show Xi U27 904 116 = Xi T26 904 116 from by rw [eU27]; exact Xi_ne (by omega)).trans ((show Xi T26 904 116 = Xi T25 904 116 from w1387.x _ _ rfl))))
  have w1475 : -1 ≤ Xi T25 904 116 ∧ Xi T25 904 116 ≤ 15 := hHT25.c _ _
  have w1476 : Xi T29 904 117 = Xi T25 904 117 := (show Xi T29 904 117 = Xi T28 904 117 from w1467.x _ _ rfl).trans ( (show Xi T28 904 117 = Xi U27 904 117 from w1428.x _ _ rfl).trans ( (show Xi U27 904 117 = Xi T26 904 117 from by rw [eU27]; exact Xi_ne (by omega)).trans ((show Xi T26 904 117 = Xi T25 904 117 from w1387.x _ _ rfl))))
  have w1477 : 0 ≤ Xi T25 904 117 ∧ Xi T25 904 117 ≤ 480 := hHT25.c _ _
  have w1478 : Xi T29 904 142 = Xi T25 904 142 := (show Xi T29 904 142 = Xi T28 904 142 from w1467.x _ _ rfl).trans ( (show Xi T28 904 142 = Xi U27 904 142 from w1428.x _ _ rfl).trans ( (show Xi U27 904 142 = Xi T26 904 142 from by rw [eU27]; exact Xi_ne (by omega)).trans ((show Xi T26 904 142 = Xi T25 904 142 from w1387.x _ _ rfl))))
  have w1479 : 0 ≤ Xi T25 904 142 ∧ Xi T25 904 142 ≤ 4 := hHT25.c _ _
  have w1480 : Xi T29 904 60 = Xi T25 904 60 := (show Xi T29 904 60 = Xi T28 904 60 from w1467.x _ _ rfl).trans ( (show Xi T28 904 60 = Xi U27 904 60 from w1428.x _ _ rfl).trans ( (show Xi U27 904 60 = Xi T26 904 60 from by rw [eU27]; exact Xi_ne (by omega)).trans ((show Xi T26 904 60 = Xi T25 904 60 from w1387.x _ _ rfl))))
  have w1481 : -1 ≤ Xi T25 904 60 ∧ Xi T25 904 60 ≤ 23 := hHT25.c _ _
  have w1482 : Xi T29 904 69 = Xi T25 904 69 := (show Xi T29 904 69 = Xi T28 904 69 from w1467.x _ _ rfl).trans ( (show Xi T28 904 69 = Xi U27 904 69 from w1428.x _ _ rfl).trans ( (show Xi U27 904 69 = Xi T26 904 69 from by rw [eU27]; exact Xi_ne (by omega)).trans ((show Xi T26 904 69 = Xi T25 904 69 from w1387.x _ _ rfl))))
  have w1483 : 0 ≤ Xi T25 904 69 ∧ Xi T25 904 69 ≤ 2600 := hHT25.c _ _
  have w1484 : Xi T29 904 70 = Xi T25 904 70 := (show Xi T29 904 70 = Xi T28 904 70 from w1467.x _ _ rfl).trans ( (show Xi T28 904 70 = Xi U27 904 70 from w1428.x _ _ rfl).trans ( (show Xi U27 904 70 = Xi T26 904 70 from by rw [eU27]; exact Xi_ne (by omega)).trans ((show Xi T26 904 70 = Xi T25 904 70 from w1387.x _ _ rfl))))
  have w1485 : 0 ≤ Xi T25 904 70 ∧ Xi T25 904 70 ≤ 20 := hHT25.c _ _
  have w1486 : Xi T29 904 71 = Xi T25 904 71 := (show Xi T29 904 71 = Xi T28 904 71 from w1467.x _ _ rfl).trans ( (show Xi T28 904 71 = Xi U27 904 71 from w1428.x _ _ rfl).trans ( (show Xi U27 904 71 = Xi T26 904 71 from by rw [eU27]; exact Xi_ne (by omega)).trans ((show Xi T26 904 71 = Xi T25 904 71 from w1387.x _ _ rfl))))
  have w1487 : 0 ≤ Xi T25 904 71 ∧ Xi T25 904 71 ≤ 2600 := hHT25.c _ _
  have w1488 : Xi T29 904 72 = Xi T25 904 72 := (show Xi T29 904 72 = Xi T28 904 72 from w1467.x _ _ rfl).trans ( (show Xi T28 904 72 = Xi U27 904 72 from w1428.x _ _ rfl).trans ( (show Xi U27 904 72 = Xi T26 904 72 from by rw [eU27]; exact Xi_ne (by omega)).trans ((show Xi T26 904 72 = Xi T25 904 72 from w1387.x _ _ rfl))))
  have w1489 : 0 ≤ Xi T25 904 72 ∧ Xi T25 904 72 ≤ 2600 := hHT25.c _ _
  have w1490 : Xi T29 904 73 = Xi T25 904 73 := (show Xi T29 904 73 = Xi T28 904 73 from w1467.x _ _ rfl).trans ( (show Xi T28 904 73 = Xi U27 904 73 from w1428.x _ _ rfl).trans ( (show Xi U27 904 73 = Xi T26 904 73 from by rw [eU27]; exact Xi_ne (by omega)).trans ((show Xi T26 904 73 = Xi T25 904 73 from w1387.x _ _ rfl))))
  have w1491 : 0 ≤ Xi T25 904 73 ∧ Xi T25 904 73 ≤ 5 := hHT25.c _ _
  have w1492 : Xi T29 904 74 = Xi T25 904 74 := (show Xi T29 904 74 = Xi T28 904 74 from w1467.x _ _ rfl).trans ( (show Xi T28 904 74 = Xi U27 904 74 from w1428.x _ _ rfl).trans ( (show Xi U27 904 74 = Xi T26 904 74 from by rw [eU27]; exact Xi_ne (by omega)).trans ((show Xi T26 904 74 = Xi T25 904 74 from w1387.x _ _ rfl))))
  have w1493 : 0 ≤ Xi T25 904 74 ∧ Xi T25 904 74 ≤ 2600 := hHT25.c _ _
  have w1494 : Xi T29 904 78 = Xi T25 904 78 := (show Xi T29 904 78 = Xi T28 904 78 from w1467.x _ _ rfl).trans ( (show Xi T28 904 78 = Xi U27 904 78 from w1428.x _ _ rfl).trans ( (show Xi U27 904 78 = Xi T26 904 78 from by rw [eU27]; exact Xi_ne (by omega)).trans ((show Xi T26 904 78 = Xi T25 904 78 from w1387.x _ _ rfl))))
  have w1495 : -2 ≤ Xi T25 904 78 ∧ Xi T25 904 78 ≤ 5010 := hHT25.c _ _
  have w1496 : Xi T29 904 81 = Xi T25 904 81 := (show Xi T29 904 81 = Xi T28 904 81 from w1467.x _ _ rfl).trans ( (show Xi T28 904 81 = Xi U27 904 81 from w1428.x _ _ rfl).trans ( (show Xi U27 904 81 = Xi T26 904 81 from by rw [eU27]; exact Xi_ne (by omega)).trans ((show Xi T26 904 81 = Xi T25 904 81 from w1387.x _ _ rfl))))
  have w1497 : 0 ≤ Xi T25 904 81 ∧ Xi T25 904 81 ≤ 5010 := hHT25.c _ _
  have w1498 : Xi T29 904 94 = Xi T25 904 94 := (show Xi T29 904 94 = Xi T28 904 94 from w1467.x _ _ rfl).trans ( (show Xi T28 904 94 = Xi U27 904 94 from w1428.x _ _ rfl).trans ( (show Xi U27 904 94 = Xi T26 904 94 from by rw [eU27]; exact Xi_ne (by omega)).trans ((show Xi T26 904 94 = Xi T25 904 94 from w1387.x _ _ rfl))))
  have w1499 : 0 ≤ Xi T25 904 94 ∧ Xi T25 904 94 ≤ 1700 := hHT25.c _ _
  have w1500 : Xi T29 904 98 = Xi T25 904 98 := (show Xi T29 904 98 = Xi T28 904 98 from w1467.x _ _ rfl).trans ( (show Xi T28 904 98 = Xi U27 904 98 from w1428.x _ _ rfl).trans ( (show Xi U27 904 98 = Xi T26 904 98 from by rw [eU27]; exact Xi_ne (by omega)).trans ((show Xi T26 904 98 = Xi T25 904 98 from w1387.x _ _ rfl))))
  have w1501 : 0 ≤ Xi T25 904 98 ∧ Xi T25 904 98 ≤ 1700 := hHT25.c _ _
  refine l_callV rfl rfl rfl (t_mo_askPlace hHT29 n (by first | assumption | exact (TK_FR hFT29 rfl (by assumption : TK S _))) (by first | assumption | exact (RNV_FR hFT29 rfl (by assumption : RNV S _))) (by first | assumption | exact (LXM_FR hFT29 rfl (by assumption : LXM S))) (by first | assumption | exact (ABV_FR hFT29 rfl (by assumption : ABV S))) (by first | assumption | omega) _) ?_
  rintro _ T30 ⟨hHT30, w1504, rfl, w1502, f296⟩
  have hFT30 : FR md_mo_asked S T30 := FR.tr hFT29 w1504 rfl
  show Rl _ _ _ _ _ [] _ _
  have y296_109 : Xi T30 904 109 = Xi T29 904 109 := (by assumption : FR md_mo_askPlace T29 T30).x 904 109 rfl
  have y296_69 : Xi T30 904 69 = Xi T25 904 69 := ((show Xi T30 904 69 = Xi T29 904 69 from w1504.x _ _ rfl).trans ((show Xi T29 904 69 = Xi T28 904 69 from w1467.x _ _ rfl).trans ((show Xi T28 904 69 = Xi U27 904 69 from w1428.x _ _ rfl).trans ((show Xi U27 904 69 = Xi T26 904 69 from by rw [eU27]; exact Xi_ne (by omega)).trans ((show Xi T26 904 69 = Xi T25 904 69 from w1387.x _ _ rfl))))))
  have y296_70 : Xi T30 904 70 = Xi T25 904 70 := ((show Xi T30 904 70 = Xi T29 904 70 from w1504.x _ _ rfl).trans ((show Xi T29 904 70 = Xi T28 904 70 from w1467.x _ _ rfl).trans ((show Xi T28 904 70 = Xi U27 904 70 from w1428.x _ _ rfl).trans ((show Xi U27 904 70 = Xi T26 904 70 from by rw [eU27]; exact Xi_ne (by omega)).trans ((show Xi T26 904 70 = Xi T25 904 70 from w1387.x _ _ rfl))))))
  have y296_71 : Xi T30 904 71 = Xi T25 904 71 := ((show Xi T30 904 71 = Xi T29 904 71 from w1504.x _ _ rfl).trans ((show Xi T29 904 71 = Xi T28 904 71 from w1467.x _ _ rfl).trans ((show Xi T28 904 71 = Xi U27 904 71 from w1428.x _ _ rfl).trans ((show Xi U27 904 71 = Xi T26 904 71 from by rw [eU27]; exact Xi_ne (by omega)).trans ((show Xi T26 904 71 = Xi T25 904 71 from w1387.x _ _ rfl))))))
  have y296_72 : Xi T30 904 72 = Xi T25 904 72 := ((show Xi T30 904 72 = Xi T29 904 72 from w1504.x _ _ rfl).trans ((show Xi T29 904 72 = Xi T28 904 72 from w1467.x _ _ rfl).trans ((show Xi T28 904 72 = Xi U27 904 72 from w1428.x _ _ rfl).trans ((show Xi U27 904 72 = Xi T26 904 72 from by rw [eU27]; exact Xi_ne (by omega)).trans ((show Xi T26 904 72 = Xi T25 904 72 from w1387.x _ _ rfl))))))
  have y296_73 : Xi T30 904 73 = Xi T25 904 73 := ((show Xi T30 904 73 = Xi T29 904 73 from w1504.x _ _ rfl).trans ((show Xi T29 904 73 = Xi T28 904 73 from w1467.x _ _ rfl).trans ((show Xi T28 904 73 = Xi U27 904 73 from w1428.x _ _ rfl).trans ((show Xi U27 904 73 = Xi T26 904 73 from by rw [eU27]; exact Xi_ne (by omega)).trans ((show Xi T26 904 73 = Xi T25 904 73 from w1387.x _ _ rfl))))))
  have y296_74 : Xi T30 904 74 = Xi T25 904 74 := ((show Xi T30 904 74 = Xi T29 904 74 from w1504.x _ _ rfl).trans ((show Xi T29 904 74 = Xi T28 904 74 from w1467.x _ _ rfl).trans ((show Xi T28 904 74 = Xi U27 904 74 from w1428.x _ _ rfl).trans ((show Xi U27 904 74 = Xi T26 904 74 from by rw [eU27]; exact Xi_ne (by omega)).trans ((show Xi T26 904 74 = Xi T25 904 74 from w1387.x _ _ rfl))))))
  have y296_78 : Xi T30 904 78 = Xi T25 904 78 := ((show Xi T30 904 78 = Xi T29 904 78 from w1504.x _ _ rfl).trans ((show Xi T29 904 78 = Xi T28 904 78 from w1467.x _ _ rfl).trans ((show Xi T28 904 78 = Xi U27 904 78 from w1428.x _ _ rfl).trans ((show Xi U27 904 78 = Xi T26 904 78 from by rw [eU27]; exact Xi_ne (by omega)).trans ((show Xi T26 904 78 = Xi T25 904 78 from w1387.x _ _ rfl))))))
  have y296_81 : Xi T30 904 81 = Xi T25 904 81 := ((show Xi T30 904 81 = Xi T29 904 81 from w1504.x _ _ rfl).trans ((show Xi T29 904 81 = Xi T28 904 81 from w1467.x _ _ rfl).trans ((show Xi T28 904 81 = Xi U27 904 81 from w1428.x _ _ rfl).trans ((show Xi U27 904 81 = Xi T26 904 81 from by rw [eU27]; exact Xi_ne (by omega)).trans ((show Xi T26 904 81 = Xi T25 904 81 from w1387.x _ _ rfl))))))
  have y296_94 : Xi T30 904 94 = Xi T25 904 94 := ((show Xi T30 904 94 = Xi T29 904 94 from w1504.x _ _ rfl).trans ((show Xi T29 904 94 = Xi T28 904 94 from w1467.x _ _ rfl).trans ((show Xi T28 904 94 = Xi U27 904 94 from w1428.x _ _ rfl).trans ((show Xi U27 904 94 = Xi T26 904 94 from by rw [eU27]; exact Xi_ne (by omega)).trans ((show Xi T26 904 94 = Xi T25 904 94 from w1387.x _ _ rfl))))))
  have y296_98 : Xi T30 904 98 = Xi T25 904 98 := ((show Xi T30 904 98 = Xi T29 904 98 from w1504.x _ _ rfl).trans ((show Xi T29 904 98 = Xi T28 904 98 from w1467.x _ _ rfl).trans ((show Xi T28 904 98 = Xi U27 904 98 from w1428.x _ _ rfl).trans ((show Xi U27 904 98 = Xi T26 904 98 from by rw [eU27]; exact Xi_ne (by omega)).trans ((show Xi T26 904 98 = Xi T25 904 98 from w1387.x _ _ rfl))))))
  have y296_60 : Xi T30 904 60 = Xi T25 904 60 := ((show Xi T30 904 60 = Xi T29 904 60 from w1504.x _ _ rfl).trans ((show Xi T29 904 60 = Xi T28 904 60 from w1467.x _ _ rfl).trans ((show Xi T28 904 60 = Xi U27 904 60 from w1428.x _ _ rfl).trans ((show Xi U27 904 60 = Xi T26 904 60 from by rw [eU27]; exact Xi_ne (by omega)).trans ((show Xi T26 904 60 = Xi T25 904 60 from w1387.x _ _ rfl))))))
  have y296_117 : Xi T30 904 117 = Xi T25 904 117 := ((show Xi T30 904 117 = Xi T29 904 117 from w1504.x _ _ rfl).trans ((show Xi T29 904 117 = Xi T28 904 117 from w1467.x _ _ rfl).trans ((show Xi T28 904 117 = Xi U27 904 117 from w1428.x _ _ rfl).trans ((show Xi U27 904 117 = Xi T26 904 117 from by rw [eU27]; exact Xi_ne (by omega)).trans ((show Xi T26 904 117 = Xi T25 904 117 from w1387.x _ _ rfl))))))
  have F296 : Xi T30 904 106 = 0 → DOK T30 := fun q => dok_12 (by omega) (by have t := (RDV_FR w1504 rfl (RDV_FR w1467 rfl (by assumption : RDV T28 _))) (by have t := n292 (by omega); omega); exact ⟨ona_fw hFT30 rfl (O249 (by omega)), ⟨t.1, fun i hi => (t.2 i hi).1⟩, fun y => by have u := f296 q (by omega); rw [rnR_FR hFT29 rfl rfl] at u; rw [rnR_FR hFT30 rfl rfl, show Xi T30 904 74 = Xi T29 904 74 by omega]; exact u⟩)
  refine l_goto rfl rfl ?_
  refine l_return rfl rfl ?_
  have w1505 : 0 ≤ Xi T30 904 106 ∧ Xi T30 904 106 ≤ 9 := hHT30.c _ _
  have w1506 : Xi T30 904 108 = Xi T26 904 108 := (show Xi T30 904 108 = Xi T29 904 108 from w1504.x _ _ rfl).trans ( (show Xi T29 904 108 = Xi T28 904 108 from w1467.x _ _ rfl).trans ( (show Xi T28 904 108 = Xi U27 904 108 from w1428.x _ _ rfl).trans ((show Xi U27 904 108 = Xi T26 904 108 from by rw [eU27]; exact Xi_ne (by omega)))))
  have w1507 : 0 ≤ Xi T26 904 108 ∧ Xi T26 904 108 ≤ 2600 := hHT26.c _ _
  have w1508 : Xi T30 904 109 = Xi T28 904 109 := (show Xi T30 904 109 = Xi T29 904 109 from w1504.x _ _ rfl).trans ((show Xi T29 904 109 = Xi T28 904 109 from w1467.x _ _ rfl))
  have w1509 : Xi T30 904 115 = Xi T25 904 115 := (show Xi T30 904 115 = Xi T29 904 115 from w1504.x _ _ rfl).trans ( (show Xi T29 904 115 = Xi T28 904 115 from w1467.x _ _ rfl).trans ( (show Xi T28 904 115 = Xi U27 904 115 from w1428.x _ _ rfl).trans ( (show Xi U27 904 115 = Xi T26 904 115 from by rw [eU27]; exact Xi_ne (by omega)).trans ((show Xi T26 904 115 = Xi T25 904 115 from w1387.x _ _ rfl)))))
  have w1510 : -1 ≤ Xi T25 904 115 ∧ Xi T25 904 115 ≤ 15 := hHT25.c _ _
  have w1511 : Xi T30 904 116 = Xi T25 904 116 := (show Xi T30 904 116 = Xi T29 904 116 from w1504.x _ _ rfl).trans ( (show Xi T29 904 116 = Xi T28 904 116 from w1467.x _ _ rfl).trans ( (show Xi T28 904 116 = Xi U27 904 116 from w1428.x _ _ rfl).trans ( (show Xi U27 904 116 = Xi T26 904 116 from by rw [eU27]; exact Xi_ne (by omega)).trans ((show Xi T26 904 116 = Xi T25 904 116 from w1387.x _ _ rfl)))))
  have w1512 : -1 ≤ Xi T25 904 116 ∧ Xi T25 904 116 ≤ 15 := hHT25.c _ _
  have w1513 : Xi T30 904 117 = Xi T25 904 117 := (show Xi T30 904 117 = Xi T29 904 117 from w1504.x _ _ rfl).trans ( (show Xi T29 904 117 = Xi T28 904 117 from w1467.x _ _ rfl).trans ( (show Xi T28 904 117 = Xi U27 904 117 from w1428.x _ _ rfl).trans ( (show Xi U27 904 117 = Xi T26 904 117 from by rw [eU27]; exact Xi_ne (by omega)).trans ((show Xi T26 904 117 = Xi T25 904 117 from w1387.x _ _ rfl)))))
  have w1514 : 0 ≤ Xi T25 904 117 ∧ Xi T25 904 117 ≤ 480 := hHT25.c _ _
  have w1515 : Xi T30 904 142 = Xi T25 904 142 := (show Xi T30 904 142 = Xi T29 904 142 from w1504.x _ _ rfl).trans ( (show Xi T29 904 142 = Xi T28 904 142 from w1467.x _ _ rfl).trans ( (show Xi T28 904 142 = Xi U27 904 142 from w1428.x _ _ rfl).trans ( (show Xi U27 904 142 = Xi T26 904 142 from by rw [eU27]; exact Xi_ne (by omega)).trans ((show Xi T26 904 142 = Xi T25 904 142 from w1387.x _ _ rfl)))))
  have w1516 : 0 ≤ Xi T25 904 142 ∧ Xi T25 904 142 ≤ 4 := hHT25.c _ _
  have w1517 : Xi T30 904 60 = Xi T25 904 60 := (show Xi T30 904 60 = Xi T29 904 60 from w1504.x _ _ rfl).trans ( (show Xi T29 904 60 = Xi T28 904 60 from w1467.x _ _ rfl).trans ( (show Xi T28 904 60 = Xi U27 904 60 from w1428.x _ _ rfl).trans ( (show Xi U27 904 60 = Xi T26 904 60 from by rw [eU27]; exact Xi_ne (by omega)).trans ((show Xi T26 904 60 = Xi T25 904 60 from w1387.x _ _ rfl)))))
  have w1518 : -1 ≤ Xi T25 904 60 ∧ Xi T25 904 60 ≤ 23 := hHT25.c _ _
  have w1519 : Xi T30 904 69 = Xi T25 904 69 := (show Xi T30 904 69 = Xi T29 904 69 from w1504.x _ _ rfl).trans ( (show Xi T29 904 69 = Xi T28 904 69 from w1467.x _ _ rfl).trans ( (show Xi T28 904 69 = Xi U27 904 69 from w1428.x _ _ rfl).trans ( (show Xi U27 904 69 = Xi T26 904 69 from by rw [eU27]; exact Xi_ne (by omega)).trans ((show Xi T26 904 69 = Xi T25 904 69 from w1387.x _ _ rfl)))))
  have w1520 : 0 ≤ Xi T25 904 69 ∧ Xi T25 904 69 ≤ 2600 := hHT25.c _ _
  have w1521 : Xi T30 904 70 = Xi T25 904 70 := (show Xi T30 904 70 = Xi T29 904 70 from w1504.x _ _ rfl).trans ( (show Xi T29 904 70 = Xi T28 904 70 from w1467.x _ _ rfl).trans ( (show Xi T28 904 70 = Xi U27 904 70 from w1428.x _ _ rfl).trans ( (show Xi U27 904 70 = Xi T26 904 70 from by rw [eU27]; exact Xi_ne (by omega)).trans ((show Xi T26 904 70 = Xi T25 904 70 from w1387.x _ _ rfl)))))
  have w1522 : 0 ≤ Xi T25 904 70 ∧ Xi T25 904 70 ≤ 20 := hHT25.c _ _
  have w1523 : Xi T30 904 71 = Xi T25 904 71 := (show Xi T30 904 71 = Xi T29 904 71 from w1504.x _ _ rfl).trans ( (show Xi T29 904 71 = Xi T28 904 71 from w1467.x _ _ rfl).trans ( (show Xi T28 904 71 = Xi U27 904 71 from w1428.x _ _ rfl).trans ( (show Xi U27 904 71 = Xi T26 904 71 from by rw [eU27]; exact Xi_ne (by omega)).trans ((show Xi T26 904 71 = Xi T25 904 71 from w1387.x _ _ rfl)))))
  have w1524 : 0 ≤ Xi T25 904 71 ∧ Xi T25 904 71 ≤ 2600 := hHT25.c _ _
  have w1525 : Xi T30 904 72 = Xi T25 904 72 := (show Xi T30 904 72 = Xi T29 904 72 from w1504.x _ _ rfl).trans ( (show Xi T29 904 72 = Xi T28 904 72 from w1467.x _ _ rfl).trans ( (show Xi T28 904 72 = Xi U27 904 72 from w1428.x _ _ rfl).trans ( (show Xi U27 904 72 = Xi T26 904 72 from by rw [eU27]; exact Xi_ne (by omega)).trans ((show Xi T26 904 72 = Xi T25 904 72 from w1387.x _ _ rfl)))))
  have w1526 : 0 ≤ Xi T25 904 72 ∧ Xi T25 904 72 ≤ 2600 := hHT25.c _ _
  have w1527 : Xi T30 904 73 = Xi T25 904 73 := (show Xi T30 904 73 = Xi T29 904 73 from w1504.x _ _ rfl).trans ( (show Xi T29 904 73 = Xi T28 904 73 from w1467.x _ _ rfl).trans ( (show Xi T28 904 73 = Xi U27 904 73 from w1428.x _ _ rfl).trans ( (show Xi U27 904 73 = Xi T26 904 73 from by rw [eU27]; exact Xi_ne (by omega)).trans ((show Xi T26 904 73 = Xi T25 904 73 from w1387.x _ _ rfl)))))
  have w1528 : 0 ≤ Xi T25 904 73 ∧ Xi T25 904 73 ≤ 5 := hHT25.c _ _
  have w1529 : Xi T30 904 74 = Xi T25 904 74 := (show Xi T30 904 74 = Xi T29 904 74 from w1504.x _ _ rfl).trans ( (show Xi T29 904 74 = Xi T28 904 74 from w1467.x _ _ rfl).trans ( (show Xi T28 904 74 = Xi U27 904 74 from w1428.x _ _ rfl).trans ( (show Xi U27 904 74 = Xi T26 904 74 from by rw [eU27]; exact Xi_ne (by omega)).trans ((show Xi T26 904 74 = Xi T25 904 74 from w1387.x _ _ rfl)))))
  have w1530 : 0 ≤ Xi T25 904 74 ∧ Xi T25 904 74 ≤ 2600 := hHT25.c _ _
  have w1531 : Xi T30 904 78 = Xi T25 904 78 := (show Xi T30 904 78 = Xi T29 904 78 from w1504.x _ _ rfl).trans ( (show Xi T29 904 78 = Xi T28 904 78 from w1467.x _ _ rfl).trans ( (show Xi T28 904 78 = Xi U27 904 78 from w1428.x _ _ rfl).trans ( (show Xi U27 904 78 = Xi T26 904 78 from by rw [eU27]; exact Xi_ne (by omega)).trans ((show Xi T26 904 78 = Xi T25 904 78 from w1387.x _ _ rfl)))))
  have w1532 : -2 ≤ Xi T25 904 78 ∧ Xi T25 904 78 ≤ 5010 := hHT25.c _ _
  have w1533 : Xi T30 904 81 = Xi T25 904 81 := (show Xi T30 904 81 = Xi T29 904 81 from w1504.x _ _ rfl).trans ( (show Xi T29 904 81 = Xi T28 904 81 from w1467.x _ _ rfl).trans ( (show Xi T28 904 81 = Xi U27 904 81 from w1428.x _ _ rfl).trans ( (show Xi U27 904 81 = Xi T26 904 81 from by rw [eU27]; exact Xi_ne (by omega)).trans ((show Xi T26 904 81 = Xi T25 904 81 from w1387.x _ _ rfl)))))
  have w1534 : 0 ≤ Xi T25 904 81 ∧ Xi T25 904 81 ≤ 5010 := hHT25.c _ _
  have w1535 : Xi T30 904 94 = Xi T25 904 94 := (show Xi T30 904 94 = Xi T29 904 94 from w1504.x _ _ rfl).trans ( (show Xi T29 904 94 = Xi T28 904 94 from w1467.x _ _ rfl).trans ( (show Xi T28 904 94 = Xi U27 904 94 from w1428.x _ _ rfl).trans ( (show Xi U27 904 94 = Xi T26 904 94 from by rw [eU27]; exact Xi_ne (by omega)).trans ((show Xi T26 904 94 = Xi T25 904 94 from w1387.x _ _ rfl)))))
  have w1536 : 0 ≤ Xi T25 904 94 ∧ Xi T25 904 94 ≤ 1700 := hHT25.c _ _
  have w1537 : Xi T30 904 98 = Xi T25 904 98 := (show Xi T30 904 98 = Xi T29 904 98 from w1504.x _ _ rfl).trans ( (show Xi T29 904 98 = Xi T28 904 98 from w1467.x _ _ rfl).trans ( (show Xi T28 904 98 = Xi U27 904 98 from w1428.x _ _ rfl).trans ( (show Xi U27 904 98 = Xi T26 904 98 from by rw [eU27]; exact Xi_ne (by omega)).trans ((show Xi T26 904 98 = Xi T25 904 98 from w1387.x _ _ rfl)))))
  have w1538 : 0 ≤ Xi T25 904 98 ∧ Xi T25 904 98 ≤ 1700 := hHT25.c _ _
  exact ⟨hHT30, hFT30, rfl, (by assumption), (by first | exact fun q => by assumption | assumption | exact fun q => (RDT_FR hHT29 w1504 rfl rfl rfl (RDT_FR hHT28 w1467 rfl rfl rfl (RDT_FR hHU27 w1428 rfl rfl rfl (RDT_FR hHT26 (FR_e eU27) rfl rfl rfl (RDT_FR hHT25 w1387 rfl rfl rfl (by assumption : RDT T25)))))))⟩
set_option maxRecDepth 100000 in
set_option maxHeartbeats 8000000 in
theorem c302_mo_asked {S : sS} (hH : HI S) (n : Nat) (dd : Nat) (first : Int) (hfirst : 0 ≤ first ∧ first ≤ 5001) (hT : TK S n) (hv : RNV S n) (hM : LXM S) (hB : ABV S) (hC : DCM S) (hK : TXK S n) (hX : TXM S) (hq : SNQ S n) (hap : AP9 S n) (h94 : Xi S 904 94 ≤ 1668) (hRD : RDT S) (hPF : PF S) (hdt : Xi S 904 70 = 20 → first ≤ dd ∧ dd < n ∧ Xi S 907 dd = 46) (d : Nat) : ∀  (T31 : sS) (_ : HI T31) (_ : FR md_mo_asked S T31), (Xi T31 904 117 = Xi S 904 117) → (Xi T31 904 69 = Xi S 904 69) → (Xi T31 904 70 = Xi S 904 70) → (Xi T31 904 71 = Xi S 904 71) → (Xi T31 904 72 = Xi S 904 72) → (Xi T31 904 73 = Xi S 904 73) → (Xi T31 904 74 = Xi S 904 74) → (Xi T31 904 78 = Xi S 904 78) → (Xi T31 904 81 = Xi S 904 81) → (Xi T31 904 94 = Xi S 904 94) → (Xi T31 904 98 = Xi S 904 98) → (Xi T31 904 60 = Xi S 904 60) → (Xi T31 904 106 = 0) → (Xi T31 904 108 = 0) → (Xi T31 904 115 = -1) → (Xi T31 904 116 = -1) → (SNQ T31 n) → (RDT T31) → (KQL T31 S (Xi S 904 117)) → (Xi S 904 70 = 13) → Rl lay0 (d + 12) m_mo_asked 302 [(0, .ref 904)] [] T31 (Q_mo_asked S n dd first) := by
  have hF : FR md_mo_asked S S := FR.rf
  have w1 : 0 ≤ Xi S 904 106 ∧ Xi S 904 106 ≤ 9 := hH.c _ _
  have w2 : 0 ≤ Xi S 904 108 ∧ Xi S 904 108 ≤ 2600 := hH.c _ _
  have w3 : -1 ≤ Xi S 904 115 ∧ Xi S 904 115 ≤ 15 := hH.c _ _
  have w4 : -1 ≤ Xi S 904 116 ∧ Xi S 904 116 ≤ 15 := hH.c _ _
  have w5 : 0 ≤ Xi S 904 117 ∧ Xi S 904 117 ≤ 480 := hH.c _ _
  have w6 : 0 ≤ Xi S 904 23 ∧ Xi S 904 23 ≤ 24 := hH.c _ _
  have w7 : 0 ≤ Xi S 904 41 ∧ Xi S 904 41 ≤ 6 := hH.c _ _
  have w8 : -1 ≤ Xi S 904 60 ∧ Xi S 904 60 ≤ 23 := hH.c _ _
  have w9 : 0 ≤ Xi S 904 69 ∧ Xi S 904 69 ≤ 2600 := hH.c _ _
  have w10 : 0 ≤ Xi S 904 70 ∧ Xi S 904 70 ≤ 20 := hH.c _ _
  have w11 : 0 ≤ Xi S 904 71 ∧ Xi S 904 71 ≤ 2600 := hH.c _ _
  have w12 : 0 ≤ Xi S 904 72 ∧ Xi S 904 72 ≤ 2600 := hH.c _ _
  have w13 : 0 ≤ Xi S 904 73 ∧ Xi S 904 73 ≤ 5 := hH.c _ _
  have w14 : 0 ≤ Xi S 904 74 ∧ Xi S 904 74 ≤ 2600 := hH.c _ _
  have w15 : -2 ≤ Xi S 904 78 ∧ Xi S 904 78 ≤ 5010 := hH.c _ _
  have w16 : 0 ≤ Xi S 904 81 ∧ Xi S 904 81 ≤ 5010 := hH.c _ _
  have w17 : 0 ≤ Xi S 904 94 ∧ Xi S 904 94 ≤ 1700 := hH.c _ _
  have w18 : 0 ≤ Xi S 904 98 ∧ Xi S 904 98 ≤ 1700 := hH.c _ _
  have w19 : 0 ≤ Xi S 951 0 ∧ Xi S 951 0 ≤ 5010 := hH.c _ _
  have w20 : 0 ≤ Xi S 951 1 ∧ Xi S 951 1 ≤ 5010 := hH.c _ _
  have hn5 := hT.1
  have hc69 : 0 ≤ Xi S 904 69 ∧ Xi S 904 69 ≤ 2600 := hH.c _ _
  have hc70 : 0 ≤ Xi S 904 70 ∧ Xi S 904 70 ≤ 20 := hH.c _ _
  have hc23 : 0 ≤ Xi S 904 23 ∧ Xi S 904 23 ≤ 24 := hH.c _ _
  have hrf : ∀ r : Int, 0 ≤ r → r < Xi S 904 69 → Xi S 950 r.toNat + Xi S 951 r.toNat ≤ n ∧ 1 ≤ Xi S 951 r.toNat := fun r a b => hv r.toNat (by omega)
  have hq0 : KQL S S (Xi S 904 117) := KQL.rf
  intro T31 hHT31 hFT31 w1539 w1540 w1541 w1542 w1543 w1544 w1545 w1546 w1547 w1548 w1549 w1550 w1551 w1552 w1553 w1554 q20 r20 K20 w1555
  have w1556 : Xi T31 904 102 = Xi S 904 102 := hFT31.x _ _ rfl
  have w1557 : Xi T31 904 103 = Xi S 904 103 := hFT31.x _ _ rfl
  have w1558 : Xi T31 904 16 = Xi S 904 16 := hFT31.x _ _ rfl
  have w1559 : Xi T31 904 18 = Xi S 904 18 := hFT31.x _ _ rfl
  have w1560 : Xi T31 904 19 = Xi S 904 19 := hFT31.x _ _ rfl
  have w1561 : Xi T31 904 23 = Xi S 904 23 := hFT31.x _ _ rfl
  have w1562 : Xi T31 904 30 = Xi S 904 30 := hFT31.x _ _ rfl
  have w1563 : Xi T31 904 41 = Xi S 904 41 := hFT31.x _ _ rfl
  have w1564 : Xi T31 904 47 = Xi S 904 47 := hFT31.x _ _ rfl
  have w1565 : Xi T31 904 49 = Xi S 904 49 := hFT31.x _ _ rfl
  have w1566 : Xi T31 904 55 = Xi S 904 55 := hFT31.x _ _ rfl
  have w1567 : Xi T31 904 60 = Xi S 904 60 := hFT31.x _ _ rfl
  have w1568 : Xi T31 904 69 = Xi S 904 69 := hFT31.x _ _ rfl
  have w1569 : Xi T31 904 70 = Xi S 904 70 := hFT31.x _ _ rfl
  have w1570 : Xi T31 904 71 = Xi S 904 71 := hFT31.x _ _ rfl
  have w1571 : Xi T31 904 72 = Xi S 904 72 := hFT31.x _ _ rfl
  have w1572 : Xi T31 904 73 = Xi S 904 73 := hFT31.x _ _ rfl
  have w1573 : Xi T31 904 74 = Xi S 904 74 := hFT31.x _ _ rfl
  have w1574 : Xi T31 904 78 = Xi S 904 78 := hFT31.x _ _ rfl
  have w1575 : Xi T31 904 81 = Xi S 904 81 := hFT31.x _ _ rfl
  have w1576 : Xi T31 904 94 = Xi S 904 94 := hFT31.x _ _ rfl
  have w1577 : Xi T31 904 98 = Xi S 904 98 := hFT31.x _ _ rfl
  have w1578 : Xi T31 951 0 = Xi S 951 0 := hFT31.x _ _ rfl
  have w1579 : Xi T31 951 1 = Xi S 951 1 := hFT31.x _ _ rfl
  have w1580 : 0 ≤ Xi T31 904 106 ∧ Xi T31 904 106 ≤ 9 := hHT31.c _ _
  have w1581 : 0 ≤ Xi T31 904 108 ∧ Xi T31 904 108 ≤ 2600 := hHT31.c _ _
  have w1582 : -1 ≤ Xi T31 904 115 ∧ Xi T31 904 115 ≤ 15 := hHT31.c _ _
  have w1583 : -1 ≤ Xi T31 904 116 ∧ Xi T31 904 116 ≤ 15 := hHT31.c _ _
  have w1584 : 0 ≤ Xi T31 904 117 ∧ Xi T31 904 117 ≤ 480 := hHT31.c _ _
  have w1585 : -1 ≤ Xi T31 904 60 ∧ Xi T31 904 60 ≤ 23 := hHT31.c _ _
  have w1586 : 0 ≤ Xi T31 904 69 ∧ Xi T31 904 69 ≤ 2600 := hHT31.c _ _
  have w1587 : 0 ≤ Xi T31 904 70 ∧ Xi T31 904 70 ≤ 20 := hHT31.c _ _
  have w1588 : 0 ≤ Xi T31 904 71 ∧ Xi T31 904 71 ≤ 2600 := hHT31.c _ _
  have w1589 : 0 ≤ Xi T31 904 72 ∧ Xi T31 904 72 ≤ 2600 := hHT31.c _ _
  have w1590 : 0 ≤ Xi T31 904 73 ∧ Xi T31 904 73 ≤ 5 := hHT31.c _ _
  have w1591 : 0 ≤ Xi T31 904 74 ∧ Xi T31 904 74 ≤ 2600 := hHT31.c _ _
  have w1592 : -2 ≤ Xi T31 904 78 ∧ Xi T31 904 78 ≤ 5010 := hHT31.c _ _
  have w1593 : 0 ≤ Xi T31 904 81 ∧ Xi T31 904 81 ≤ 5010 := hHT31.c _ _
  have w1594 : 0 ≤ Xi T31 904 94 ∧ Xi T31 904 94 ≤ 1700 := hHT31.c _ _
  have w1595 : 0 ≤ Xi T31 904 98 ∧ Xi T31 904 98 ≤ 1700 := hHT31.c _ _
  refine l_aload_n rfl rfl ?_
  have s302 := q20.2.2.2.2.2.1 (by omega)
  have z302 : Xi T31 904 74 < Xi T31 904 69 := q20.2.2.2.2.2.2.2.2.1 (by omega)
  have w1596 : 0 ≤ Xi T31 904 106 ∧ Xi T31 904 106 ≤ 9 := hHT31.c _ _
  have w1597 : 0 ≤ Xi T31 904 108 ∧ Xi T31 904 108 ≤ 2600 := hHT31.c _ _
  have w1598 : -1 ≤ Xi T31 904 115 ∧ Xi T31 904 115 ≤ 15 := hHT31.c _ _
  have w1599 : -1 ≤ Xi T31 904 116 ∧ Xi T31 904 116 ≤ 15 := hHT31.c _ _
  have w1600 : 0 ≤ Xi T31 904 117 ∧ Xi T31 904 117 ≤ 480 := hHT31.c _ _
  have w1601 : 0 ≤ Xi T31 904 142 ∧ Xi T31 904 142 ≤ 4 := hHT31.c _ _
  have w1602 : -1 ≤ Xi T31 904 60 ∧ Xi T31 904 60 ≤ 23 := hHT31.c _ _
  have w1603 : 0 ≤ Xi T31 904 69 ∧ Xi T31 904 69 ≤ 2600 := hHT31.c _ _
  have w1604 : 0 ≤ Xi T31 904 70 ∧ Xi T31 904 70 ≤ 20 := hHT31.c _ _
  have w1605 : 0 ≤ Xi T31 904 71 ∧ Xi T31 904 71 ≤ 2600 := hHT31.c _ _
  have w1606 : 0 ≤ Xi T31 904 72 ∧ Xi T31 904 72 ≤ 2600 := hHT31.c _ _
  have w1607 : 0 ≤ Xi T31 904 73 ∧ Xi T31 904 73 ≤ 5 := hHT31.c _ _
  have w1608 : 0 ≤ Xi T31 904 74 ∧ Xi T31 904 74 ≤ 2600 := hHT31.c _ _
  have w1609 : -2 ≤ Xi T31 904 78 ∧ Xi T31 904 78 ≤ 5010 := hHT31.c _ _
  have w1610 : 0 ≤ Xi T31 904 81 ∧ Xi T31 904 81 ≤ 5010 := hHT31.c _ _
  have w1611 : 0 ≤ Xi T31 904 94 ∧ Xi T31 904 94 ≤ 1700 := hHT31.c _ _
  have w1612 : 0 ≤ Xi T31 904 98 ∧ Xi T31 904 98 ≤ 1700 := hHT31.c _ _
  refine l_callV rfl rfl rfl (t_mo_objectsOrNew hHT31 n (by first | assumption | exact (TK_FR hFT31 rfl (by assumption : TK S _))) (by first | assumption | exact (RNV_FR hFT31 rfl (by assumption : RNV S _))) (by first | assumption | exact (LXM_FR hFT31 rfl (by assumption : LXM S))) (by first | assumption | exact fun k hk => absurd hk (by omega) | exact (by assumption : NWV T31)) (by first | assumption | omega) (by first | assumption | omega) _) ?_
  rintro _ T32 ⟨hHT32, w1617, rfl, w1613, f303, w1614, w1615⟩
  have hFT32 : FR md_mo_asked S T32 := FR.tr hFT31 w1617 rfl
  show Rl _ _ _ _ _ [] _ _
  have O303 : Xi T32 904 106 = 0 → ONA S := fun q => ona_bk hFT31 rfl (f303 q)
  clear f303
  refine l_aload_n rfl rfl ?_
  have w1618 : 0 ≤ Xi T32 904 106 ∧ Xi T32 904 106 ≤ 9 := hHT32.c _ _
  have w1619 : 0 ≤ Xi T32 904 108 ∧ Xi T32 904 108 ≤ 2600 := hHT32.c _ _
  have w1620 : Xi T32 904 109 = Xi T31 904 109 := (show Xi T32 904 109 = Xi T31 904 109 from w1617.x _ _ rfl)
  have w1621 : Xi T32 904 115 = Xi T31 904 115 := (show Xi T32 904 115 = Xi T31 904 115 from w1617.x _ _ rfl)
  have w1622 : -1 ≤ Xi T31 904 115 ∧ Xi T31 904 115 ≤ 15 := hHT31.c _ _
  have w1623 : Xi T32 904 116 = Xi T31 904 116 := (show Xi T32 904 116 = Xi T31 904 116 from w1617.x _ _ rfl)
  have w1624 : -1 ≤ Xi T31 904 116 ∧ Xi T31 904 116 ≤ 15 := hHT31.c _ _
  have w1625 : Xi T32 904 117 = Xi T31 904 117 := (show Xi T32 904 117 = Xi T31 904 117 from w1617.x _ _ rfl)
  have w1626 : 0 ≤ Xi T31 904 117 ∧ Xi T31 904 117 ≤ 480 := hHT31.c _ _
  have w1627 : Xi T32 904 142 = Xi T31 904 142 := (show Xi T32 904 142 = Xi T31 904 142 from w1617.x _ _ rfl)
  have w1628 : 0 ≤ Xi T31 904 142 ∧ Xi T31 904 142 ≤ 4 := hHT31.c _ _
  have w1629 : Xi T32 904 60 = Xi T31 904 60 := (show Xi T32 904 60 = Xi T31 904 60 from w1617.x _ _ rfl)
  have w1630 : -1 ≤ Xi T31 904 60 ∧ Xi T31 904 60 ≤ 23 := hHT31.c _ _
  have w1631 : Xi T32 904 69 = Xi T31 904 69 := (show Xi T32 904 69 = Xi T31 904 69 from w1617.x _ _ rfl)
  have w1632 : 0 ≤ Xi T31 904 69 ∧ Xi T31 904 69 ≤ 2600 := hHT31.c _ _
  have w1633 : Xi T32 904 70 = Xi T31 904 70 := (show Xi T32 904 70 = Xi T31 904 70 from w1617.x _ _ rfl)
  have w1634 : 0 ≤ Xi T31 904 70 ∧ Xi T31 904 70 ≤ 20 := hHT31.c _ _
  have w1635 : Xi T32 904 71 = Xi T31 904 71 := (show Xi T32 904 71 = Xi T31 904 71 from w1617.x _ _ rfl)
  have w1636 : 0 ≤ Xi T31 904 71 ∧ Xi T31 904 71 ≤ 2600 := hHT31.c _ _
  have w1637 : Xi T32 904 72 = Xi T31 904 72 := (show Xi T32 904 72 = Xi T31 904 72 from w1617.x _ _ rfl)
  have w1638 : 0 ≤ Xi T31 904 72 ∧ Xi T31 904 72 ≤ 2600 := hHT31.c _ _
  have w1639 : Xi T32 904 73 = Xi T31 904 73 := (show Xi T32 904 73 = Xi T31 904 73 from w1617.x _ _ rfl)
  have w1640 : 0 ≤ Xi T31 904 73 ∧ Xi T31 904 73 ≤ 5 := hHT31.c _ _
  have w1641 : Xi T32 904 74 = Xi T31 904 74 := (show Xi T32 904 74 = Xi T31 904 74 from w1617.x _ _ rfl)
  have w1642 : 0 ≤ Xi T31 904 74 ∧ Xi T31 904 74 ≤ 2600 := hHT31.c _ _
  have w1643 : Xi T32 904 78 = Xi T31 904 78 := (show Xi T32 904 78 = Xi T31 904 78 from w1617.x _ _ rfl)
  have w1644 : -2 ≤ Xi T31 904 78 ∧ Xi T31 904 78 ≤ 5010 := hHT31.c _ _
  have w1645 : Xi T32 904 81 = Xi T31 904 81 := (show Xi T32 904 81 = Xi T31 904 81 from w1617.x _ _ rfl)
  have w1646 : 0 ≤ Xi T31 904 81 ∧ Xi T31 904 81 ≤ 5010 := hHT31.c _ _
  have w1647 : Xi T32 904 94 = Xi T31 904 94 := (show Xi T32 904 94 = Xi T31 904 94 from w1617.x _ _ rfl)
  have w1648 : 0 ≤ Xi T31 904 94 ∧ Xi T31 904 94 ≤ 1700 := hHT31.c _ _
  have w1649 : Xi T32 904 98 = Xi T31 904 98 := (show Xi T32 904 98 = Xi T31 904 98 from w1617.x _ _ rfl)
  have w1650 : 0 ≤ Xi T31 904 98 ∧ Xi T31 904 98 ≤ 1700 := hHT31.c _ _
  refine l_callV rfl rfl rfl (t_mo_askPlace hHT32 n (by first | assumption | exact (TK_FR hFT32 rfl (by assumption : TK S _))) (by first | assumption | exact (RNV_FR hFT32 rfl (by assumption : RNV S _))) (by first | assumption | exact (LXM_FR hFT32 rfl (by assumption : LXM S))) (by first | assumption | exact (ABV_FR hFT32 rfl (by assumption : ABV S))) (by first | assumption | omega) _) ?_
  rintro _ T33 ⟨hHT33, w1653, rfl, w1651, f307⟩
  have hFT33 : FR md_mo_asked S T33 := FR.tr hFT32 w1653 rfl
  show Rl _ _ _ _ _ [] _ _
  have y307_69 : Xi T33 904 69 = Xi T31 904 69 := ((show Xi T33 904 69 = Xi T32 904 69 from w1653.x _ _ rfl).trans ((show Xi T32 904 69 = Xi T31 904 69 from w1617.x _ _ rfl)))
  have y307_70 : Xi T33 904 70 = Xi T31 904 70 := ((show Xi T33 904 70 = Xi T32 904 70 from w1653.x _ _ rfl).trans ((show Xi T32 904 70 = Xi T31 904 70 from w1617.x _ _ rfl)))
  have y307_71 : Xi T33 904 71 = Xi T31 904 71 := ((show Xi T33 904 71 = Xi T32 904 71 from w1653.x _ _ rfl).trans ((show Xi T32 904 71 = Xi T31 904 71 from w1617.x _ _ rfl)))
  have y307_72 : Xi T33 904 72 = Xi T31 904 72 := ((show Xi T33 904 72 = Xi T32 904 72 from w1653.x _ _ rfl).trans ((show Xi T32 904 72 = Xi T31 904 72 from w1617.x _ _ rfl)))
  have y307_73 : Xi T33 904 73 = Xi T31 904 73 := ((show Xi T33 904 73 = Xi T32 904 73 from w1653.x _ _ rfl).trans ((show Xi T32 904 73 = Xi T31 904 73 from w1617.x _ _ rfl)))
  have y307_74 : Xi T33 904 74 = Xi T31 904 74 := ((show Xi T33 904 74 = Xi T32 904 74 from w1653.x _ _ rfl).trans ((show Xi T32 904 74 = Xi T31 904 74 from w1617.x _ _ rfl)))
  have y307_78 : Xi T33 904 78 = Xi T31 904 78 := ((show Xi T33 904 78 = Xi T32 904 78 from w1653.x _ _ rfl).trans ((show Xi T32 904 78 = Xi T31 904 78 from w1617.x _ _ rfl)))
  have y307_81 : Xi T33 904 81 = Xi T31 904 81 := ((show Xi T33 904 81 = Xi T32 904 81 from w1653.x _ _ rfl).trans ((show Xi T32 904 81 = Xi T31 904 81 from w1617.x _ _ rfl)))
  have y307_94 : Xi T33 904 94 = Xi T31 904 94 := ((show Xi T33 904 94 = Xi T32 904 94 from w1653.x _ _ rfl).trans ((show Xi T32 904 94 = Xi T31 904 94 from w1617.x _ _ rfl)))
  have y307_98 : Xi T33 904 98 = Xi T31 904 98 := ((show Xi T33 904 98 = Xi T32 904 98 from w1653.x _ _ rfl).trans ((show Xi T32 904 98 = Xi T31 904 98 from w1617.x _ _ rfl)))
  have y307_60 : Xi T33 904 60 = Xi T31 904 60 := ((show Xi T33 904 60 = Xi T32 904 60 from w1653.x _ _ rfl).trans ((show Xi T32 904 60 = Xi T31 904 60 from w1617.x _ _ rfl)))
  have y307_117 : Xi T33 904 117 = Xi T31 904 117 := ((show Xi T33 904 117 = Xi T32 904 117 from w1653.x _ _ rfl).trans ((show Xi T32 904 117 = Xi T31 904 117 from w1617.x _ _ rfl)))
  have F307 : Xi T33 904 106 = 0 → DOK T33 := fun q => dok_13 (by omega) (⟨ona_fw hFT33 rfl (O303 (by omega)), fun y => by have u := f307 q (by omega); rw [rnR_FR hFT32 rfl rfl] at u; rw [rnR_FR hFT33 rfl rfl, show Xi T33 904 74 = Xi T32 904 74 by omega]; exact u⟩)
  refine l_goto rfl rfl ?_
  refine l_return rfl rfl ?_
  have w1654 : 0 ≤ Xi T33 904 106 ∧ Xi T33 904 106 ≤ 9 := hHT33.c _ _
  have w1655 : Xi T33 904 108 = Xi T32 904 108 := (show Xi T33 904 108 = Xi T32 904 108 from w1653.x _ _ rfl)
  have w1656 : 0 ≤ Xi T32 904 108 ∧ Xi T32 904 108 ≤ 2600 := hHT32.c _ _
  have w1657 : Xi T33 904 109 = Xi T31 904 109 := (show Xi T33 904 109 = Xi T32 904 109 from w1653.x _ _ rfl).trans ((show Xi T32 904 109 = Xi T31 904 109 from w1617.x _ _ rfl))
  have w1658 : Xi T33 904 115 = Xi T31 904 115 := (show Xi T33 904 115 = Xi T32 904 115 from w1653.x _ _ rfl).trans ((show Xi T32 904 115 = Xi T31 904 115 from w1617.x _ _ rfl))
  have w1659 : -1 ≤ Xi T31 904 115 ∧ Xi T31 904 115 ≤ 15 := hHT31.c _ _
  have w1660 : Xi T33 904 116 = Xi T31 904 116 := (show Xi T33 904 116 = Xi T32 904 116 from w1653.x _ _ rfl).trans ((show Xi T32 904 116 = Xi T31 904 116 from w1617.x _ _ rfl))
  have w1661 : -1 ≤ Xi T31 904 116 ∧ Xi T31 904 116 ≤ 15 := hHT31.c _ _
  have w1662 : Xi T33 904 117 = Xi T31 904 117 := (show Xi T33 904 117 = Xi T32 904 117 from w1653.x _ _ rfl).trans ((show Xi T32 904 117 = Xi T31 904 117 from w1617.x _ _ rfl))
  have w1663 : 0 ≤ Xi T31 904 117 ∧ Xi T31 904 117 ≤ 480 := hHT31.c _ _
  have w1664 : Xi T33 904 142 = Xi T31 904 142 := (show Xi T33 904 142 = Xi T32 904 142 from w1653.x _ _ rfl).trans ((show Xi T32 904 142 = Xi T31 904 142 from w1617.x _ _ rfl))
  have w1665 : 0 ≤ Xi T31 904 142 ∧ Xi T31 904 142 ≤ 4 := hHT31.c _ _
  have w1666 : Xi T33 904 60 = Xi T31 904 60 := (show Xi T33 904 60 = Xi T32 904 60 from w1653.x _ _ rfl).trans ((show Xi T32 904 60 = Xi T31 904 60 from w1617.x _ _ rfl))
  have w1667 : -1 ≤ Xi T31 904 60 ∧ Xi T31 904 60 ≤ 23 := hHT31.c _ _
  have w1668 : Xi T33 904 69 = Xi T31 904 69 := (show Xi T33 904 69 = Xi T32 904 69 from w1653.x _ _ rfl).trans ((show Xi T32 904 69 = Xi T31 904 69 from w1617.x _ _ rfl))
  have w1669 : 0 ≤ Xi T31 904 69 ∧ Xi T31 904 69 ≤ 2600 := hHT31.c _ _
  have w1670 : Xi T33 904 70 = Xi T31 904 70 := (show Xi T33 904 70 = Xi T32 904 70 from w1653.x _ _ rfl).trans ((show Xi T32 904 70 = Xi T31 904 70 from w1617.x _ _ rfl))
  have w1671 : 0 ≤ Xi T31 904 70 ∧ Xi T31 904 70 ≤ 20 := hHT31.c _ _
  have w1672 : Xi T33 904 71 = Xi T31 904 71 := (show Xi T33 904 71 = Xi T32 904 71 from w1653.x _ _ rfl).trans ((show Xi T32 904 71 = Xi T31 904 71 from w1617.x _ _ rfl))
  have w1673 : 0 ≤ Xi T31 904 71 ∧ Xi T31 904 71 ≤ 2600 := hHT31.c _ _
  have w1674 : Xi T33 904 72 = Xi T31 904 72 := (show Xi T33 904 72 = Xi T32 904 72 from w1653.x _ _ rfl).trans ((show Xi T32 904 72 = Xi T31 904 72 from w1617.x _ _ rfl))
  have w1675 : 0 ≤ Xi T31 904 72 ∧ Xi T31 904 72 ≤ 2600 := hHT31.c _ _
  have w1676 : Xi T33 904 73 = Xi T31 904 73 := (show Xi T33 904 73 = Xi T32 904 73 from w1653.x _ _ rfl).trans ((show Xi T32 904 73 = Xi T31 904 73 from w1617.x _ _ rfl))
  have w1677 : 0 ≤ Xi T31 904 73 ∧ Xi T31 904 73 ≤ 5 := hHT31.c _ _
  have w1678 : Xi T33 904 74 = Xi T31 904 74 := (show Xi T33 904 74 = Xi T32 904 74 from w1653.x _ _ rfl).trans ((show Xi T32 904 74 = Xi T31 904 74 from w1617.x _ _ rfl))
  have w1679 : 0 ≤ Xi T31 904 74 ∧ Xi T31 904 74 ≤ 2600 := hHT31.c _ _
  have w1680 : Xi T33 904 78 = Xi T31 904 78 := (show Xi T33 904 78 = Xi T32 904 78 from w1653.x _ _ rfl).trans ((show Xi T32 904 78 = Xi T31 904 78 from w1617.x _ _ rfl))
  have w1681 : -2 ≤ Xi T31 904 78 ∧ Xi T31 904 78 ≤ 5010 := hHT31.c _ _
  have w1682 : Xi T33 904 81 = Xi T31 904 81 := (show Xi T33 904 81 = Xi T32 904 81 from w1653.x _ _ rfl).trans ((show Xi T32 904 81 = Xi T31 904 81 from w1617.x _ _ rfl))
  have w1683 : 0 ≤ Xi T31 904 81 ∧ Xi T31 904 81 ≤ 5010 := hHT31.c _ _
  have w1684 : Xi T33 904 94 = Xi T31 904 94 := (show Xi T33 904 94 = Xi T32 904 94 from w1653.x _ _ rfl).trans ((show Xi T32 904 94 = Xi T31 904 94 from w1617.x _ _ rfl))
  have w1685 : 0 ≤ Xi T31 904 94 ∧ Xi T31 904 94 ≤ 1700 := hHT31.c _ _
  have w1686 : Xi T33 904 98 = Xi T31 904 98 := (show Xi T33 904 98 = Xi T32 904 98 from w1653.x _ _ rfl).trans ((show Xi T32 904 98 = Xi T31 904 98 from w1617.x _ _ rfl))
  have w1687 : 0 ≤ Xi T31 904 98 ∧ Xi T31 904 98 ≤ 1700 := hHT31.c _ _
  exact ⟨hHT33, hFT33, rfl, (by assumption), (by first | exact fun q => by assumption | assumption | exact fun q => (RDT_FR hHT32 w1653 rfl rfl rfl (RDT_FR hHT31 w1617 rfl rfl rfl (by assumption : RDT T31))))⟩
set_option maxRecDepth 100000 in
set_option maxHeartbeats 8000000 in
theorem c313_mo_asked {S : sS} (hH : HI S) (n : Nat) (dd : Nat) (first : Int) (hfirst : 0 ≤ first ∧ first ≤ 5001) (hT : TK S n) (hv : RNV S n) (hM : LXM S) (hB : ABV S) (hC : DCM S) (hK : TXK S n) (hX : TXM S) (hq : SNQ S n) (hap : AP9 S n) (h94 : Xi S 904 94 ≤ 1668) (hRD : RDT S) (hPF : PF S) (hdt : Xi S 904 70 = 20 → first ≤ dd ∧ dd < n ∧ Xi S 907 dd = 46) (d : Nat) : ∀  (T34 : sS) (_ : HI T34) (_ : FR md_mo_asked S T34), (Xi T34 904 117 = Xi S 904 117) → (Xi T34 904 69 = Xi S 904 69) → (Xi T34 904 70 = Xi S 904 70) → (Xi T34 904 71 = Xi S 904 71) → (Xi T34 904 72 = Xi S 904 72) → (Xi T34 904 73 = Xi S 904 73) → (Xi T34 904 74 = Xi S 904 74) → (Xi T34 904 78 = Xi S 904 78) → (Xi T34 904 81 = Xi S 904 81) → (Xi T34 904 94 = Xi S 904 94) → (Xi T34 904 98 = Xi S 904 98) → (Xi T34 904 60 = Xi S 904 60) → (Xi T34 904 106 = 0) → (Xi T34 904 108 = 0) → (Xi T34 904 115 = -1) → (Xi T34 904 116 = -1) → (SNQ T34 n) → (RDT T34) → (KQL T34 S (Xi S 904 117)) → (Xi S 904 70 = 14) → Rl lay0 (d + 12) m_mo_asked 313 [(0, .ref 904)] [] T34 (Q_mo_asked S n dd first) := by
  have hF : FR md_mo_asked S S := FR.rf
  have w1 : 0 ≤ Xi S 904 106 ∧ Xi S 904 106 ≤ 9 := hH.c _ _
  have w2 : 0 ≤ Xi S 904 108 ∧ Xi S 904 108 ≤ 2600 := hH.c _ _
  have w3 : -1 ≤ Xi S 904 115 ∧ Xi S 904 115 ≤ 15 := hH.c _ _
  have w4 : -1 ≤ Xi S 904 116 ∧ Xi S 904 116 ≤ 15 := hH.c _ _
  have w5 : 0 ≤ Xi S 904 117 ∧ Xi S 904 117 ≤ 480 := hH.c _ _
  have w6 : 0 ≤ Xi S 904 23 ∧ Xi S 904 23 ≤ 24 := hH.c _ _
  have w7 : 0 ≤ Xi S 904 41 ∧ Xi S 904 41 ≤ 6 := hH.c _ _
  have w8 : -1 ≤ Xi S 904 60 ∧ Xi S 904 60 ≤ 23 := hH.c _ _
  have w9 : 0 ≤ Xi S 904 69 ∧ Xi S 904 69 ≤ 2600 := hH.c _ _
  have w10 : 0 ≤ Xi S 904 70 ∧ Xi S 904 70 ≤ 20 := hH.c _ _
  have w11 : 0 ≤ Xi S 904 71 ∧ Xi S 904 71 ≤ 2600 := hH.c _ _
  have w12 : 0 ≤ Xi S 904 72 ∧ Xi S 904 72 ≤ 2600 := hH.c _ _
  have w13 : 0 ≤ Xi S 904 73 ∧ Xi S 904 73 ≤ 5 := hH.c _ _
  have w14 : 0 ≤ Xi S 904 74 ∧ Xi S 904 74 ≤ 2600 := hH.c _ _
  have w15 : -2 ≤ Xi S 904 78 ∧ Xi S 904 78 ≤ 5010 := hH.c _ _
  have w16 : 0 ≤ Xi S 904 81 ∧ Xi S 904 81 ≤ 5010 := hH.c _ _
  have w17 : 0 ≤ Xi S 904 94 ∧ Xi S 904 94 ≤ 1700 := hH.c _ _
  have w18 : 0 ≤ Xi S 904 98 ∧ Xi S 904 98 ≤ 1700 := hH.c _ _
  have w19 : 0 ≤ Xi S 951 0 ∧ Xi S 951 0 ≤ 5010 := hH.c _ _
  have w20 : 0 ≤ Xi S 951 1 ∧ Xi S 951 1 ≤ 5010 := hH.c _ _
  have hn5 := hT.1
  have hc69 : 0 ≤ Xi S 904 69 ∧ Xi S 904 69 ≤ 2600 := hH.c _ _
  have hc70 : 0 ≤ Xi S 904 70 ∧ Xi S 904 70 ≤ 20 := hH.c _ _
  have hc23 : 0 ≤ Xi S 904 23 ∧ Xi S 904 23 ≤ 24 := hH.c _ _
  have hrf : ∀ r : Int, 0 ≤ r → r < Xi S 904 69 → Xi S 950 r.toNat + Xi S 951 r.toNat ≤ n ∧ 1 ≤ Xi S 951 r.toNat := fun r a b => hv r.toNat (by omega)
  have hq0 : KQL S S (Xi S 904 117) := KQL.rf
  intro T34 hHT34 hFT34 w1688 w1689 w1690 w1691 w1692 w1693 w1694 w1695 w1696 w1697 w1698 w1699 w1700 w1701 w1702 w1703 q20 r20 K20 w1704
  have w1705 : Xi T34 904 102 = Xi S 904 102 := hFT34.x _ _ rfl
  have w1706 : Xi T34 904 103 = Xi S 904 103 := hFT34.x _ _ rfl
  have w1707 : Xi T34 904 16 = Xi S 904 16 := hFT34.x _ _ rfl
  have w1708 : Xi T34 904 18 = Xi S 904 18 := hFT34.x _ _ rfl
  have w1709 : Xi T34 904 19 = Xi S 904 19 := hFT34.x _ _ rfl
  have w1710 : Xi T34 904 23 = Xi S 904 23 := hFT34.x _ _ rfl
  have w1711 : Xi T34 904 30 = Xi S 904 30 := hFT34.x _ _ rfl
  have w1712 : Xi T34 904 41 = Xi S 904 41 := hFT34.x _ _ rfl
  have w1713 : Xi T34 904 47 = Xi S 904 47 := hFT34.x _ _ rfl
  have w1714 : Xi T34 904 49 = Xi S 904 49 := hFT34.x _ _ rfl
  have w1715 : Xi T34 904 55 = Xi S 904 55 := hFT34.x _ _ rfl
  have w1716 : Xi T34 904 60 = Xi S 904 60 := hFT34.x _ _ rfl
  have w1717 : Xi T34 904 69 = Xi S 904 69 := hFT34.x _ _ rfl
  have w1718 : Xi T34 904 70 = Xi S 904 70 := hFT34.x _ _ rfl
  have w1719 : Xi T34 904 71 = Xi S 904 71 := hFT34.x _ _ rfl
  have w1720 : Xi T34 904 72 = Xi S 904 72 := hFT34.x _ _ rfl
  have w1721 : Xi T34 904 73 = Xi S 904 73 := hFT34.x _ _ rfl
  have w1722 : Xi T34 904 74 = Xi S 904 74 := hFT34.x _ _ rfl
  have w1723 : Xi T34 904 78 = Xi S 904 78 := hFT34.x _ _ rfl
  have w1724 : Xi T34 904 81 = Xi S 904 81 := hFT34.x _ _ rfl
  have w1725 : Xi T34 904 94 = Xi S 904 94 := hFT34.x _ _ rfl
  have w1726 : Xi T34 904 98 = Xi S 904 98 := hFT34.x _ _ rfl
  have w1727 : Xi T34 951 0 = Xi S 951 0 := hFT34.x _ _ rfl
  have w1728 : Xi T34 951 1 = Xi S 951 1 := hFT34.x _ _ rfl
  have w1729 : 0 ≤ Xi T34 904 106 ∧ Xi T34 904 106 ≤ 9 := hHT34.c _ _
  have w1730 : 0 ≤ Xi T34 904 108 ∧ Xi T34 904 108 ≤ 2600 := hHT34.c _ _
  have w1731 : -1 ≤ Xi T34 904 115 ∧ Xi T34 904 115 ≤ 15 := hHT34.c _ _
  have w1732 : -1 ≤ Xi T34 904 116 ∧ Xi T34 904 116 ≤ 15 := hHT34.c _ _
  have w1733 : 0 ≤ Xi T34 904 117 ∧ Xi T34 904 117 ≤ 480 := hHT34.c _ _
  have w1734 : -1 ≤ Xi T34 904 60 ∧ Xi T34 904 60 ≤ 23 := hHT34.c _ _
  have w1735 : 0 ≤ Xi T34 904 69 ∧ Xi T34 904 69 ≤ 2600 := hHT34.c _ _
  have w1736 : 0 ≤ Xi T34 904 70 ∧ Xi T34 904 70 ≤ 20 := hHT34.c _ _
  have w1737 : 0 ≤ Xi T34 904 71 ∧ Xi T34 904 71 ≤ 2600 := hHT34.c _ _
  have w1738 : 0 ≤ Xi T34 904 72 ∧ Xi T34 904 72 ≤ 2600 := hHT34.c _ _
  have w1739 : 0 ≤ Xi T34 904 73 ∧ Xi T34 904 73 ≤ 5 := hHT34.c _ _
  have w1740 : 0 ≤ Xi T34 904 74 ∧ Xi T34 904 74 ≤ 2600 := hHT34.c _ _
  have w1741 : -2 ≤ Xi T34 904 78 ∧ Xi T34 904 78 ≤ 5010 := hHT34.c _ _
  have w1742 : 0 ≤ Xi T34 904 81 ∧ Xi T34 904 81 ≤ 5010 := hHT34.c _ _
  have w1743 : 0 ≤ Xi T34 904 94 ∧ Xi T34 904 94 ≤ 1700 := hHT34.c _ _
  have w1744 : 0 ≤ Xi T34 904 98 ∧ Xi T34 904 98 ≤ 1700 := hHT34.c _ _
  refine l_aload_n rfl rfl ?_
  have s313 := q20.2.2.2.2.2.1 (by omega)
  have x313 := q20.2.2.2.2.2.2.1 (by omega)
  have y313 := q20.2.2.2.2.2.2.2.1 (by omega)
  have z313 : Xi T34 904 74 < Xi T34 904 69 := q20.2.2.2.2.2.2.2.2.1 (by omega)
  have w1745 : 0 ≤ Xi T34 904 106 ∧ Xi T34 904 106 ≤ 9 := hHT34.c _ _
  have w1746 : 0 ≤ Xi T34 904 108 ∧ Xi T34 904 108 ≤ 2600 := hHT34.c _ _
  have w1747 : -1 ≤ Xi T34 904 115 ∧ Xi T34 904 115 ≤ 15 := hHT34.c _ _
  have w1748 : -1 ≤ Xi T34 904 116 ∧ Xi T34 904 116 ≤ 15 := hHT34.c _ _
  have w1749 : 0 ≤ Xi T34 904 117 ∧ Xi T34 904 117 ≤ 480 := hHT34.c _ _
  have w1750 : 0 ≤ Xi T34 904 142 ∧ Xi T34 904 142 ≤ 4 := hHT34.c _ _
  have w1751 : 0 ≤ Xi T34 904 19 ∧ Xi T34 904 19 ≤ 24 := hHT34.c _ _
  have w1752 : -1 ≤ Xi T34 904 60 ∧ Xi T34 904 60 ≤ 23 := hHT34.c _ _
  have w1753 : 0 ≤ Xi T34 904 69 ∧ Xi T34 904 69 ≤ 2600 := hHT34.c _ _
  have w1754 : 0 ≤ Xi T34 904 70 ∧ Xi T34 904 70 ≤ 20 := hHT34.c _ _
  have w1755 : 0 ≤ Xi T34 904 71 ∧ Xi T34 904 71 ≤ 2600 := hHT34.c _ _
  have w1756 : 0 ≤ Xi T34 904 72 ∧ Xi T34 904 72 ≤ 2600 := hHT34.c _ _
  have w1757 : 0 ≤ Xi T34 904 73 ∧ Xi T34 904 73 ≤ 5 := hHT34.c _ _
  have w1758 : 0 ≤ Xi T34 904 74 ∧ Xi T34 904 74 ≤ 2600 := hHT34.c _ _
  have w1759 : -2 ≤ Xi T34 904 78 ∧ Xi T34 904 78 ≤ 5010 := hHT34.c _ _
  have w1760 : 0 ≤ Xi T34 904 81 ∧ Xi T34 904 81 ≤ 5010 := hHT34.c _ _
  have w1761 : 0 ≤ Xi T34 904 94 ∧ Xi T34 904 94 ≤ 1700 := hHT34.c _ _
  have w1762 : 0 ≤ Xi T34 904 98 ∧ Xi T34 904 98 ≤ 1700 := hHT34.c _ _
  refine l_callV rfl rfl rfl (t_mo_askWay hHT34 n (by first | assumption | exact (TK_FR hFT34 rfl (by assumption : TK S _))) (by first | assumption | exact (RNV_FR hFT34 rfl (by assumption : RNV S _))) (by first | assumption | exact (LXM_FR hFT34 rfl (by assumption : LXM S))) (by first | assumption | exact fun k hk => absurd hk (by omega) | exact (by assumption : NWV T34)) (by first | assumption | exact (ABV_FR hFT34 rfl (by assumption : ABV S))) (by first | assumption | omega) (by first | assumption | omega) (by first | assumption | omega) (by first | assumption | omega) (by first | assumption | omega) _) ?_
  rintro _ T35 ⟨hHT35, w1764, rfl, f314⟩
  have hFT35 : FR md_mo_asked S T35 := FR.tr hFT34 w1764 rfl
  show Rl _ _ _ _ _ [] _ _
  have y314_69 : Xi T35 904 69 = Xi T34 904 69 := ((show Xi T35 904 69 = Xi T34 904 69 from w1764.x _ _ rfl))
  have y314_70 : Xi T35 904 70 = Xi T34 904 70 := ((show Xi T35 904 70 = Xi T34 904 70 from w1764.x _ _ rfl))
  have y314_71 : Xi T35 904 71 = Xi T34 904 71 := ((show Xi T35 904 71 = Xi T34 904 71 from w1764.x _ _ rfl))
  have y314_72 : Xi T35 904 72 = Xi T34 904 72 := ((show Xi T35 904 72 = Xi T34 904 72 from w1764.x _ _ rfl))
  have y314_73 : Xi T35 904 73 = Xi T34 904 73 := ((show Xi T35 904 73 = Xi T34 904 73 from w1764.x _ _ rfl))
  have y314_74 : Xi T35 904 74 = Xi T34 904 74 := ((show Xi T35 904 74 = Xi T34 904 74 from w1764.x _ _ rfl))
  have y314_78 : Xi T35 904 78 = Xi T34 904 78 := ((show Xi T35 904 78 = Xi T34 904 78 from w1764.x _ _ rfl))
  have y314_81 : Xi T35 904 81 = Xi T34 904 81 := ((show Xi T35 904 81 = Xi T34 904 81 from w1764.x _ _ rfl))
  have y314_94 : Xi T35 904 94 = Xi T34 904 94 := ((show Xi T35 904 94 = Xi T34 904 94 from w1764.x _ _ rfl))
  have y314_98 : Xi T35 904 98 = Xi T34 904 98 := ((show Xi T35 904 98 = Xi T34 904 98 from w1764.x _ _ rfl))
  have y314_60 : Xi T35 904 60 = Xi T34 904 60 := ((show Xi T35 904 60 = Xi T34 904 60 from w1764.x _ _ rfl))
  have y314_117 : Xi T35 904 117 = Xi T34 904 117 := ((show Xi T35 904 117 = Xi T34 904 117 from w1764.x _ _ rfl))
  have u314_19 : Xi T35 904 19 = Xi S 904 19 := hFT35.x 904 19 rfl
  have F314 : Xi T35 904 106 = 0 → DOK T35 := fun q => dok_14 (by omega) (by have t := f314 q; rw [rnR_FR hFT34 rfl rfl, rnR_FR hFT34 rfl rfl, rnR_FR hFT34 rfl rfl, (hFT34.cx 951 rfl _).1, hFT34.x 904 19 rfl] at t; unfold D14; rw [rnR_FR hFT35 rfl rfl, rnR_FR hFT35 rfl rfl, rnR_FR hFT35 rfl rfl, (hFT35.cx 951 rfl _).1, u314_19, show Xi T35 904 71 = Xi T34 904 71 by omega, show Xi T35 904 78 = Xi T34 904 78 by omega, show Xi T35 904 74 = Xi T34 904 74 by omega]; exact t)
  refine l_goto rfl rfl ?_
  refine l_return rfl rfl ?_
  have w1765 : 0 ≤ Xi T35 904 106 ∧ Xi T35 904 106 ≤ 9 := hHT35.c _ _
  have w1766 : 0 ≤ Xi T35 904 108 ∧ Xi T35 904 108 ≤ 2600 := hHT35.c _ _
  have w1767 : Xi T35 904 109 = Xi T34 904 109 := (show Xi T35 904 109 = Xi T34 904 109 from w1764.x _ _ rfl)
  have w1768 : Xi T35 904 115 = Xi T34 904 115 := (show Xi T35 904 115 = Xi T34 904 115 from w1764.x _ _ rfl)
  have w1769 : -1 ≤ Xi T34 904 115 ∧ Xi T34 904 115 ≤ 15 := hHT34.c _ _
  have w1770 : Xi T35 904 116 = Xi T34 904 116 := (show Xi T35 904 116 = Xi T34 904 116 from w1764.x _ _ rfl)
  have w1771 : -1 ≤ Xi T34 904 116 ∧ Xi T34 904 116 ≤ 15 := hHT34.c _ _
  have w1772 : Xi T35 904 117 = Xi T34 904 117 := (show Xi T35 904 117 = Xi T34 904 117 from w1764.x _ _ rfl)
  have w1773 : 0 ≤ Xi T34 904 117 ∧ Xi T34 904 117 ≤ 480 := hHT34.c _ _
  have w1774 : Xi T35 904 142 = Xi T34 904 142 := (show Xi T35 904 142 = Xi T34 904 142 from w1764.x _ _ rfl)
  have w1775 : 0 ≤ Xi T34 904 142 ∧ Xi T34 904 142 ≤ 4 := hHT34.c _ _
  have w1776 : Xi T35 904 60 = Xi T34 904 60 := (show Xi T35 904 60 = Xi T34 904 60 from w1764.x _ _ rfl)
  have w1777 : -1 ≤ Xi T34 904 60 ∧ Xi T34 904 60 ≤ 23 := hHT34.c _ _
  have w1778 : Xi T35 904 69 = Xi T34 904 69 := (show Xi T35 904 69 = Xi T34 904 69 from w1764.x _ _ rfl)
  have w1779 : 0 ≤ Xi T34 904 69 ∧ Xi T34 904 69 ≤ 2600 := hHT34.c _ _
  have w1780 : Xi T35 904 70 = Xi T34 904 70 := (show Xi T35 904 70 = Xi T34 904 70 from w1764.x _ _ rfl)
  have w1781 : 0 ≤ Xi T34 904 70 ∧ Xi T34 904 70 ≤ 20 := hHT34.c _ _
  have w1782 : Xi T35 904 71 = Xi T34 904 71 := (show Xi T35 904 71 = Xi T34 904 71 from w1764.x _ _ rfl)
  have w1783 : 0 ≤ Xi T34 904 71 ∧ Xi T34 904 71 ≤ 2600 := hHT34.c _ _
  have w1784 : Xi T35 904 72 = Xi T34 904 72 := (show Xi T35 904 72 = Xi T34 904 72 from w1764.x _ _ rfl)
  have w1785 : 0 ≤ Xi T34 904 72 ∧ Xi T34 904 72 ≤ 2600 := hHT34.c _ _
  have w1786 : Xi T35 904 73 = Xi T34 904 73 := (show Xi T35 904 73 = Xi T34 904 73 from w1764.x _ _ rfl)
  have w1787 : 0 ≤ Xi T34 904 73 ∧ Xi T34 904 73 ≤ 5 := hHT34.c _ _
  have w1788 : Xi T35 904 74 = Xi T34 904 74 := (show Xi T35 904 74 = Xi T34 904 74 from w1764.x _ _ rfl)
  have w1789 : 0 ≤ Xi T34 904 74 ∧ Xi T34 904 74 ≤ 2600 := hHT34.c _ _
  have w1790 : Xi T35 904 78 = Xi T34 904 78 := (show Xi T35 904 78 = Xi T34 904 78 from w1764.x _ _ rfl)
  have w1791 : -2 ≤ Xi T34 904 78 ∧ Xi T34 904 78 ≤ 5010 := hHT34.c _ _
  have w1792 : Xi T35 904 81 = Xi T34 904 81 := (show Xi T35 904 81 = Xi T34 904 81 from w1764.x _ _ rfl)
  have w1793 : 0 ≤ Xi T34 904 81 ∧ Xi T34 904 81 ≤ 5010 := hHT34.c _ _
  have w1794 : Xi T35 904 94 = Xi T34 904 94 := (show Xi T35 904 94 = Xi T34 904 94 from w1764.x _ _ rfl)
  have w1795 : 0 ≤ Xi T34 904 94 ∧ Xi T34 904 94 ≤ 1700 := hHT34.c _ _
  have w1796 : Xi T35 904 98 = Xi T34 904 98 := (show Xi T35 904 98 = Xi T34 904 98 from w1764.x _ _ rfl)
  have w1797 : 0 ≤ Xi T34 904 98 ∧ Xi T34 904 98 ≤ 1700 := hHT34.c _ _
  exact ⟨hHT35, hFT35, rfl, (by assumption), (by first | exact fun q => by assumption | assumption | exact fun q => (RDT_FR hHT34 w1764 rfl rfl rfl (by assumption : RDT T34)))⟩
set_option maxRecDepth 100000 in
set_option maxHeartbeats 8000000 in
theorem c320_mo_asked {S : sS} (hH : HI S) (n : Nat) (dd : Nat) (first : Int) (hfirst : 0 ≤ first ∧ first ≤ 5001) (hT : TK S n) (hv : RNV S n) (hM : LXM S) (hB : ABV S) (hC : DCM S) (hK : TXK S n) (hX : TXM S) (hq : SNQ S n) (hap : AP9 S n) (h94 : Xi S 904 94 ≤ 1668) (hRD : RDT S) (hPF : PF S) (hdt : Xi S 904 70 = 20 → first ≤ dd ∧ dd < n ∧ Xi S 907 dd = 46) (d : Nat) : ∀  (T36 : sS) (_ : HI T36) (_ : FR md_mo_asked S T36), (Xi T36 904 117 = Xi S 904 117) → (Xi T36 904 69 = Xi S 904 69) → (Xi T36 904 70 = Xi S 904 70) → (Xi T36 904 71 = Xi S 904 71) → (Xi T36 904 72 = Xi S 904 72) → (Xi T36 904 73 = Xi S 904 73) → (Xi T36 904 74 = Xi S 904 74) → (Xi T36 904 78 = Xi S 904 78) → (Xi T36 904 81 = Xi S 904 81) → (Xi T36 904 94 = Xi S 904 94) → (Xi T36 904 98 = Xi S 904 98) → (Xi T36 904 60 = Xi S 904 60) → (Xi T36 904 106 = 0) → (Xi T36 904 108 = 0) → (Xi T36 904 115 = -1) → (Xi T36 904 116 = -1) → (SNQ T36 n) → (RDT T36) → (KQL T36 S (Xi S 904 117)) → (15 ≤ Xi S 904 70 ∧ Xi S 904 70 ≤ 16) → Rl lay0 (d + 12) m_mo_asked 320 [(0, .ref 904)] [] T36 (Q_mo_asked S n dd first) := by
  have hF : FR md_mo_asked S S := FR.rf
  have w1 : 0 ≤ Xi S 904 106 ∧ Xi S 904 106 ≤ 9 := hH.c _ _
  have w2 : 0 ≤ Xi S 904 108 ∧ Xi S 904 108 ≤ 2600 := hH.c _ _
  have w3 : -1 ≤ Xi S 904 115 ∧ Xi S 904 115 ≤ 15 := hH.c _ _
  have w4 : -1 ≤ Xi S 904 116 ∧ Xi S 904 116 ≤ 15 := hH.c _ _
  have w5 : 0 ≤ Xi S 904 117 ∧ Xi S 904 117 ≤ 480 := hH.c _ _
  have w6 : 0 ≤ Xi S 904 23 ∧ Xi S 904 23 ≤ 24 := hH.c _ _
  have w7 : 0 ≤ Xi S 904 41 ∧ Xi S 904 41 ≤ 6 := hH.c _ _
  have w8 : -1 ≤ Xi S 904 60 ∧ Xi S 904 60 ≤ 23 := hH.c _ _
  have w9 : 0 ≤ Xi S 904 69 ∧ Xi S 904 69 ≤ 2600 := hH.c _ _
  have w10 : 0 ≤ Xi S 904 70 ∧ Xi S 904 70 ≤ 20 := hH.c _ _
  have w11 : 0 ≤ Xi S 904 71 ∧ Xi S 904 71 ≤ 2600 := hH.c _ _
  have w12 : 0 ≤ Xi S 904 72 ∧ Xi S 904 72 ≤ 2600 := hH.c _ _
  have w13 : 0 ≤ Xi S 904 73 ∧ Xi S 904 73 ≤ 5 := hH.c _ _
  have w14 : 0 ≤ Xi S 904 74 ∧ Xi S 904 74 ≤ 2600 := hH.c _ _
  have w15 : -2 ≤ Xi S 904 78 ∧ Xi S 904 78 ≤ 5010 := hH.c _ _
  have w16 : 0 ≤ Xi S 904 81 ∧ Xi S 904 81 ≤ 5010 := hH.c _ _
  have w17 : 0 ≤ Xi S 904 94 ∧ Xi S 904 94 ≤ 1700 := hH.c _ _
  have w18 : 0 ≤ Xi S 904 98 ∧ Xi S 904 98 ≤ 1700 := hH.c _ _
  have w19 : 0 ≤ Xi S 951 0 ∧ Xi S 951 0 ≤ 5010 := hH.c _ _
  have w20 : 0 ≤ Xi S 951 1 ∧ Xi S 951 1 ≤ 5010 := hH.c _ _
  have hn5 := hT.1
  have hc69 : 0 ≤ Xi S 904 69 ∧ Xi S 904 69 ≤ 2600 := hH.c _ _
  have hc70 : 0 ≤ Xi S 904 70 ∧ Xi S 904 70 ≤ 20 := hH.c _ _
  have hc23 : 0 ≤ Xi S 904 23 ∧ Xi S 904 23 ≤ 24 := hH.c _ _
  have hrf : ∀ r : Int, 0 ≤ r → r < Xi S 904 69 → Xi S 950 r.toNat + Xi S 951 r.toNat ≤ n ∧ 1 ≤ Xi S 951 r.toNat := fun r a b => hv r.toNat (by omega)
  have hq0 : KQL S S (Xi S 904 117) := KQL.rf
  intro T36 hHT36 hFT36 w1798 w1799 w1800 w1801 w1802 w1803 w1804 w1805 w1806 w1807 w1808 w1809 w1810 w1811 w1812 w1813 q20 r20 K20 w1814
  have w1815 : Xi T36 904 102 = Xi S 904 102 := hFT36.x _ _ rfl
  have w1816 : Xi T36 904 103 = Xi S 904 103 := hFT36.x _ _ rfl
  have w1817 : Xi T36 904 16 = Xi S 904 16 := hFT36.x _ _ rfl
  have w1818 : Xi T36 904 18 = Xi S 904 18 := hFT36.x _ _ rfl
  have w1819 : Xi T36 904 19 = Xi S 904 19 := hFT36.x _ _ rfl
  have w1820 : Xi T36 904 23 = Xi S 904 23 := hFT36.x _ _ rfl
  have w1821 : Xi T36 904 30 = Xi S 904 30 := hFT36.x _ _ rfl
  have w1822 : Xi T36 904 41 = Xi S 904 41 := hFT36.x _ _ rfl
  have w1823 : Xi T36 904 47 = Xi S 904 47 := hFT36.x _ _ rfl
  have w1824 : Xi T36 904 49 = Xi S 904 49 := hFT36.x _ _ rfl
  have w1825 : Xi T36 904 55 = Xi S 904 55 := hFT36.x _ _ rfl
  have w1826 : Xi T36 904 60 = Xi S 904 60 := hFT36.x _ _ rfl
  have w1827 : Xi T36 904 69 = Xi S 904 69 := hFT36.x _ _ rfl
  have w1828 : Xi T36 904 70 = Xi S 904 70 := hFT36.x _ _ rfl
  have w1829 : Xi T36 904 71 = Xi S 904 71 := hFT36.x _ _ rfl
  have w1830 : Xi T36 904 72 = Xi S 904 72 := hFT36.x _ _ rfl
  have w1831 : Xi T36 904 73 = Xi S 904 73 := hFT36.x _ _ rfl
  have w1832 : Xi T36 904 74 = Xi S 904 74 := hFT36.x _ _ rfl
  have w1833 : Xi T36 904 78 = Xi S 904 78 := hFT36.x _ _ rfl
  have w1834 : Xi T36 904 81 = Xi S 904 81 := hFT36.x _ _ rfl
  have w1835 : Xi T36 904 94 = Xi S 904 94 := hFT36.x _ _ rfl
  have w1836 : Xi T36 904 98 = Xi S 904 98 := hFT36.x _ _ rfl
  have w1837 : Xi T36 951 0 = Xi S 951 0 := hFT36.x _ _ rfl
  have w1838 : Xi T36 951 1 = Xi S 951 1 := hFT36.x _ _ rfl
  have w1839 : 0 ≤ Xi T36 904 106 ∧ Xi T36 904 106 ≤ 9 := hHT36.c _ _
  have w1840 : 0 ≤ Xi T36 904 108 ∧ Xi T36 904 108 ≤ 2600 := hHT36.c _ _
  have w1841 : -1 ≤ Xi T36 904 115 ∧ Xi T36 904 115 ≤ 15 := hHT36.c _ _
  have w1842 : -1 ≤ Xi T36 904 116 ∧ Xi T36 904 116 ≤ 15 := hHT36.c _ _
  have w1843 : 0 ≤ Xi T36 904 117 ∧ Xi T36 904 117 ≤ 480 := hHT36.c _ _
  have w1844 : -1 ≤ Xi T36 904 60 ∧ Xi T36 904 60 ≤ 23 := hHT36.c _ _
  have w1845 : 0 ≤ Xi T36 904 69 ∧ Xi T36 904 69 ≤ 2600 := hHT36.c _ _
  have w1846 : 0 ≤ Xi T36 904 70 ∧ Xi T36 904 70 ≤ 20 := hHT36.c _ _
  have w1847 : 0 ≤ Xi T36 904 71 ∧ Xi T36 904 71 ≤ 2600 := hHT36.c _ _
  have w1848 : 0 ≤ Xi T36 904 72 ∧ Xi T36 904 72 ≤ 2600 := hHT36.c _ _
  have w1849 : 0 ≤ Xi T36 904 73 ∧ Xi T36 904 73 ≤ 5 := hHT36.c _ _
  have w1850 : 0 ≤ Xi T36 904 74 ∧ Xi T36 904 74 ≤ 2600 := hHT36.c _ _
  have w1851 : -2 ≤ Xi T36 904 78 ∧ Xi T36 904 78 ≤ 5010 := hHT36.c _ _
  have w1852 : 0 ≤ Xi T36 904 81 ∧ Xi T36 904 81 ≤ 5010 := hHT36.c _ _
  have w1853 : 0 ≤ Xi T36 904 94 ∧ Xi T36 904 94 ≤ 1700 := hHT36.c _ _
  have w1854 : 0 ≤ Xi T36 904 98 ∧ Xi T36 904 98 ≤ 1700 := hHT36.c _ _
  refine l_aload_n rfl rfl ?_
  have s320 := q20.2.2.2.2.2.1 (by omega)
  have x320 := q20.2.2.2.2.2.2.1 (by omega)
  have y320 := q20.2.2.2.2.2.2.2.1 (by omega)
  have w1855 : 0 ≤ Xi T36 904 106 ∧ Xi T36 904 106 ≤ 9 := hHT36.c _ _
  have w1856 : 0 ≤ Xi T36 904 108 ∧ Xi T36 904 108 ≤ 2600 := hHT36.c _ _
  have w1857 : -1 ≤ Xi T36 904 115 ∧ Xi T36 904 115 ≤ 15 := hHT36.c _ _
  have w1858 : -1 ≤ Xi T36 904 116 ∧ Xi T36 904 116 ≤ 15 := hHT36.c _ _
  have w1859 : 0 ≤ Xi T36 904 117 ∧ Xi T36 904 117 ≤ 480 := hHT36.c _ _
  have w1860 : 0 ≤ Xi T36 904 142 ∧ Xi T36 904 142 ≤ 4 := hHT36.c _ _
  have w1861 : 0 ≤ Xi T36 904 16 ∧ Xi T36 904 16 ≤ 16 := hHT36.c _ _
  have w1862 : 0 ≤ Xi T36 904 30 ∧ Xi T36 904 30 ≤ 64 := hHT36.c _ _
  have w1863 : -1 ≤ Xi T36 904 60 ∧ Xi T36 904 60 ≤ 23 := hHT36.c _ _
  have w1864 : 0 ≤ Xi T36 904 69 ∧ Xi T36 904 69 ≤ 2600 := hHT36.c _ _
  have w1865 : 0 ≤ Xi T36 904 70 ∧ Xi T36 904 70 ≤ 20 := hHT36.c _ _
  have w1866 : 0 ≤ Xi T36 904 71 ∧ Xi T36 904 71 ≤ 2600 := hHT36.c _ _
  have w1867 : 0 ≤ Xi T36 904 72 ∧ Xi T36 904 72 ≤ 2600 := hHT36.c _ _
  have w1868 : 0 ≤ Xi T36 904 73 ∧ Xi T36 904 73 ≤ 5 := hHT36.c _ _
  have w1869 : 0 ≤ Xi T36 904 74 ∧ Xi T36 904 74 ≤ 2600 := hHT36.c _ _
  have w1870 : -2 ≤ Xi T36 904 78 ∧ Xi T36 904 78 ≤ 5010 := hHT36.c _ _
  have w1871 : 0 ≤ Xi T36 904 81 ∧ Xi T36 904 81 ≤ 5010 := hHT36.c _ _
  have w1872 : 0 ≤ Xi T36 904 94 ∧ Xi T36 904 94 ≤ 1700 := hHT36.c _ _
  have w1873 : 0 ≤ Xi T36 904 98 ∧ Xi T36 904 98 ≤ 1700 := hHT36.c _ _
  refine l_callV rfl rfl rfl (t_mo_askFifteen hHT36 n (by first | assumption | exact (TK_FR hFT36 rfl (by assumption : TK S _))) (by first | assumption | exact (RNV_FR hFT36 rfl (by assumption : RNV S _))) (by first | assumption | exact (LXM_FR hFT36 rfl (by assumption : LXM S))) (by first | assumption | exact fun k hk => absurd hk (by omega) | exact (by assumption : NWV T36)) (by first | assumption | exact (ABV_FR hFT36 rfl (by assumption : ABV S))) (by first | assumption | exact (DCM_FR hFT36 rfl (by assumption : DCM S))) (by first | assumption | omega) (by first | assumption | omega) (by first | assumption | omega) (by first | assumption | omega) _) ?_
  rintro _ T37 ⟨hHT37, w1875, rfl, p1, p2, p3, p4⟩
  have hFT37 : FR md_mo_asked S T37 := FR.tr hFT36 w1875 rfl
  show Rl _ _ _ _ _ [] _ _
  have y321_69 : Xi T37 904 69 = Xi T36 904 69 := ((show Xi T37 904 69 = Xi T36 904 69 from w1875.x _ _ rfl))
  have y321_70 : Xi T37 904 70 = Xi T36 904 70 := ((show Xi T37 904 70 = Xi T36 904 70 from w1875.x _ _ rfl))
  have y321_71 : Xi T37 904 71 = Xi T36 904 71 := ((show Xi T37 904 71 = Xi T36 904 71 from w1875.x _ _ rfl))
  have y321_72 : Xi T37 904 72 = Xi T36 904 72 := ((show Xi T37 904 72 = Xi T36 904 72 from w1875.x _ _ rfl))
  have y321_73 : Xi T37 904 73 = Xi T36 904 73 := ((show Xi T37 904 73 = Xi T36 904 73 from w1875.x _ _ rfl))
  have y321_74 : Xi T37 904 74 = Xi T36 904 74 := ((show Xi T37 904 74 = Xi T36 904 74 from w1875.x _ _ rfl))
  have y321_78 : Xi T37 904 78 = Xi T36 904 78 := ((show Xi T37 904 78 = Xi T36 904 78 from w1875.x _ _ rfl))
  have y321_81 : Xi T37 904 81 = Xi T36 904 81 := ((show Xi T37 904 81 = Xi T36 904 81 from w1875.x _ _ rfl))
  have y321_94 : Xi T37 904 94 = Xi T36 904 94 := ((show Xi T37 904 94 = Xi T36 904 94 from w1875.x _ _ rfl))
  have y321_98 : Xi T37 904 98 = Xi T36 904 98 := ((show Xi T37 904 98 = Xi T36 904 98 from w1875.x _ _ rfl))
  have y321_60 : Xi T37 904 60 = Xi T36 904 60 := ((show Xi T37 904 60 = Xi T36 904 60 from w1875.x _ _ rfl))
  have y321_117 : Xi T37 904 117 = Xi T36 904 117 := ((show Xi T37 904 117 = Xi T36 904 117 from w1875.x _ _ rfl))
  have F321 : Xi T37 904 106 = 0 → DOK T37 := fun q => dok_15 (by omega) (d15_i (by assumption : FR md_mo_askFifteen T36 T37) rfl (p1 q) (p2 q) (p3 q) (p4 q))
  refine l_goto rfl rfl ?_
  refine l_return rfl rfl ?_
  have w1876 : 0 ≤ Xi T37 904 106 ∧ Xi T37 904 106 ≤ 9 := hHT37.c _ _
  have w1877 : 0 ≤ Xi T37 904 108 ∧ Xi T37 904 108 ≤ 2600 := hHT37.c _ _
  have w1878 : Xi T37 904 115 = Xi T36 904 115 := (show Xi T37 904 115 = Xi T36 904 115 from w1875.x _ _ rfl)
  have w1879 : -1 ≤ Xi T36 904 115 ∧ Xi T36 904 115 ≤ 15 := hHT36.c _ _
  have w1880 : Xi T37 904 116 = Xi T36 904 116 := (show Xi T37 904 116 = Xi T36 904 116 from w1875.x _ _ rfl)
  have w1881 : -1 ≤ Xi T36 904 116 ∧ Xi T36 904 116 ≤ 15 := hHT36.c _ _
  have w1882 : Xi T37 904 117 = Xi T36 904 117 := (show Xi T37 904 117 = Xi T36 904 117 from w1875.x _ _ rfl)
  have w1883 : 0 ≤ Xi T36 904 117 ∧ Xi T36 904 117 ≤ 480 := hHT36.c _ _
  have w1884 : 0 ≤ Xi T37 904 142 ∧ Xi T37 904 142 ≤ 4 := hHT37.c _ _
  have w1885 : Xi T37 904 60 = Xi T36 904 60 := (show Xi T37 904 60 = Xi T36 904 60 from w1875.x _ _ rfl)
  have w1886 : -1 ≤ Xi T36 904 60 ∧ Xi T36 904 60 ≤ 23 := hHT36.c _ _
  have w1887 : Xi T37 904 69 = Xi T36 904 69 := (show Xi T37 904 69 = Xi T36 904 69 from w1875.x _ _ rfl)
  have w1888 : 0 ≤ Xi T36 904 69 ∧ Xi T36 904 69 ≤ 2600 := hHT36.c _ _
  have w1889 : Xi T37 904 70 = Xi T36 904 70 := (show Xi T37 904 70 = Xi T36 904 70 from w1875.x _ _ rfl)
  have w1890 : 0 ≤ Xi T36 904 70 ∧ Xi T36 904 70 ≤ 20 := hHT36.c _ _
  have w1891 : Xi T37 904 71 = Xi T36 904 71 := (show Xi T37 904 71 = Xi T36 904 71 from w1875.x _ _ rfl)
  have w1892 : 0 ≤ Xi T36 904 71 ∧ Xi T36 904 71 ≤ 2600 := hHT36.c _ _
  have w1893 : Xi T37 904 72 = Xi T36 904 72 := (show Xi T37 904 72 = Xi T36 904 72 from w1875.x _ _ rfl)
  have w1894 : 0 ≤ Xi T36 904 72 ∧ Xi T36 904 72 ≤ 2600 := hHT36.c _ _
  have w1895 : Xi T37 904 73 = Xi T36 904 73 := (show Xi T37 904 73 = Xi T36 904 73 from w1875.x _ _ rfl)
  have w1896 : 0 ≤ Xi T36 904 73 ∧ Xi T36 904 73 ≤ 5 := hHT36.c _ _
  have w1897 : Xi T37 904 74 = Xi T36 904 74 := (show Xi T37 904 74 = Xi T36 904 74 from w1875.x _ _ rfl)
  have w1898 : 0 ≤ Xi T36 904 74 ∧ Xi T36 904 74 ≤ 2600 := hHT36.c _ _
  have w1899 : Xi T37 904 78 = Xi T36 904 78 := (show Xi T37 904 78 = Xi T36 904 78 from w1875.x _ _ rfl)
  have w1900 : -2 ≤ Xi T36 904 78 ∧ Xi T36 904 78 ≤ 5010 := hHT36.c _ _
  have w1901 : Xi T37 904 81 = Xi T36 904 81 := (show Xi T37 904 81 = Xi T36 904 81 from w1875.x _ _ rfl)
  have w1902 : 0 ≤ Xi T36 904 81 ∧ Xi T36 904 81 ≤ 5010 := hHT36.c _ _
  have w1903 : Xi T37 904 94 = Xi T36 904 94 := (show Xi T37 904 94 = Xi T36 904 94 from w1875.x _ _ rfl)
  have w1904 : 0 ≤ Xi T36 904 94 ∧ Xi T36 904 94 ≤ 1700 := hHT36.c _ _
  have w1905 : Xi T37 904 98 = Xi T36 904 98 := (show Xi T37 904 98 = Xi T36 904 98 from w1875.x _ _ rfl)
  have w1906 : 0 ≤ Xi T36 904 98 ∧ Xi T36 904 98 ≤ 1700 := hHT36.c _ _
  exact ⟨hHT37, hFT37, rfl, (by assumption), (by first | exact fun q => by assumption | assumption | exact fun q => (RDT_FR hHT36 w1875 rfl rfl rfl (by assumption : RDT T36)))⟩


