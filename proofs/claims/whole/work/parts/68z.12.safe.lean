/-! SAFETY of methods: printed by wip/safe (vc.py, decl.py) -/
set_option maxRecDepth 100000 in
set_option maxHeartbeats 4000000 in
theorem c217_mo_begin {S : sS} (hH : HI S) (hB : ABV S) (hW : WYM S) (d : Nat) : ∀  (T31 : sS) (_ : HI T31) (_ : FR md_mo_begin S T31), (Xi T31 904 16 = 5) → (Xi T31 904 18 = 2) → (Xi T31 904 19 = 0) → (Xi T31 904 23 = 0) → (Xi T31 904 30 = 0) → (Xi T31 904 32 = 1) → (Xi T31 904 41 = 0) → (Xi T31 904 47 = 0) → (Xi T31 904 49 = 0) → (Xi T31 904 51 = 0) → (Xi T31 904 55 = 0) → (Xi T31 904 60 = -1) → (Xi T31 904 117 = 0) → (Xi T31 904 125 = 0) → (Xi T31 904 130 = 0) → (Xi T31 904 15 = 10) → (ABV T31) → (WYM T31) → (TXM T31) → (LXM T31) → (∀ j : Nat, (j : Int) < 12 * 5 → Xi T31 933 j = 0) → Rl lay0 (d + 5) m_mo_begin 217 [(0, .ref 904)] [] T31 (Q_mo_begin S) := by
  have C267 := c267_mo_begin hH hB hW d 
  have hF : FR md_mo_begin S S := FR.rf
  have w1 : 0 ≤ Xi S 904 117 ∧ Xi S 904 117 ≤ 480 := hH.c _ _
  have w2 : 0 ≤ Xi S 904 125 ∧ Xi S 904 125 ≤ 192 := hH.c _ _
  have w3 : 0 ≤ Xi S 904 130 ∧ Xi S 904 130 ≤ 24 := hH.c _ _
  have w4 : 0 ≤ Xi S 904 15 ∧ Xi S 904 15 ≤ 300 := hH.c _ _
  have w5 : 0 ≤ Xi S 904 16 ∧ Xi S 904 16 ≤ 16 := hH.c _ _
  have w6 : 0 ≤ Xi S 904 18 ∧ Xi S 904 18 ≤ 8 := hH.c _ _
  have w7 : 0 ≤ Xi S 904 19 ∧ Xi S 904 19 ≤ 24 := hH.c _ _
  have w8 : 0 ≤ Xi S 904 23 ∧ Xi S 904 23 ≤ 24 := hH.c _ _
  have w9 : 0 ≤ Xi S 904 30 ∧ Xi S 904 30 ≤ 64 := hH.c _ _
  have w10 : 0 ≤ Xi S 904 32 ∧ Xi S 904 32 ≤ 12 := hH.c _ _
  have w11 : 0 ≤ Xi S 904 41 ∧ Xi S 904 41 ≤ 6 := hH.c _ _
  have w12 : 0 ≤ Xi S 904 47 ∧ Xi S 904 47 ≤ 8 := hH.c _ _
  have w13 : 0 ≤ Xi S 904 49 ∧ Xi S 904 49 ≤ 12 := hH.c _ _
  have w14 : 0 ≤ Xi S 904 51 ∧ Xi S 904 51 ≤ 200 := hH.c _ _
  have w15 : 0 ≤ Xi S 904 55 ∧ Xi S 904 55 ≤ 20 := hH.c _ _
  have w16 : -1 ≤ Xi S 904 60 ∧ Xi S 904 60 ≤ 23 := hH.c _ _
  intro T31 hHT31 hFT31 w1229 w1230 w1231 w1232 w1233 w1234 w1235 w1236 w1237 w1238 w1239 w1240 w1241 w1242 w1243 w1244 B217 W217 X217 M217 Z217
  have w1245 : 0 ≤ Xi T31 904 117 ∧ Xi T31 904 117 ≤ 480 := hHT31.c _ _
  have w1246 : 0 ≤ Xi T31 904 125 ∧ Xi T31 904 125 ≤ 192 := hHT31.c _ _
  have w1247 : 0 ≤ Xi T31 904 130 ∧ Xi T31 904 130 ≤ 24 := hHT31.c _ _
  have w1248 : 0 ≤ Xi T31 904 15 ∧ Xi T31 904 15 ≤ 300 := hHT31.c _ _
  have w1249 : 0 ≤ Xi T31 904 16 ∧ Xi T31 904 16 ≤ 16 := hHT31.c _ _
  have w1250 : 0 ≤ Xi T31 904 18 ∧ Xi T31 904 18 ≤ 8 := hHT31.c _ _
  have w1251 : 0 ≤ Xi T31 904 19 ∧ Xi T31 904 19 ≤ 24 := hHT31.c _ _
  have w1252 : 0 ≤ Xi T31 904 23 ∧ Xi T31 904 23 ≤ 24 := hHT31.c _ _
  have w1253 : 0 ≤ Xi T31 904 30 ∧ Xi T31 904 30 ≤ 64 := hHT31.c _ _
  have w1254 : 0 ≤ Xi T31 904 32 ∧ Xi T31 904 32 ≤ 12 := hHT31.c _ _
  have w1255 : 0 ≤ Xi T31 904 41 ∧ Xi T31 904 41 ≤ 6 := hHT31.c _ _
  have w1256 : 0 ≤ Xi T31 904 47 ∧ Xi T31 904 47 ≤ 8 := hHT31.c _ _
  have w1257 : 0 ≤ Xi T31 904 49 ∧ Xi T31 904 49 ≤ 12 := hHT31.c _ _
  have w1258 : 0 ≤ Xi T31 904 51 ∧ Xi T31 904 51 ≤ 200 := hHT31.c _ _
  have w1259 : 0 ≤ Xi T31 904 55 ∧ Xi T31 904 55 ≤ 20 := hHT31.c _ _
  have w1260 : -1 ≤ Xi T31 904 60 ∧ Xi T31 904 60 ≤ 23 := hHT31.c _ _
  refine l_aload_n rfl rfl ?_
  refine l_iconst rfl ?_
  refine l_iconst rfl ?_
  refine l_ldcwR (i := 47) rfl rfl ?_
  refine l_callV rfl rfl rfl (t_mo_tellWord hHT31 2 0 47 _ ⟨by omega, by omega⟩ ⟨by omega, by omega⟩ rfl (by first | assumption | omega) _) ?_
  rintro _ T32 ⟨hHT32, w1279, rfl, w1277, e223, k223⟩
  have hFT32 : FR md_mo_begin S T32 := FR.tr hFT31 w1279 rfl
  show Rl _ _ _ _ _ [] _ _
  have f223_18 : Xi T32 904 18 = Xi T31 904 18 := (by assumption : FR md_mo_tellWord T31 T32).x 904 18 rfl
  have M223 : LXM T32 := lxm_gr M217 k223 (GR_FR (by assumption : FR md_mo_tellWord T31 T32) rfl GR.rf) (by omega) (Or.inr ⟨by omega, by rw [e223.1, e223.2, cM2]; omega⟩)
  clear k223 e223
  refine l_aload_n rfl rfl ?_
  refine l_iconst rfl ?_
  refine l_iconst rfl ?_
  refine l_ldcwR (i := 48) rfl rfl ?_
  have w1280 : Xi T32 904 117 = Xi T31 904 117 := (show Xi T32 904 117 = Xi T31 904 117 from w1279.x _ _ rfl)
  have w1282 : Xi T32 904 125 = Xi T31 904 125 := (show Xi T32 904 125 = Xi T31 904 125 from w1279.x _ _ rfl)
  have w1284 : Xi T32 904 130 = Xi T31 904 130 := (show Xi T32 904 130 = Xi T31 904 130 from w1279.x _ _ rfl)
  have w1286 : 0 ≤ Xi T32 904 15 ∧ Xi T32 904 15 ≤ 300 := hHT32.c _ _
  have w1287 : Xi T32 904 16 = Xi T31 904 16 := (show Xi T32 904 16 = Xi T31 904 16 from w1279.x _ _ rfl)
  have w1289 : Xi T32 904 18 = Xi T31 904 18 := (show Xi T32 904 18 = Xi T31 904 18 from w1279.x _ _ rfl)
  have w1291 : Xi T32 904 19 = Xi T31 904 19 := (show Xi T32 904 19 = Xi T31 904 19 from w1279.x _ _ rfl)
  have w1293 : Xi T32 904 23 = Xi T31 904 23 := (show Xi T32 904 23 = Xi T31 904 23 from w1279.x _ _ rfl)
  have w1295 : Xi T32 904 30 = Xi T31 904 30 := (show Xi T32 904 30 = Xi T31 904 30 from w1279.x _ _ rfl)
  have w1297 : Xi T32 904 32 = Xi T31 904 32 := (show Xi T32 904 32 = Xi T31 904 32 from w1279.x _ _ rfl)
  have w1299 : Xi T32 904 41 = Xi T31 904 41 := (show Xi T32 904 41 = Xi T31 904 41 from w1279.x _ _ rfl)
  have w1301 : Xi T32 904 47 = Xi T31 904 47 := (show Xi T32 904 47 = Xi T31 904 47 from w1279.x _ _ rfl)
  have w1303 : Xi T32 904 49 = Xi T31 904 49 := (show Xi T32 904 49 = Xi T31 904 49 from w1279.x _ _ rfl)
  have w1305 : Xi T32 904 51 = Xi T31 904 51 := (show Xi T32 904 51 = Xi T31 904 51 from w1279.x _ _ rfl)
  have w1307 : Xi T32 904 55 = Xi T31 904 55 := (show Xi T32 904 55 = Xi T31 904 55 from w1279.x _ _ rfl)
  have w1309 : Xi T32 904 60 = Xi T31 904 60 := (show Xi T32 904 60 = Xi T31 904 60 from w1279.x _ _ rfl)
  refine l_callV rfl rfl rfl (t_mo_tellWord hHT32 2 1 48 _ ⟨by omega, by omega⟩ ⟨by omega, by omega⟩ rfl (by first | assumption | omega) _) ?_
  rintro _ T33 ⟨hHT33, w1313, rfl, w1311, e232, k232⟩
  have hFT33 : FR md_mo_begin S T33 := FR.tr hFT32 w1313 rfl
  show Rl _ _ _ _ _ [] _ _
  have f232_18 : Xi T33 904 18 = Xi T32 904 18 := (by assumption : FR md_mo_tellWord T32 T33).x 904 18 rfl
  have M232 : LXM T33 := lxm_gr M223 k232 (GR_FR (by assumption : FR md_mo_tellWord T32 T33) rfl GR.rf) (by omega) (Or.inr ⟨by omega, by rw [e232.1, e232.2, cM2]; omega⟩)
  clear k232 e232
  refine l_aload_n rfl rfl ?_
  refine l_iconst rfl ?_
  refine l_iconst rfl ?_
  have w1314 : Xi T33 904 117 = Xi T31 904 117 := (show Xi T33 904 117 = Xi T32 904 117 from w1313.x _ _ rfl).trans ((show Xi T32 904 117 = Xi T31 904 117 from w1279.x _ _ rfl))
  have w1316 : Xi T33 904 125 = Xi T31 904 125 := (show Xi T33 904 125 = Xi T32 904 125 from w1313.x _ _ rfl).trans ((show Xi T32 904 125 = Xi T31 904 125 from w1279.x _ _ rfl))
  have w1318 : Xi T33 904 130 = Xi T31 904 130 := (show Xi T33 904 130 = Xi T32 904 130 from w1313.x _ _ rfl).trans ((show Xi T32 904 130 = Xi T31 904 130 from w1279.x _ _ rfl))
  have w1320 : 0 ≤ Xi T33 904 15 ∧ Xi T33 904 15 ≤ 300 := hHT33.c _ _
  have w1321 : Xi T33 904 16 = Xi T31 904 16 := (show Xi T33 904 16 = Xi T32 904 16 from w1313.x _ _ rfl).trans ((show Xi T32 904 16 = Xi T31 904 16 from w1279.x _ _ rfl))
  have w1323 : Xi T33 904 18 = Xi T31 904 18 := (show Xi T33 904 18 = Xi T32 904 18 from w1313.x _ _ rfl).trans ((show Xi T32 904 18 = Xi T31 904 18 from w1279.x _ _ rfl))
  have w1325 : Xi T33 904 19 = Xi T31 904 19 := (show Xi T33 904 19 = Xi T32 904 19 from w1313.x _ _ rfl).trans ((show Xi T32 904 19 = Xi T31 904 19 from w1279.x _ _ rfl))
  have w1327 : Xi T33 904 23 = Xi T31 904 23 := (show Xi T33 904 23 = Xi T32 904 23 from w1313.x _ _ rfl).trans ((show Xi T32 904 23 = Xi T31 904 23 from w1279.x _ _ rfl))
  have w1329 : Xi T33 904 30 = Xi T31 904 30 := (show Xi T33 904 30 = Xi T32 904 30 from w1313.x _ _ rfl).trans ((show Xi T32 904 30 = Xi T31 904 30 from w1279.x _ _ rfl))
  have w1331 : Xi T33 904 32 = Xi T31 904 32 := (show Xi T33 904 32 = Xi T32 904 32 from w1313.x _ _ rfl).trans ((show Xi T32 904 32 = Xi T31 904 32 from w1279.x _ _ rfl))
  have w1333 : Xi T33 904 41 = Xi T31 904 41 := (show Xi T33 904 41 = Xi T32 904 41 from w1313.x _ _ rfl).trans ((show Xi T32 904 41 = Xi T31 904 41 from w1279.x _ _ rfl))
  have w1335 : Xi T33 904 47 = Xi T31 904 47 := (show Xi T33 904 47 = Xi T32 904 47 from w1313.x _ _ rfl).trans ((show Xi T32 904 47 = Xi T31 904 47 from w1279.x _ _ rfl))
  have w1337 : Xi T33 904 49 = Xi T31 904 49 := (show Xi T33 904 49 = Xi T32 904 49 from w1313.x _ _ rfl).trans ((show Xi T32 904 49 = Xi T31 904 49 from w1279.x _ _ rfl))
  have w1339 : Xi T33 904 51 = Xi T31 904 51 := (show Xi T33 904 51 = Xi T32 904 51 from w1313.x _ _ rfl).trans ((show Xi T32 904 51 = Xi T31 904 51 from w1279.x _ _ rfl))
  have w1341 : Xi T33 904 55 = Xi T31 904 55 := (show Xi T33 904 55 = Xi T32 904 55 from w1313.x _ _ rfl).trans ((show Xi T32 904 55 = Xi T31 904 55 from w1279.x _ _ rfl))
  have w1343 : Xi T33 904 60 = Xi T31 904 60 := (show Xi T33 904 60 = Xi T32 904 60 from w1313.x _ _ rfl).trans ((show Xi T32 904 60 = Xi T31 904 60 from w1279.x _ _ rfl))
  refine l_callV rfl rfl rfl (t_mo_addAdjective hHT33 0 1 ⟨by omega, by omega⟩ ⟨by omega, by omega⟩ (by first | assumption | omega) _) ?_
  rintro _ T34 ⟨hHT34, w1348, z1347, rfl, w1347, w1345, w1346, e238, k238⟩
  have hFT34 : FR md_mo_begin S T34 := FR.tr hFT33 w1348 rfl
  show Rl _ _ _ _ _ [iv z1347] _ _
  have d238 : Xi T34 922 0 = 1 ∧ Xi T34 924 0 = 0 := by have t := e238; rw [show (Xi T33 904 23).toNat = 0 by omega] at t; exact t
  have M238 : LXM T34 := lxm_gr M232 (LXK_FR (by assumption : FR md_mo_addAdjective T33 T34) rfl) (gr_m GR.rf (Int.le_of_eq ((by assumption : FR md_mo_addAdjective T33 T34).x 904 16 rfl).symm) (Int.le_of_eq ((by assumption : FR md_mo_addAdjective T33 T34).x 904 18 rfl).symm) (Int.le_of_eq ((by assumption : FR md_mo_addAdjective T33 T34).x 904 19 rfl).symm) (by omega) (Int.le_of_eq ((by assumption : FR md_mo_addAdjective T33 T34).x 904 30 rfl).symm) (Int.le_of_eq ((by assumption : FR md_mo_addAdjective T33 T34).x 904 32 rfl).symm) (Int.le_of_eq ((by assumption : FR md_mo_addAdjective T33 T34).x 904 41 rfl).symm) (Int.le_of_eq ((by assumption : FR md_mo_addAdjective T33 T34).x 904 47 rfl).symm) (Int.le_of_eq ((by assumption : FR md_mo_addAdjective T33 T34).x 904 49 rfl).symm) (fun i hi => absurd hi (by omega)) (fun i _ => ((by assumption : FR md_mo_addAdjective T33 T34).cx 928 rfl i).1) (fun i _ => ((by assumption : FR md_mo_addAdjective T33 T34).cx 942 rfl i).1)) (by omega) (Or.inl ((by assumption : FR md_mo_addAdjective T33 T34).x 904 15 rfl))
  refine l_pop rfl rfl ?_
  refine l_aload_n rfl rfl ?_
  refine l_iconst rfl ?_
  refine l_iconst rfl ?_
  have w1349 : Xi T34 904 117 = Xi T31 904 117 := (show Xi T34 904 117 = Xi T33 904 117 from w1348.x _ _ rfl).trans ( (show Xi T33 904 117 = Xi T32 904 117 from w1313.x _ _ rfl).trans ((show Xi T32 904 117 = Xi T31 904 117 from w1279.x _ _ rfl)))
  have w1351 : Xi T34 904 125 = Xi T31 904 125 := (show Xi T34 904 125 = Xi T33 904 125 from w1348.x _ _ rfl).trans ( (show Xi T33 904 125 = Xi T32 904 125 from w1313.x _ _ rfl).trans ((show Xi T32 904 125 = Xi T31 904 125 from w1279.x _ _ rfl)))
  have w1353 : Xi T34 904 130 = Xi T31 904 130 := (show Xi T34 904 130 = Xi T33 904 130 from w1348.x _ _ rfl).trans ( (show Xi T33 904 130 = Xi T32 904 130 from w1313.x _ _ rfl).trans ((show Xi T32 904 130 = Xi T31 904 130 from w1279.x _ _ rfl)))
  have w1355 : Xi T34 904 15 = Xi T33 904 15 := (show Xi T34 904 15 = Xi T33 904 15 from w1348.x _ _ rfl)
  have w1357 : Xi T34 904 16 = Xi T31 904 16 := (show Xi T34 904 16 = Xi T33 904 16 from w1348.x _ _ rfl).trans ( (show Xi T33 904 16 = Xi T32 904 16 from w1313.x _ _ rfl).trans ((show Xi T32 904 16 = Xi T31 904 16 from w1279.x _ _ rfl)))
  have w1359 : Xi T34 904 18 = Xi T31 904 18 := (show Xi T34 904 18 = Xi T33 904 18 from w1348.x _ _ rfl).trans ( (show Xi T33 904 18 = Xi T32 904 18 from w1313.x _ _ rfl).trans ((show Xi T32 904 18 = Xi T31 904 18 from w1279.x _ _ rfl)))
  have w1361 : Xi T34 904 19 = Xi T31 904 19 := (show Xi T34 904 19 = Xi T33 904 19 from w1348.x _ _ rfl).trans ( (show Xi T33 904 19 = Xi T32 904 19 from w1313.x _ _ rfl).trans ((show Xi T32 904 19 = Xi T31 904 19 from w1279.x _ _ rfl)))
  have w1363 : 0 ≤ Xi T34 904 23 ∧ Xi T34 904 23 ≤ 24 := hHT34.c _ _
  have w1364 : Xi T34 904 30 = Xi T31 904 30 := (show Xi T34 904 30 = Xi T33 904 30 from w1348.x _ _ rfl).trans ( (show Xi T33 904 30 = Xi T32 904 30 from w1313.x _ _ rfl).trans ((show Xi T32 904 30 = Xi T31 904 30 from w1279.x _ _ rfl)))
  have w1366 : Xi T34 904 32 = Xi T31 904 32 := (show Xi T34 904 32 = Xi T33 904 32 from w1348.x _ _ rfl).trans ( (show Xi T33 904 32 = Xi T32 904 32 from w1313.x _ _ rfl).trans ((show Xi T32 904 32 = Xi T31 904 32 from w1279.x _ _ rfl)))
  have w1368 : Xi T34 904 41 = Xi T31 904 41 := (show Xi T34 904 41 = Xi T33 904 41 from w1348.x _ _ rfl).trans ( (show Xi T33 904 41 = Xi T32 904 41 from w1313.x _ _ rfl).trans ((show Xi T32 904 41 = Xi T31 904 41 from w1279.x _ _ rfl)))
  have w1370 : Xi T34 904 47 = Xi T31 904 47 := (show Xi T34 904 47 = Xi T33 904 47 from w1348.x _ _ rfl).trans ( (show Xi T33 904 47 = Xi T32 904 47 from w1313.x _ _ rfl).trans ((show Xi T32 904 47 = Xi T31 904 47 from w1279.x _ _ rfl)))
  have w1372 : Xi T34 904 49 = Xi T31 904 49 := (show Xi T34 904 49 = Xi T33 904 49 from w1348.x _ _ rfl).trans ( (show Xi T33 904 49 = Xi T32 904 49 from w1313.x _ _ rfl).trans ((show Xi T32 904 49 = Xi T31 904 49 from w1279.x _ _ rfl)))
  have w1374 : Xi T34 904 51 = Xi T31 904 51 := (show Xi T34 904 51 = Xi T33 904 51 from w1348.x _ _ rfl).trans ( (show Xi T33 904 51 = Xi T32 904 51 from w1313.x _ _ rfl).trans ((show Xi T32 904 51 = Xi T31 904 51 from w1279.x _ _ rfl)))
  have w1376 : Xi T34 904 55 = Xi T31 904 55 := (show Xi T34 904 55 = Xi T33 904 55 from w1348.x _ _ rfl).trans ( (show Xi T33 904 55 = Xi T32 904 55 from w1313.x _ _ rfl).trans ((show Xi T32 904 55 = Xi T31 904 55 from w1279.x _ _ rfl)))
  have w1378 : Xi T34 904 60 = Xi T31 904 60 := (show Xi T34 904 60 = Xi T33 904 60 from w1348.x _ _ rfl).trans ( (show Xi T33 904 60 = Xi T32 904 60 from w1313.x _ _ rfl).trans ((show Xi T32 904 60 = Xi T31 904 60 from w1279.x _ _ rfl)))
  refine l_callV rfl rfl rfl (t_mo_addAdjective hHT34 0 0 ⟨by omega, by omega⟩ ⟨by omega, by omega⟩ (by first | assumption | omega) _) ?_
  rintro _ T35 ⟨hHT35, w1383, z1382, rfl, w1382, w1380, w1381, e245, k245⟩
  have hFT35 : FR md_mo_begin S T35 := FR.tr hFT34 w1383 rfl
  show Rl _ _ _ _ _ [iv z1382] _ _
  have d245 : Xi T35 922 1 = 0 ∧ Xi T35 924 1 = 0 := by have t := e245; rw [show (Xi T34 904 23).toNat = 1 by omega] at t; exact t
  have c245 : Xi T35 922 0 = 1 ∧ Xi T35 924 0 = 0 := by have t := k245 0 (by omega); exact ⟨t.2.1.trans d238.1, t.2.2.trans d238.2⟩
  have M245 : LXM T35 := lxm_gr M238 (LXK_FR (by assumption : FR md_mo_addAdjective T34 T35) rfl) (gr_m GR.rf (Int.le_of_eq ((by assumption : FR md_mo_addAdjective T34 T35).x 904 16 rfl).symm) (Int.le_of_eq ((by assumption : FR md_mo_addAdjective T34 T35).x 904 18 rfl).symm) (Int.le_of_eq ((by assumption : FR md_mo_addAdjective T34 T35).x 904 19 rfl).symm) (by omega) (Int.le_of_eq ((by assumption : FR md_mo_addAdjective T34 T35).x 904 30 rfl).symm) (Int.le_of_eq ((by assumption : FR md_mo_addAdjective T34 T35).x 904 32 rfl).symm) (Int.le_of_eq ((by assumption : FR md_mo_addAdjective T34 T35).x 904 41 rfl).symm) (Int.le_of_eq ((by assumption : FR md_mo_addAdjective T34 T35).x 904 47 rfl).symm) (Int.le_of_eq ((by assumption : FR md_mo_addAdjective T34 T35).x 904 49 rfl).symm) (fun i hi => ⟨(k245 i hi).2.1, ((by assumption : FR md_mo_addAdjective T34 T35).cx 923 rfl i).1, (k245 i hi).2.2⟩) (fun i _ => ((by assumption : FR md_mo_addAdjective T34 T35).cx 928 rfl i).1) (fun i _ => ((by assumption : FR md_mo_addAdjective T34 T35).cx 942 rfl i).1)) (by omega) (Or.inl ((by assumption : FR md_mo_addAdjective T34 T35).x 904 15 rfl))
  have D245 : ∀ a : Nat, (a : Int) < 2 → Xi T35 922 a ≠ -1 ∧ Xi T35 924 a = 0 := fun a ha => (by rcases (by omega : a = 0 ∨ a = 1) with q | q <;> subst q; exact ⟨by rw [c245.1]; decide, c245.2⟩; exact ⟨by rw [d245.1]; decide, d245.2⟩)
  refine l_pop rfl rfl ?_
  refine l_aload_n rfl rfl ?_
  refine l_iconst rfl ?_
  refine l_iconst rfl ?_
  refine l_ldcwR (i := 49) rfl rfl ?_
  have w1384 : Xi T35 904 117 = Xi T31 904 117 := (show Xi T35 904 117 = Xi T34 904 117 from w1383.x _ _ rfl).trans ( (show Xi T34 904 117 = Xi T33 904 117 from w1348.x _ _ rfl).trans ( (show Xi T33 904 117 = Xi T32 904 117 from w1313.x _ _ rfl).trans ((show Xi T32 904 117 = Xi T31 904 117 from w1279.x _ _ rfl))))
  have w1386 : Xi T35 904 125 = Xi T31 904 125 := (show Xi T35 904 125 = Xi T34 904 125 from w1383.x _ _ rfl).trans ( (show Xi T34 904 125 = Xi T33 904 125 from w1348.x _ _ rfl).trans ( (show Xi T33 904 125 = Xi T32 904 125 from w1313.x _ _ rfl).trans ((show Xi T32 904 125 = Xi T31 904 125 from w1279.x _ _ rfl))))
  have w1388 : Xi T35 904 130 = Xi T31 904 130 := (show Xi T35 904 130 = Xi T34 904 130 from w1383.x _ _ rfl).trans ( (show Xi T34 904 130 = Xi T33 904 130 from w1348.x _ _ rfl).trans ( (show Xi T33 904 130 = Xi T32 904 130 from w1313.x _ _ rfl).trans ((show Xi T32 904 130 = Xi T31 904 130 from w1279.x _ _ rfl))))
  have w1390 : Xi T35 904 15 = Xi T33 904 15 := (show Xi T35 904 15 = Xi T34 904 15 from w1383.x _ _ rfl).trans ((show Xi T34 904 15 = Xi T33 904 15 from w1348.x _ _ rfl))
  have w1392 : Xi T35 904 16 = Xi T31 904 16 := (show Xi T35 904 16 = Xi T34 904 16 from w1383.x _ _ rfl).trans ( (show Xi T34 904 16 = Xi T33 904 16 from w1348.x _ _ rfl).trans ( (show Xi T33 904 16 = Xi T32 904 16 from w1313.x _ _ rfl).trans ((show Xi T32 904 16 = Xi T31 904 16 from w1279.x _ _ rfl))))
  have w1394 : Xi T35 904 18 = Xi T31 904 18 := (show Xi T35 904 18 = Xi T34 904 18 from w1383.x _ _ rfl).trans ( (show Xi T34 904 18 = Xi T33 904 18 from w1348.x _ _ rfl).trans ( (show Xi T33 904 18 = Xi T32 904 18 from w1313.x _ _ rfl).trans ((show Xi T32 904 18 = Xi T31 904 18 from w1279.x _ _ rfl))))
  have w1396 : Xi T35 904 19 = Xi T31 904 19 := (show Xi T35 904 19 = Xi T34 904 19 from w1383.x _ _ rfl).trans ( (show Xi T34 904 19 = Xi T33 904 19 from w1348.x _ _ rfl).trans ( (show Xi T33 904 19 = Xi T32 904 19 from w1313.x _ _ rfl).trans ((show Xi T32 904 19 = Xi T31 904 19 from w1279.x _ _ rfl))))
  have w1398 : 0 ≤ Xi T35 904 23 ∧ Xi T35 904 23 ≤ 24 := hHT35.c _ _
  have w1399 : Xi T35 904 30 = Xi T31 904 30 := (show Xi T35 904 30 = Xi T34 904 30 from w1383.x _ _ rfl).trans ( (show Xi T34 904 30 = Xi T33 904 30 from w1348.x _ _ rfl).trans ( (show Xi T33 904 30 = Xi T32 904 30 from w1313.x _ _ rfl).trans ((show Xi T32 904 30 = Xi T31 904 30 from w1279.x _ _ rfl))))
  have w1401 : Xi T35 904 32 = Xi T31 904 32 := (show Xi T35 904 32 = Xi T34 904 32 from w1383.x _ _ rfl).trans ( (show Xi T34 904 32 = Xi T33 904 32 from w1348.x _ _ rfl).trans ( (show Xi T33 904 32 = Xi T32 904 32 from w1313.x _ _ rfl).trans ((show Xi T32 904 32 = Xi T31 904 32 from w1279.x _ _ rfl))))
  have w1403 : Xi T35 904 41 = Xi T31 904 41 := (show Xi T35 904 41 = Xi T34 904 41 from w1383.x _ _ rfl).trans ( (show Xi T34 904 41 = Xi T33 904 41 from w1348.x _ _ rfl).trans ( (show Xi T33 904 41 = Xi T32 904 41 from w1313.x _ _ rfl).trans ((show Xi T32 904 41 = Xi T31 904 41 from w1279.x _ _ rfl))))
  have w1405 : Xi T35 904 47 = Xi T31 904 47 := (show Xi T35 904 47 = Xi T34 904 47 from w1383.x _ _ rfl).trans ( (show Xi T34 904 47 = Xi T33 904 47 from w1348.x _ _ rfl).trans ( (show Xi T33 904 47 = Xi T32 904 47 from w1313.x _ _ rfl).trans ((show Xi T32 904 47 = Xi T31 904 47 from w1279.x _ _ rfl))))
  have w1407 : Xi T35 904 49 = Xi T31 904 49 := (show Xi T35 904 49 = Xi T34 904 49 from w1383.x _ _ rfl).trans ( (show Xi T34 904 49 = Xi T33 904 49 from w1348.x _ _ rfl).trans ( (show Xi T33 904 49 = Xi T32 904 49 from w1313.x _ _ rfl).trans ((show Xi T32 904 49 = Xi T31 904 49 from w1279.x _ _ rfl))))
  have w1409 : Xi T35 904 51 = Xi T31 904 51 := (show Xi T35 904 51 = Xi T34 904 51 from w1383.x _ _ rfl).trans ( (show Xi T34 904 51 = Xi T33 904 51 from w1348.x _ _ rfl).trans ( (show Xi T33 904 51 = Xi T32 904 51 from w1313.x _ _ rfl).trans ((show Xi T32 904 51 = Xi T31 904 51 from w1279.x _ _ rfl))))
  have w1411 : Xi T35 904 55 = Xi T31 904 55 := (show Xi T35 904 55 = Xi T34 904 55 from w1383.x _ _ rfl).trans ( (show Xi T34 904 55 = Xi T33 904 55 from w1348.x _ _ rfl).trans ( (show Xi T33 904 55 = Xi T32 904 55 from w1313.x _ _ rfl).trans ((show Xi T32 904 55 = Xi T31 904 55 from w1279.x _ _ rfl))))
  have w1413 : Xi T35 904 60 = Xi T31 904 60 := (show Xi T35 904 60 = Xi T34 904 60 from w1383.x _ _ rfl).trans ( (show Xi T34 904 60 = Xi T33 904 60 from w1348.x _ _ rfl).trans ( (show Xi T33 904 60 = Xi T32 904 60 from w1313.x _ _ rfl).trans ((show Xi T32 904 60 = Xi T31 904 60 from w1279.x _ _ rfl))))
  refine l_callV rfl rfl rfl (t_mo_tellWord hHT35 5 0 49 _ ⟨by omega, by omega⟩ ⟨by omega, by omega⟩ rfl (by first | assumption | omega) _) ?_
  rintro _ T36 ⟨hHT36, w1417, rfl, w1415, e255, k255⟩
  have hFT36 : FR md_mo_begin S T36 := FR.tr hFT35 w1417 rfl
  show Rl _ _ _ _ _ [] _ _
  have f255_23 : Xi T36 904 23 = Xi T35 904 23 := (by assumption : FR md_mo_tellWord T35 T36).x 904 23 rfl
  have M255 : LXM T36 := lxm_gr M245 k255 (GR_FR (by assumption : FR md_mo_tellWord T35 T36) rfl GR.rf) (by omega) (Or.inr ⟨by omega, by rw [e255.1, e255.2, cM5]; omega⟩)
  clear k255 e255
  refine l_aload_n rfl rfl ?_
  refine l_iconst rfl ?_
  refine l_iconst rfl ?_
  refine l_ldcwR (i := 50) rfl rfl ?_
  have w1418 : Xi T36 904 117 = Xi T31 904 117 := (show Xi T36 904 117 = Xi T35 904 117 from w1417.x _ _ rfl).trans ( (show Xi T35 904 117 = Xi T34 904 117 from w1383.x _ _ rfl).trans ( (show Xi T34 904 117 = Xi T33 904 117 from w1348.x _ _ rfl).trans ( (show Xi T33 904 117 = Xi T32 904 117 from w1313.x _ _ rfl).trans ((show Xi T32 904 117 = Xi T31 904 117 from w1279.x _ _ rfl)))))
  have w1420 : Xi T36 904 125 = Xi T31 904 125 := (show Xi T36 904 125 = Xi T35 904 125 from w1417.x _ _ rfl).trans ( (show Xi T35 904 125 = Xi T34 904 125 from w1383.x _ _ rfl).trans ( (show Xi T34 904 125 = Xi T33 904 125 from w1348.x _ _ rfl).trans ( (show Xi T33 904 125 = Xi T32 904 125 from w1313.x _ _ rfl).trans ((show Xi T32 904 125 = Xi T31 904 125 from w1279.x _ _ rfl)))))
  have w1422 : Xi T36 904 130 = Xi T31 904 130 := (show Xi T36 904 130 = Xi T35 904 130 from w1417.x _ _ rfl).trans ( (show Xi T35 904 130 = Xi T34 904 130 from w1383.x _ _ rfl).trans ( (show Xi T34 904 130 = Xi T33 904 130 from w1348.x _ _ rfl).trans ( (show Xi T33 904 130 = Xi T32 904 130 from w1313.x _ _ rfl).trans ((show Xi T32 904 130 = Xi T31 904 130 from w1279.x _ _ rfl)))))
  have w1424 : 0 ≤ Xi T36 904 15 ∧ Xi T36 904 15 ≤ 300 := hHT36.c _ _
  have w1425 : Xi T36 904 16 = Xi T31 904 16 := (show Xi T36 904 16 = Xi T35 904 16 from w1417.x _ _ rfl).trans ( (show Xi T35 904 16 = Xi T34 904 16 from w1383.x _ _ rfl).trans ( (show Xi T34 904 16 = Xi T33 904 16 from w1348.x _ _ rfl).trans ( (show Xi T33 904 16 = Xi T32 904 16 from w1313.x _ _ rfl).trans ((show Xi T32 904 16 = Xi T31 904 16 from w1279.x _ _ rfl)))))
  have w1427 : Xi T36 904 18 = Xi T31 904 18 := (show Xi T36 904 18 = Xi T35 904 18 from w1417.x _ _ rfl).trans ( (show Xi T35 904 18 = Xi T34 904 18 from w1383.x _ _ rfl).trans ( (show Xi T34 904 18 = Xi T33 904 18 from w1348.x _ _ rfl).trans ( (show Xi T33 904 18 = Xi T32 904 18 from w1313.x _ _ rfl).trans ((show Xi T32 904 18 = Xi T31 904 18 from w1279.x _ _ rfl)))))
  have w1429 : Xi T36 904 19 = Xi T31 904 19 := (show Xi T36 904 19 = Xi T35 904 19 from w1417.x _ _ rfl).trans ( (show Xi T35 904 19 = Xi T34 904 19 from w1383.x _ _ rfl).trans ( (show Xi T34 904 19 = Xi T33 904 19 from w1348.x _ _ rfl).trans ( (show Xi T33 904 19 = Xi T32 904 19 from w1313.x _ _ rfl).trans ((show Xi T32 904 19 = Xi T31 904 19 from w1279.x _ _ rfl)))))
  have w1431 : Xi T36 904 23 = Xi T35 904 23 := (show Xi T36 904 23 = Xi T35 904 23 from w1417.x _ _ rfl)
  have w1433 : Xi T36 904 30 = Xi T31 904 30 := (show Xi T36 904 30 = Xi T35 904 30 from w1417.x _ _ rfl).trans ( (show Xi T35 904 30 = Xi T34 904 30 from w1383.x _ _ rfl).trans ( (show Xi T34 904 30 = Xi T33 904 30 from w1348.x _ _ rfl).trans ( (show Xi T33 904 30 = Xi T32 904 30 from w1313.x _ _ rfl).trans ((show Xi T32 904 30 = Xi T31 904 30 from w1279.x _ _ rfl)))))
  have w1435 : Xi T36 904 32 = Xi T31 904 32 := (show Xi T36 904 32 = Xi T35 904 32 from w1417.x _ _ rfl).trans ( (show Xi T35 904 32 = Xi T34 904 32 from w1383.x _ _ rfl).trans ( (show Xi T34 904 32 = Xi T33 904 32 from w1348.x _ _ rfl).trans ( (show Xi T33 904 32 = Xi T32 904 32 from w1313.x _ _ rfl).trans ((show Xi T32 904 32 = Xi T31 904 32 from w1279.x _ _ rfl)))))
  have w1437 : Xi T36 904 41 = Xi T31 904 41 := (show Xi T36 904 41 = Xi T35 904 41 from w1417.x _ _ rfl).trans ( (show Xi T35 904 41 = Xi T34 904 41 from w1383.x _ _ rfl).trans ( (show Xi T34 904 41 = Xi T33 904 41 from w1348.x _ _ rfl).trans ( (show Xi T33 904 41 = Xi T32 904 41 from w1313.x _ _ rfl).trans ((show Xi T32 904 41 = Xi T31 904 41 from w1279.x _ _ rfl)))))
  have w1439 : Xi T36 904 47 = Xi T31 904 47 := (show Xi T36 904 47 = Xi T35 904 47 from w1417.x _ _ rfl).trans ( (show Xi T35 904 47 = Xi T34 904 47 from w1383.x _ _ rfl).trans ( (show Xi T34 904 47 = Xi T33 904 47 from w1348.x _ _ rfl).trans ( (show Xi T33 904 47 = Xi T32 904 47 from w1313.x _ _ rfl).trans ((show Xi T32 904 47 = Xi T31 904 47 from w1279.x _ _ rfl)))))
  have w1441 : Xi T36 904 49 = Xi T31 904 49 := (show Xi T36 904 49 = Xi T35 904 49 from w1417.x _ _ rfl).trans ( (show Xi T35 904 49 = Xi T34 904 49 from w1383.x _ _ rfl).trans ( (show Xi T34 904 49 = Xi T33 904 49 from w1348.x _ _ rfl).trans ( (show Xi T33 904 49 = Xi T32 904 49 from w1313.x _ _ rfl).trans ((show Xi T32 904 49 = Xi T31 904 49 from w1279.x _ _ rfl)))))
  have w1443 : Xi T36 904 51 = Xi T31 904 51 := (show Xi T36 904 51 = Xi T35 904 51 from w1417.x _ _ rfl).trans ( (show Xi T35 904 51 = Xi T34 904 51 from w1383.x _ _ rfl).trans ( (show Xi T34 904 51 = Xi T33 904 51 from w1348.x _ _ rfl).trans ( (show Xi T33 904 51 = Xi T32 904 51 from w1313.x _ _ rfl).trans ((show Xi T32 904 51 = Xi T31 904 51 from w1279.x _ _ rfl)))))
  have w1445 : Xi T36 904 55 = Xi T31 904 55 := (show Xi T36 904 55 = Xi T35 904 55 from w1417.x _ _ rfl).trans ( (show Xi T35 904 55 = Xi T34 904 55 from w1383.x _ _ rfl).trans ( (show Xi T34 904 55 = Xi T33 904 55 from w1348.x _ _ rfl).trans ( (show Xi T33 904 55 = Xi T32 904 55 from w1313.x _ _ rfl).trans ((show Xi T32 904 55 = Xi T31 904 55 from w1279.x _ _ rfl)))))
  have w1447 : Xi T36 904 60 = Xi T31 904 60 := (show Xi T36 904 60 = Xi T35 904 60 from w1417.x _ _ rfl).trans ( (show Xi T35 904 60 = Xi T34 904 60 from w1383.x _ _ rfl).trans ( (show Xi T34 904 60 = Xi T33 904 60 from w1348.x _ _ rfl).trans ( (show Xi T33 904 60 = Xi T32 904 60 from w1313.x _ _ rfl).trans ((show Xi T32 904 60 = Xi T31 904 60 from w1279.x _ _ rfl)))))
  refine l_callV rfl rfl rfl (t_mo_tellWord hHT36 5 1 50 _ ⟨by omega, by omega⟩ ⟨by omega, by omega⟩ rfl (by first | assumption | omega) _) ?_
  rintro _ T37 ⟨hHT37, w1451, rfl, w1449, e264, k264⟩
  have hFT37 : FR md_mo_begin S T37 := FR.tr hFT36 w1451 rfl
  show Rl _ _ _ _ _ [] _ _
  have f264_23 : Xi T37 904 23 = Xi T36 904 23 := (by assumption : FR md_mo_tellWord T36 T37).x 904 23 rfl
  have M264 : LXM T37 := lxm_gr M255 k264 (GR_FR (by assumption : FR md_mo_tellWord T36 T37) rfl GR.rf) (by omega) (Or.inr ⟨by omega, by rw [e264.1, e264.2, cM5]; omega⟩)
  clear k264 e264
  have w1452 : Xi T37 904 117 = Xi T31 904 117 := (show Xi T37 904 117 = Xi T36 904 117 from w1451.x _ _ rfl).trans ( (show Xi T36 904 117 = Xi T35 904 117 from w1417.x _ _ rfl).trans ( (show Xi T35 904 117 = Xi T34 904 117 from w1383.x _ _ rfl).trans ( (show Xi T34 904 117 = Xi T33 904 117 from w1348.x _ _ rfl).trans ( (show Xi T33 904 117 = Xi T32 904 117 from w1313.x _ _ rfl).trans ((show Xi T32 904 117 = Xi T31 904 117 from w1279.x _ _ rfl))))))
  have w1454 : Xi T37 904 125 = Xi T31 904 125 := (show Xi T37 904 125 = Xi T36 904 125 from w1451.x _ _ rfl).trans ( (show Xi T36 904 125 = Xi T35 904 125 from w1417.x _ _ rfl).trans ( (show Xi T35 904 125 = Xi T34 904 125 from w1383.x _ _ rfl).trans ( (show Xi T34 904 125 = Xi T33 904 125 from w1348.x _ _ rfl).trans ( (show Xi T33 904 125 = Xi T32 904 125 from w1313.x _ _ rfl).trans ((show Xi T32 904 125 = Xi T31 904 125 from w1279.x _ _ rfl))))))
  have w1456 : Xi T37 904 130 = Xi T31 904 130 := (show Xi T37 904 130 = Xi T36 904 130 from w1451.x _ _ rfl).trans ( (show Xi T36 904 130 = Xi T35 904 130 from w1417.x _ _ rfl).trans ( (show Xi T35 904 130 = Xi T34 904 130 from w1383.x _ _ rfl).trans ( (show Xi T34 904 130 = Xi T33 904 130 from w1348.x _ _ rfl).trans ( (show Xi T33 904 130 = Xi T32 904 130 from w1313.x _ _ rfl).trans ((show Xi T32 904 130 = Xi T31 904 130 from w1279.x _ _ rfl))))))
  have w1458 : 0 ≤ Xi T37 904 15 ∧ Xi T37 904 15 ≤ 300 := hHT37.c _ _
  have w1459 : Xi T37 904 16 = Xi T31 904 16 := (show Xi T37 904 16 = Xi T36 904 16 from w1451.x _ _ rfl).trans ( (show Xi T36 904 16 = Xi T35 904 16 from w1417.x _ _ rfl).trans ( (show Xi T35 904 16 = Xi T34 904 16 from w1383.x _ _ rfl).trans ( (show Xi T34 904 16 = Xi T33 904 16 from w1348.x _ _ rfl).trans ( (show Xi T33 904 16 = Xi T32 904 16 from w1313.x _ _ rfl).trans ((show Xi T32 904 16 = Xi T31 904 16 from w1279.x _ _ rfl))))))
  have w1461 : Xi T37 904 18 = Xi T31 904 18 := (show Xi T37 904 18 = Xi T36 904 18 from w1451.x _ _ rfl).trans ( (show Xi T36 904 18 = Xi T35 904 18 from w1417.x _ _ rfl).trans ( (show Xi T35 904 18 = Xi T34 904 18 from w1383.x _ _ rfl).trans ( (show Xi T34 904 18 = Xi T33 904 18 from w1348.x _ _ rfl).trans ( (show Xi T33 904 18 = Xi T32 904 18 from w1313.x _ _ rfl).trans ((show Xi T32 904 18 = Xi T31 904 18 from w1279.x _ _ rfl))))))
  have w1463 : Xi T37 904 19 = Xi T31 904 19 := (show Xi T37 904 19 = Xi T36 904 19 from w1451.x _ _ rfl).trans ( (show Xi T36 904 19 = Xi T35 904 19 from w1417.x _ _ rfl).trans ( (show Xi T35 904 19 = Xi T34 904 19 from w1383.x _ _ rfl).trans ( (show Xi T34 904 19 = Xi T33 904 19 from w1348.x _ _ rfl).trans ( (show Xi T33 904 19 = Xi T32 904 19 from w1313.x _ _ rfl).trans ((show Xi T32 904 19 = Xi T31 904 19 from w1279.x _ _ rfl))))))
  have w1465 : Xi T37 904 23 = Xi T35 904 23 := (show Xi T37 904 23 = Xi T36 904 23 from w1451.x _ _ rfl).trans ((show Xi T36 904 23 = Xi T35 904 23 from w1417.x _ _ rfl))
  have w1467 : Xi T37 904 30 = Xi T31 904 30 := (show Xi T37 904 30 = Xi T36 904 30 from w1451.x _ _ rfl).trans ( (show Xi T36 904 30 = Xi T35 904 30 from w1417.x _ _ rfl).trans ( (show Xi T35 904 30 = Xi T34 904 30 from w1383.x _ _ rfl).trans ( (show Xi T34 904 30 = Xi T33 904 30 from w1348.x _ _ rfl).trans ( (show Xi T33 904 30 = Xi T32 904 30 from w1313.x _ _ rfl).trans ((show Xi T32 904 30 = Xi T31 904 30 from w1279.x _ _ rfl))))))
  have w1469 : Xi T37 904 32 = Xi T31 904 32 := (show Xi T37 904 32 = Xi T36 904 32 from w1451.x _ _ rfl).trans ( (show Xi T36 904 32 = Xi T35 904 32 from w1417.x _ _ rfl).trans ( (show Xi T35 904 32 = Xi T34 904 32 from w1383.x _ _ rfl).trans ( (show Xi T34 904 32 = Xi T33 904 32 from w1348.x _ _ rfl).trans ( (show Xi T33 904 32 = Xi T32 904 32 from w1313.x _ _ rfl).trans ((show Xi T32 904 32 = Xi T31 904 32 from w1279.x _ _ rfl))))))
  have w1471 : Xi T37 904 41 = Xi T31 904 41 := (show Xi T37 904 41 = Xi T36 904 41 from w1451.x _ _ rfl).trans ( (show Xi T36 904 41 = Xi T35 904 41 from w1417.x _ _ rfl).trans ( (show Xi T35 904 41 = Xi T34 904 41 from w1383.x _ _ rfl).trans ( (show Xi T34 904 41 = Xi T33 904 41 from w1348.x _ _ rfl).trans ( (show Xi T33 904 41 = Xi T32 904 41 from w1313.x _ _ rfl).trans ((show Xi T32 904 41 = Xi T31 904 41 from w1279.x _ _ rfl))))))
  have w1473 : Xi T37 904 47 = Xi T31 904 47 := (show Xi T37 904 47 = Xi T36 904 47 from w1451.x _ _ rfl).trans ( (show Xi T36 904 47 = Xi T35 904 47 from w1417.x _ _ rfl).trans ( (show Xi T35 904 47 = Xi T34 904 47 from w1383.x _ _ rfl).trans ( (show Xi T34 904 47 = Xi T33 904 47 from w1348.x _ _ rfl).trans ( (show Xi T33 904 47 = Xi T32 904 47 from w1313.x _ _ rfl).trans ((show Xi T32 904 47 = Xi T31 904 47 from w1279.x _ _ rfl))))))
  have w1475 : Xi T37 904 49 = Xi T31 904 49 := (show Xi T37 904 49 = Xi T36 904 49 from w1451.x _ _ rfl).trans ( (show Xi T36 904 49 = Xi T35 904 49 from w1417.x _ _ rfl).trans ( (show Xi T35 904 49 = Xi T34 904 49 from w1383.x _ _ rfl).trans ( (show Xi T34 904 49 = Xi T33 904 49 from w1348.x _ _ rfl).trans ( (show Xi T33 904 49 = Xi T32 904 49 from w1313.x _ _ rfl).trans ((show Xi T32 904 49 = Xi T31 904 49 from w1279.x _ _ rfl))))))
  have w1477 : Xi T37 904 51 = Xi T31 904 51 := (show Xi T37 904 51 = Xi T36 904 51 from w1451.x _ _ rfl).trans ( (show Xi T36 904 51 = Xi T35 904 51 from w1417.x _ _ rfl).trans ( (show Xi T35 904 51 = Xi T34 904 51 from w1383.x _ _ rfl).trans ( (show Xi T34 904 51 = Xi T33 904 51 from w1348.x _ _ rfl).trans ( (show Xi T33 904 51 = Xi T32 904 51 from w1313.x _ _ rfl).trans ((show Xi T32 904 51 = Xi T31 904 51 from w1279.x _ _ rfl))))))
  have w1479 : Xi T37 904 55 = Xi T31 904 55 := (show Xi T37 904 55 = Xi T36 904 55 from w1451.x _ _ rfl).trans ( (show Xi T36 904 55 = Xi T35 904 55 from w1417.x _ _ rfl).trans ( (show Xi T35 904 55 = Xi T34 904 55 from w1383.x _ _ rfl).trans ( (show Xi T34 904 55 = Xi T33 904 55 from w1348.x _ _ rfl).trans ( (show Xi T33 904 55 = Xi T32 904 55 from w1313.x _ _ rfl).trans ((show Xi T32 904 55 = Xi T31 904 55 from w1279.x _ _ rfl))))))
  have w1481 : Xi T37 904 60 = Xi T31 904 60 := (show Xi T37 904 60 = Xi T36 904 60 from w1451.x _ _ rfl).trans ( (show Xi T36 904 60 = Xi T35 904 60 from w1417.x _ _ rfl).trans ( (show Xi T35 904 60 = Xi T34 904 60 from w1383.x _ _ rfl).trans ( (show Xi T34 904 60 = Xi T33 904 60 from w1348.x _ _ rfl).trans ( (show Xi T33 904 60 = Xi T32 904 60 from w1313.x _ _ rfl).trans ((show Xi T32 904 60 = Xi T31 904 60 from w1279.x _ _ rfl))))))
  exact Rl_weak (C267 T37 hHT37 hFT37  (by omega) (by omega) (by omega) (by omega) (by omega) (by omega) (by omega) (by omega) (by omega) (by omega) (by omega) (by omega) (by omega) (by omega) (by omega) (by omega) (by first | assumption | exact (ABV_FR w1451 rfl (ABV_FR w1417 rfl (ABV_FR w1383 rfl (ABV_FR w1348 rfl (ABV_FR w1313 rfl (ABV_FR w1279 rfl (by assumption : ABV T31)))))))) (by first | assumption | exact (WYM_FR w1451 rfl (WYM_FR w1417 rfl (WYM_FR w1383 rfl (WYM_FR w1348 rfl (WYM_FR w1313 rfl (WYM_FR w1279 rfl (by assumption : WYM T31)))))))) (by first | assumption | exact (TXM_FR w1451 rfl (TXM_FR w1417 rfl (TXM_FR w1383 rfl (TXM_FR w1348 rfl (TXM_FR w1313 rfl (TXM_FR w1279 rfl (by assumption : TXM T31)))))))) (M264) (fun j hj => ((fun j => ((w1451).cx 933 rfl j).1.trans (((w1417).cx 933 rfl j).1.trans (((w1383).cx 933 rfl j).1.trans (((w1348).cx 933 rfl j).1.trans (((w1313).cx 933 rfl j).1.trans (((w1279).cx 933 rfl j).1)))))) j).trans (Z217 j hj)) (fun a ha => by rw [(fun j => ((w1451).cx 922 rfl j).1.trans (((w1417).cx 922 rfl j).1)) a, (fun j => ((w1451).cx 924 rfl j).1.trans (((w1417).cx 924 rfl j).1)) a]; exact D245 a ha)) (And.intro rfl (True.intro))
set_option maxRecDepth 100000 in
set_option maxHeartbeats 4000000 in
theorem c87_mo_begin {S : sS} (hH : HI S) (hB : ABV S) (hW : WYM S) (d : Nat) : ∀ (n87 : Nat) (T38 : sS) (_ : HI T38) (_ : FR md_mo_begin S T38) (v1 : Int), (0 ≤ v1 ∧ v1 ≤ 5) → (Xi T38 904 16 = v1) → (Xi T38 904 18 = 2) → (Xi T38 904 19 = 0) → (Xi T38 904 23 = 0) → (Xi T38 904 30 = 0) → (Xi T38 904 32 = 1) → (Xi T38 904 41 = 0) → (Xi T38 904 47 = 0) → (Xi T38 904 49 = 0) → (Xi T38 904 51 = 0) → (Xi T38 904 55 = 0) → (Xi T38 904 60 = -1) → (Xi T38 904 117 = 0) → (Xi T38 904 125 = 0) → (Xi T38 904 130 = 0) → (Xi T38 904 15 = 2 * v1) → (ABV T38) → (WYM T38) → (TXM T38) → (LXM T38) → (∀ j : Nat, (j : Int) < 12 * v1 → Xi T38 933 j = 0) → n87 = (6 - v1).toNat → Rl lay0 (d + 5) m_mo_begin 87 [(0, .ref 904), (1, iv v1)] [] T38 (Q_mo_begin S) := by
  have C217 := c217_mo_begin hH hB hW d 
  have hF : FR md_mo_begin S S := FR.rf
  have w1 : 0 ≤ Xi S 904 117 ∧ Xi S 904 117 ≤ 480 := hH.c _ _
  have w2 : 0 ≤ Xi S 904 125 ∧ Xi S 904 125 ≤ 192 := hH.c _ _
  have w3 : 0 ≤ Xi S 904 130 ∧ Xi S 904 130 ≤ 24 := hH.c _ _
  have w4 : 0 ≤ Xi S 904 15 ∧ Xi S 904 15 ≤ 300 := hH.c _ _
  have w5 : 0 ≤ Xi S 904 16 ∧ Xi S 904 16 ≤ 16 := hH.c _ _
  have w6 : 0 ≤ Xi S 904 18 ∧ Xi S 904 18 ≤ 8 := hH.c _ _
  have w7 : 0 ≤ Xi S 904 19 ∧ Xi S 904 19 ≤ 24 := hH.c _ _
  have w8 : 0 ≤ Xi S 904 23 ∧ Xi S 904 23 ≤ 24 := hH.c _ _
  have w9 : 0 ≤ Xi S 904 30 ∧ Xi S 904 30 ≤ 64 := hH.c _ _
  have w10 : 0 ≤ Xi S 904 32 ∧ Xi S 904 32 ≤ 12 := hH.c _ _
  have w11 : 0 ≤ Xi S 904 41 ∧ Xi S 904 41 ≤ 6 := hH.c _ _
  have w12 : 0 ≤ Xi S 904 47 ∧ Xi S 904 47 ≤ 8 := hH.c _ _
  have w13 : 0 ≤ Xi S 904 49 ∧ Xi S 904 49 ≤ 12 := hH.c _ _
  have w14 : 0 ≤ Xi S 904 51 ∧ Xi S 904 51 ≤ 200 := hH.c _ _
  have w15 : 0 ≤ Xi S 904 55 ∧ Xi S 904 55 ≤ 20 := hH.c _ _
  have w16 : -1 ≤ Xi S 904 60 ∧ Xi S 904 60 ≤ 23 := hH.c _ _
  intro n87
  induction n87 using Nat.strongRecOn with
  | ind n87 ih87 =>
    intro T38 hHT38 hFT38 v1 w1483 w1484 w1485 w1486 w1487 w1488 w1489 w1490 w1491 w1492 w1493 w1494 w1495 w1496 w1497 w1498 w1499 B87 W87 X87 M87 Z87 hm87
    have w1500 : 0 ≤ Xi T38 904 117 ∧ Xi T38 904 117 ≤ 480 := hHT38.c _ _
    have w1501 : 0 ≤ Xi T38 904 125 ∧ Xi T38 904 125 ≤ 192 := hHT38.c _ _
    have w1502 : 0 ≤ Xi T38 904 130 ∧ Xi T38 904 130 ≤ 24 := hHT38.c _ _
    have w1503 : 0 ≤ Xi T38 904 15 ∧ Xi T38 904 15 ≤ 300 := hHT38.c _ _
    have w1504 : 0 ≤ Xi T38 904 16 ∧ Xi T38 904 16 ≤ 16 := hHT38.c _ _
    have w1505 : 0 ≤ Xi T38 904 18 ∧ Xi T38 904 18 ≤ 8 := hHT38.c _ _
    have w1506 : 0 ≤ Xi T38 904 19 ∧ Xi T38 904 19 ≤ 24 := hHT38.c _ _
    have w1507 : 0 ≤ Xi T38 904 23 ∧ Xi T38 904 23 ≤ 24 := hHT38.c _ _
    have w1508 : 0 ≤ Xi T38 904 30 ∧ Xi T38 904 30 ≤ 64 := hHT38.c _ _
    have w1509 : 0 ≤ Xi T38 904 32 ∧ Xi T38 904 32 ≤ 12 := hHT38.c _ _
    have w1510 : 0 ≤ Xi T38 904 41 ∧ Xi T38 904 41 ≤ 6 := hHT38.c _ _
    have w1511 : 0 ≤ Xi T38 904 47 ∧ Xi T38 904 47 ≤ 8 := hHT38.c _ _
    have w1512 : 0 ≤ Xi T38 904 49 ∧ Xi T38 904 49 ≤ 12 := hHT38.c _ _
    have w1513 : 0 ≤ Xi T38 904 51 ∧ Xi T38 904 51 ≤ 200 := hHT38.c _ _
    have w1514 : 0 ≤ Xi T38 904 55 ∧ Xi T38 904 55 ≤ 20 := hHT38.c _ _
    have w1515 : -1 ≤ Xi T38 904 60 ∧ Xi T38 904 60 ≤ 23 := hHT38.c _ _
    have C159 : ∀  (T39 : sS) (_ : HI T39) (_ : FR md_mo_begin S T39) (v1 : Int), (0 ≤ v1 ∧ v1 ≤ 4) → (Xi T39 904 16 = v1 + 1) → (Xi T39 904 18 = 2) → (Xi T39 904 19 = 0) → (Xi T39 904 23 = 0) → (Xi T39 904 30 = 0) → (Xi T39 904 32 = 1) → (Xi T39 904 41 = 0) → (Xi T39 904 47 = 0) → (Xi T39 904 49 = 0) → (Xi T39 904 51 = 0) → (Xi T39 904 55 = 0) → (Xi T39 904 60 = -1) → (Xi T39 904 117 = 0) → (Xi T39 904 125 = 0) → (Xi T39 904 130 = 0) → (v1 ≤ 4) → (Xi T39 904 15 = 2 * v1 + 1) → (ABV T39) → (WYM T39) → (TXM T39) → (LXM T39) → (∀ j : Nat, (j : Int) < 12 * (v1 + 1) → Xi T39 933 j = 0) → ((6 - v1).toNat ≤ n87) → Rl lay0 (d + 5) m_mo_begin 159 [(0, .ref 904), (1, iv v1)] [] T39 (Q_mo_begin S) := by
      intro T39 hHT39 hFT39 v1 w1516 w1517 w1518 w1519 w1520 w1521 w1522 w1523 w1524 w1525 w1526 w1527 w1528 w1529 w1530 w1531 w1532 w1533 B159 W159 X159 M159 Z159 w1534
      have w1535 : 0 ≤ Xi T39 904 117 ∧ Xi T39 904 117 ≤ 480 := hHT39.c _ _
      have w1536 : 0 ≤ Xi T39 904 125 ∧ Xi T39 904 125 ≤ 192 := hHT39.c _ _
      have w1537 : 0 ≤ Xi T39 904 130 ∧ Xi T39 904 130 ≤ 24 := hHT39.c _ _
      have w1538 : 0 ≤ Xi T39 904 15 ∧ Xi T39 904 15 ≤ 300 := hHT39.c _ _
      have w1539 : 0 ≤ Xi T39 904 16 ∧ Xi T39 904 16 ≤ 16 := hHT39.c _ _
      have w1540 : 0 ≤ Xi T39 904 18 ∧ Xi T39 904 18 ≤ 8 := hHT39.c _ _
      have w1541 : 0 ≤ Xi T39 904 19 ∧ Xi T39 904 19 ≤ 24 := hHT39.c _ _
      have w1542 : 0 ≤ Xi T39 904 23 ∧ Xi T39 904 23 ≤ 24 := hHT39.c _ _
      have w1543 : 0 ≤ Xi T39 904 30 ∧ Xi T39 904 30 ≤ 64 := hHT39.c _ _
      have w1544 : 0 ≤ Xi T39 904 32 ∧ Xi T39 904 32 ≤ 12 := hHT39.c _ _
      have w1545 : 0 ≤ Xi T39 904 41 ∧ Xi T39 904 41 ≤ 6 := hHT39.c _ _
      have w1546 : 0 ≤ Xi T39 904 47 ∧ Xi T39 904 47 ≤ 8 := hHT39.c _ _
      have w1547 : 0 ≤ Xi T39 904 49 ∧ Xi T39 904 49 ≤ 12 := hHT39.c _ _
      have w1548 : 0 ≤ Xi T39 904 51 ∧ Xi T39 904 51 ≤ 200 := hHT39.c _ _
      have w1549 : 0 ≤ Xi T39 904 55 ∧ Xi T39 904 55 ≤ 20 := hHT39.c _ _
      have w1550 : -1 ≤ Xi T39 904 60 ∧ Xi T39 904 60 ≤ 23 := hHT39.c _ _
      refine l_aload_n rfl rfl ?_
      refine l_iconst rfl ?_
      refine l_iload_n rfl rfl ?_
      refine l_iload_n rfl rfl ?_
      refine l_if_ne rfl rfl (by unfold rg; omega) (fun w1551 => ?_) (fun w1552 => ?_)
      · refine l_iload_n rfl rfl ?_
        refine l_iconst rfl ?_
        refine l_icmp_ne rfl rfl (by unfold rg; omega) (by unfold rg; omega) (fun w1553 => ?_) (fun w1554 => ?_)
        · refine l_iload_n rfl rfl ?_
          refine l_iconst rfl ?_
          refine l_icmp_ne rfl rfl (by unfold rg; omega) (by unfold rg; omega) (fun w1555 => ?_) (fun w1556 => ?_)
          · refine l_iload_n rfl rfl ?_
            refine l_iconst rfl ?_
            refine l_icmp_ne rfl rfl (by unfold rg; omega) (by unfold rg; omega) (fun w1557 => ?_) (fun w1558 => ?_)
            · refine l_ldcwR (i := 46) rfl rfl ?_
              refine l_callV rfl rfl rfl (t_mo_tellWord hHT39 1 v1 46 _ ⟨by omega, by omega⟩ ⟨by omega, by omega⟩ rfl (by first | assumption | omega) _) ?_
              rintro _ T40 ⟨hHT40, w1577, rfl, w1575, e208, k208⟩
              have hFT40 : FR md_mo_begin S T40 := FR.tr hFT39 w1577 rfl
              show Rl _ _ _ _ _ [] _ _
              have f208_16 : Xi T40 904 16 = Xi T39 904 16 := (by assumption : FR md_mo_tellWord T39 T40).x 904 16 rfl
              have M208 : LXM T40 := lxm_gr M159 k208 (GR_FR (by assumption : FR md_mo_tellWord T39 T40) rfl GR.rf) (by omega) (Or.inr ⟨by omega, by rw [e208.1, e208.2, cM1]; omega⟩)
              clear k208 e208
              refine l_iinc rfl rfl rfl rfl ?_
              refine l_goto rfl rfl ?_
              have w1578 : Xi T40 904 117 = Xi T39 904 117 := (show Xi T40 904 117 = Xi T39 904 117 from w1577.x _ _ rfl)
              have w1580 : Xi T40 904 125 = Xi T39 904 125 := (show Xi T40 904 125 = Xi T39 904 125 from w1577.x _ _ rfl)
              have w1582 : Xi T40 904 130 = Xi T39 904 130 := (show Xi T40 904 130 = Xi T39 904 130 from w1577.x _ _ rfl)
              have w1584 : 0 ≤ Xi T40 904 15 ∧ Xi T40 904 15 ≤ 300 := hHT40.c _ _
              have w1585 : Xi T40 904 16 = Xi T39 904 16 := (show Xi T40 904 16 = Xi T39 904 16 from w1577.x _ _ rfl)
              have w1587 : Xi T40 904 18 = Xi T39 904 18 := (show Xi T40 904 18 = Xi T39 904 18 from w1577.x _ _ rfl)
              have w1589 : Xi T40 904 19 = Xi T39 904 19 := (show Xi T40 904 19 = Xi T39 904 19 from w1577.x _ _ rfl)
              have w1591 : Xi T40 904 23 = Xi T39 904 23 := (show Xi T40 904 23 = Xi T39 904 23 from w1577.x _ _ rfl)
              have w1593 : Xi T40 904 30 = Xi T39 904 30 := (show Xi T40 904 30 = Xi T39 904 30 from w1577.x _ _ rfl)
              have w1595 : Xi T40 904 32 = Xi T39 904 32 := (show Xi T40 904 32 = Xi T39 904 32 from w1577.x _ _ rfl)
              have w1597 : Xi T40 904 41 = Xi T39 904 41 := (show Xi T40 904 41 = Xi T39 904 41 from w1577.x _ _ rfl)
              have w1599 : Xi T40 904 47 = Xi T39 904 47 := (show Xi T40 904 47 = Xi T39 904 47 from w1577.x _ _ rfl)
              have w1601 : Xi T40 904 49 = Xi T39 904 49 := (show Xi T40 904 49 = Xi T39 904 49 from w1577.x _ _ rfl)
              have w1603 : Xi T40 904 51 = Xi T39 904 51 := (show Xi T40 904 51 = Xi T39 904 51 from w1577.x _ _ rfl)
              have w1605 : Xi T40 904 55 = Xi T39 904 55 := (show Xi T40 904 55 = Xi T39 904 55 from w1577.x _ _ rfl)
              have w1607 : Xi T40 904 60 = Xi T39 904 60 := (show Xi T40 904 60 = Xi T39 904 60 from w1577.x _ _ rfl)
              exact Rl_weak (ih87 _ (by omega) T40 hHT40 hFT40 ((v1 + 1)) (by omega) (by omega) (by omega) (by omega) (by omega) (by omega) (by omega) (by omega) (by omega) (by omega) (by omega) (by omega) (by omega) (by omega) (by omega) (by omega) (by omega) (by first | assumption | exact (ABV_FR w1577 rfl (by assumption : ABV T39))) (by first | assumption | exact (WYM_FR w1577 rfl (by assumption : WYM T39))) (by first | assumption | exact (TXM_FR w1577 rfl (by assumption : TXM T39)) | exact txm_00 (by omega) (fun j hj => absurd hj (by omega))) (by first | assumption | exact lxm_0 (by omega)) (by first | exact fun j hj => absurd hj (by omega) | exact fun j hj => ((by assumption : FR md_mo_tellWord T39 T40).cx 933 rfl j).1.trans (Z159 j hj)) rfl) (And.intro rfl (And.intro rfl (True.intro)))
            · refine l_ldcwR (i := 45) rfl rfl ?_
              refine l_goto rfl rfl ?_
              refine l_callV rfl rfl rfl (t_mo_tellWord hHT39 1 v1 45 _ ⟨by omega, by omega⟩ ⟨by omega, by omega⟩ rfl (by first | assumption | omega) _) ?_
              rintro _ T41 ⟨hHT41, w1627, rfl, w1625, e208, k208⟩
              have hFT41 : FR md_mo_begin S T41 := FR.tr hFT39 w1627 rfl
              show Rl _ _ _ _ _ [] _ _
              have f208_16 : Xi T41 904 16 = Xi T39 904 16 := (by assumption : FR md_mo_tellWord T39 T41).x 904 16 rfl
              have M208 : LXM T41 := lxm_gr M159 k208 (GR_FR (by assumption : FR md_mo_tellWord T39 T41) rfl GR.rf) (by omega) (Or.inr ⟨by omega, by rw [e208.1, e208.2, cM1]; omega⟩)
              clear k208 e208
              refine l_iinc rfl rfl rfl rfl ?_
              refine l_goto rfl rfl ?_
              have w1628 : Xi T41 904 117 = Xi T39 904 117 := (show Xi T41 904 117 = Xi T39 904 117 from w1627.x _ _ rfl)
              have w1630 : Xi T41 904 125 = Xi T39 904 125 := (show Xi T41 904 125 = Xi T39 904 125 from w1627.x _ _ rfl)
              have w1632 : Xi T41 904 130 = Xi T39 904 130 := (show Xi T41 904 130 = Xi T39 904 130 from w1627.x _ _ rfl)
              have w1634 : 0 ≤ Xi T41 904 15 ∧ Xi T41 904 15 ≤ 300 := hHT41.c _ _
              have w1635 : Xi T41 904 16 = Xi T39 904 16 := (show Xi T41 904 16 = Xi T39 904 16 from w1627.x _ _ rfl)
              have w1637 : Xi T41 904 18 = Xi T39 904 18 := (show Xi T41 904 18 = Xi T39 904 18 from w1627.x _ _ rfl)
              have w1639 : Xi T41 904 19 = Xi T39 904 19 := (show Xi T41 904 19 = Xi T39 904 19 from w1627.x _ _ rfl)
              have w1641 : Xi T41 904 23 = Xi T39 904 23 := (show Xi T41 904 23 = Xi T39 904 23 from w1627.x _ _ rfl)
              have w1643 : Xi T41 904 30 = Xi T39 904 30 := (show Xi T41 904 30 = Xi T39 904 30 from w1627.x _ _ rfl)
              have w1645 : Xi T41 904 32 = Xi T39 904 32 := (show Xi T41 904 32 = Xi T39 904 32 from w1627.x _ _ rfl)
              have w1647 : Xi T41 904 41 = Xi T39 904 41 := (show Xi T41 904 41 = Xi T39 904 41 from w1627.x _ _ rfl)
              have w1649 : Xi T41 904 47 = Xi T39 904 47 := (show Xi T41 904 47 = Xi T39 904 47 from w1627.x _ _ rfl)
              have w1651 : Xi T41 904 49 = Xi T39 904 49 := (show Xi T41 904 49 = Xi T39 904 49 from w1627.x _ _ rfl)
              have w1653 : Xi T41 904 51 = Xi T39 904 51 := (show Xi T41 904 51 = Xi T39 904 51 from w1627.x _ _ rfl)
              have w1655 : Xi T41 904 55 = Xi T39 904 55 := (show Xi T41 904 55 = Xi T39 904 55 from w1627.x _ _ rfl)
              have w1657 : Xi T41 904 60 = Xi T39 904 60 := (show Xi T41 904 60 = Xi T39 904 60 from w1627.x _ _ rfl)
              exact Rl_weak (ih87 _ (by omega) T41 hHT41 hFT41 ((v1 + 1)) (by omega) (by omega) (by omega) (by omega) (by omega) (by omega) (by omega) (by omega) (by omega) (by omega) (by omega) (by omega) (by omega) (by omega) (by omega) (by omega) (by omega) (by first | assumption | exact (ABV_FR w1627 rfl (by assumption : ABV T39))) (by first | assumption | exact (WYM_FR w1627 rfl (by assumption : WYM T39))) (by first | assumption | exact (TXM_FR w1627 rfl (by assumption : TXM T39)) | exact txm_00 (by omega) (fun j hj => absurd hj (by omega))) (by first | assumption | exact lxm_0 (by omega)) (by first | exact fun j hj => absurd hj (by omega) | exact fun j hj => ((by assumption : FR md_mo_tellWord T39 T41).cx 933 rfl j).1.trans (Z159 j hj)) rfl) (And.intro rfl (And.intro rfl (True.intro)))
          · refine l_ldcwR (i := 44) rfl rfl ?_
            refine l_goto rfl rfl ?_
            refine l_callV rfl rfl rfl (t_mo_tellWord hHT39 1 v1 44 _ ⟨by omega, by omega⟩ ⟨by omega, by omega⟩ rfl (by first | assumption | omega) _) ?_
            rintro _ T42 ⟨hHT42, w1677, rfl, w1675, e208, k208⟩
            have hFT42 : FR md_mo_begin S T42 := FR.tr hFT39 w1677 rfl
            show Rl _ _ _ _ _ [] _ _
            have f208_16 : Xi T42 904 16 = Xi T39 904 16 := (by assumption : FR md_mo_tellWord T39 T42).x 904 16 rfl
            have M208 : LXM T42 := lxm_gr M159 k208 (GR_FR (by assumption : FR md_mo_tellWord T39 T42) rfl GR.rf) (by omega) (Or.inr ⟨by omega, by rw [e208.1, e208.2, cM1]; omega⟩)
            clear k208 e208
            refine l_iinc rfl rfl rfl rfl ?_
            refine l_goto rfl rfl ?_
            have w1678 : Xi T42 904 117 = Xi T39 904 117 := (show Xi T42 904 117 = Xi T39 904 117 from w1677.x _ _ rfl)
            have w1680 : Xi T42 904 125 = Xi T39 904 125 := (show Xi T42 904 125 = Xi T39 904 125 from w1677.x _ _ rfl)
            have w1682 : Xi T42 904 130 = Xi T39 904 130 := (show Xi T42 904 130 = Xi T39 904 130 from w1677.x _ _ rfl)
            have w1684 : 0 ≤ Xi T42 904 15 ∧ Xi T42 904 15 ≤ 300 := hHT42.c _ _
            have w1685 : Xi T42 904 16 = Xi T39 904 16 := (show Xi T42 904 16 = Xi T39 904 16 from w1677.x _ _ rfl)
            have w1687 : Xi T42 904 18 = Xi T39 904 18 := (show Xi T42 904 18 = Xi T39 904 18 from w1677.x _ _ rfl)
            have w1689 : Xi T42 904 19 = Xi T39 904 19 := (show Xi T42 904 19 = Xi T39 904 19 from w1677.x _ _ rfl)
            have w1691 : Xi T42 904 23 = Xi T39 904 23 := (show Xi T42 904 23 = Xi T39 904 23 from w1677.x _ _ rfl)
            have w1693 : Xi T42 904 30 = Xi T39 904 30 := (show Xi T42 904 30 = Xi T39 904 30 from w1677.x _ _ rfl)
            have w1695 : Xi T42 904 32 = Xi T39 904 32 := (show Xi T42 904 32 = Xi T39 904 32 from w1677.x _ _ rfl)
            have w1697 : Xi T42 904 41 = Xi T39 904 41 := (show Xi T42 904 41 = Xi T39 904 41 from w1677.x _ _ rfl)
            have w1699 : Xi T42 904 47 = Xi T39 904 47 := (show Xi T42 904 47 = Xi T39 904 47 from w1677.x _ _ rfl)
            have w1701 : Xi T42 904 49 = Xi T39 904 49 := (show Xi T42 904 49 = Xi T39 904 49 from w1677.x _ _ rfl)
            have w1703 : Xi T42 904 51 = Xi T39 904 51 := (show Xi T42 904 51 = Xi T39 904 51 from w1677.x _ _ rfl)
            have w1705 : Xi T42 904 55 = Xi T39 904 55 := (show Xi T42 904 55 = Xi T39 904 55 from w1677.x _ _ rfl)
            have w1707 : Xi T42 904 60 = Xi T39 904 60 := (show Xi T42 904 60 = Xi T39 904 60 from w1677.x _ _ rfl)
            exact Rl_weak (ih87 _ (by omega) T42 hHT42 hFT42 ((v1 + 1)) (by omega) (by omega) (by omega) (by omega) (by omega) (by omega) (by omega) (by omega) (by omega) (by omega) (by omega) (by omega) (by omega) (by omega) (by omega) (by omega) (by omega) (by first | assumption | exact (ABV_FR w1677 rfl (by assumption : ABV T39))) (by first | assumption | exact (WYM_FR w1677 rfl (by assumption : WYM T39))) (by first | assumption | exact (TXM_FR w1677 rfl (by assumption : TXM T39)) | exact txm_00 (by omega) (fun j hj => absurd hj (by omega))) (by first | assumption | exact lxm_0 (by omega)) (by first | exact fun j hj => absurd hj (by omega) | exact fun j hj => ((by assumption : FR md_mo_tellWord T39 T42).cx 933 rfl j).1.trans (Z159 j hj)) rfl) (And.intro rfl (And.intro rfl (True.intro)))
        · refine l_ldcwR (i := 43) rfl rfl ?_
          refine l_goto rfl rfl ?_
          refine l_callV rfl rfl rfl (t_mo_tellWord hHT39 1 v1 43 _ ⟨by omega, by omega⟩ ⟨by omega, by omega⟩ rfl (by first | assumption | omega) _) ?_
          rintro _ T43 ⟨hHT43, w1727, rfl, w1725, e208, k208⟩
          have hFT43 : FR md_mo_begin S T43 := FR.tr hFT39 w1727 rfl
          show Rl _ _ _ _ _ [] _ _
          have f208_16 : Xi T43 904 16 = Xi T39 904 16 := (by assumption : FR md_mo_tellWord T39 T43).x 904 16 rfl
          have M208 : LXM T43 := lxm_gr M159 k208 (GR_FR (by assumption : FR md_mo_tellWord T39 T43) rfl GR.rf) (by omega) (Or.inr ⟨by omega, by rw [e208.1, e208.2, cM1]; omega⟩)
          clear k208 e208
          refine l_iinc rfl rfl rfl rfl ?_
          refine l_goto rfl rfl ?_
          have w1728 : Xi T43 904 117 = Xi T39 904 117 := (show Xi T43 904 117 = Xi T39 904 117 from w1727.x _ _ rfl)
          have w1730 : Xi T43 904 125 = Xi T39 904 125 := (show Xi T43 904 125 = Xi T39 904 125 from w1727.x _ _ rfl)
          have w1732 : Xi T43 904 130 = Xi T39 904 130 := (show Xi T43 904 130 = Xi T39 904 130 from w1727.x _ _ rfl)
          have w1734 : 0 ≤ Xi T43 904 15 ∧ Xi T43 904 15 ≤ 300 := hHT43.c _ _
          have w1735 : Xi T43 904 16 = Xi T39 904 16 := (show Xi T43 904 16 = Xi T39 904 16 from w1727.x _ _ rfl)
          have w1737 : Xi T43 904 18 = Xi T39 904 18 := (show Xi T43 904 18 = Xi T39 904 18 from w1727.x _ _ rfl)
          have w1739 : Xi T43 904 19 = Xi T39 904 19 := (show Xi T43 904 19 = Xi T39 904 19 from w1727.x _ _ rfl)
          have w1741 : Xi T43 904 23 = Xi T39 904 23 := (show Xi T43 904 23 = Xi T39 904 23 from w1727.x _ _ rfl)
          have w1743 : Xi T43 904 30 = Xi T39 904 30 := (show Xi T43 904 30 = Xi T39 904 30 from w1727.x _ _ rfl)
          have w1745 : Xi T43 904 32 = Xi T39 904 32 := (show Xi T43 904 32 = Xi T39 904 32 from w1727.x _ _ rfl)
          have w1747 : Xi T43 904 41 = Xi T39 904 41 := (show Xi T43 904 41 = Xi T39 904 41 from w1727.x _ _ rfl)
          have w1749 : Xi T43 904 47 = Xi T39 904 47 := (show Xi T43 904 47 = Xi T39 904 47 from w1727.x _ _ rfl)
          have w1751 : Xi T43 904 49 = Xi T39 904 49 := (show Xi T43 904 49 = Xi T39 904 49 from w1727.x _ _ rfl)
          have w1753 : Xi T43 904 51 = Xi T39 904 51 := (show Xi T43 904 51 = Xi T39 904 51 from w1727.x _ _ rfl)
          have w1755 : Xi T43 904 55 = Xi T39 904 55 := (show Xi T43 904 55 = Xi T39 904 55 from w1727.x _ _ rfl)
          have w1757 : Xi T43 904 60 = Xi T39 904 60 := (show Xi T43 904 60 = Xi T39 904 60 from w1727.x _ _ rfl)
          exact Rl_weak (ih87 _ (by omega) T43 hHT43 hFT43 ((v1 + 1)) (by omega) (by omega) (by omega) (by omega) (by omega) (by omega) (by omega) (by omega) (by omega) (by omega) (by omega) (by omega) (by omega) (by omega) (by omega) (by omega) (by omega) (by first | assumption | exact (ABV_FR w1727 rfl (by assumption : ABV T39))) (by first | assumption | exact (WYM_FR w1727 rfl (by assumption : WYM T39))) (by first | assumption | exact (TXM_FR w1727 rfl (by assumption : TXM T39)) | exact txm_00 (by omega) (fun j hj => absurd hj (by omega))) (by first | assumption | exact lxm_0 (by omega)) (by first | exact fun j hj => absurd hj (by omega) | exact fun j hj => ((by assumption : FR md_mo_tellWord T39 T43).cx 933 rfl j).1.trans (Z159 j hj)) rfl) (And.intro rfl (And.intro rfl (True.intro)))
      · refine l_ldcwR (i := 42) rfl rfl ?_
        refine l_goto rfl rfl ?_
        refine l_callV rfl rfl rfl (t_mo_tellWord hHT39 1 v1 42 _ ⟨by omega, by omega⟩ ⟨by omega, by omega⟩ rfl (by first | assumption | omega) _) ?_
        rintro _ T44 ⟨hHT44, w1777, rfl, w1775, e208, k208⟩
        have hFT44 : FR md_mo_begin S T44 := FR.tr hFT39 w1777 rfl
        show Rl _ _ _ _ _ [] _ _
        have f208_16 : Xi T44 904 16 = Xi T39 904 16 := (by assumption : FR md_mo_tellWord T39 T44).x 904 16 rfl
        have M208 : LXM T44 := lxm_gr M159 k208 (GR_FR (by assumption : FR md_mo_tellWord T39 T44) rfl GR.rf) (by omega) (Or.inr ⟨by omega, by rw [e208.1, e208.2, cM1]; omega⟩)
        clear k208 e208
        refine l_iinc rfl rfl rfl rfl ?_
        refine l_goto rfl rfl ?_
        have w1778 : Xi T44 904 117 = Xi T39 904 117 := (show Xi T44 904 117 = Xi T39 904 117 from w1777.x _ _ rfl)
        have w1780 : Xi T44 904 125 = Xi T39 904 125 := (show Xi T44 904 125 = Xi T39 904 125 from w1777.x _ _ rfl)
        have w1782 : Xi T44 904 130 = Xi T39 904 130 := (show Xi T44 904 130 = Xi T39 904 130 from w1777.x _ _ rfl)
        have w1784 : 0 ≤ Xi T44 904 15 ∧ Xi T44 904 15 ≤ 300 := hHT44.c _ _
        have w1785 : Xi T44 904 16 = Xi T39 904 16 := (show Xi T44 904 16 = Xi T39 904 16 from w1777.x _ _ rfl)
        have w1787 : Xi T44 904 18 = Xi T39 904 18 := (show Xi T44 904 18 = Xi T39 904 18 from w1777.x _ _ rfl)
        have w1789 : Xi T44 904 19 = Xi T39 904 19 := (show Xi T44 904 19 = Xi T39 904 19 from w1777.x _ _ rfl)
        have w1791 : Xi T44 904 23 = Xi T39 904 23 := (show Xi T44 904 23 = Xi T39 904 23 from w1777.x _ _ rfl)
        have w1793 : Xi T44 904 30 = Xi T39 904 30 := (show Xi T44 904 30 = Xi T39 904 30 from w1777.x _ _ rfl)
        have w1795 : Xi T44 904 32 = Xi T39 904 32 := (show Xi T44 904 32 = Xi T39 904 32 from w1777.x _ _ rfl)
        have w1797 : Xi T44 904 41 = Xi T39 904 41 := (show Xi T44 904 41 = Xi T39 904 41 from w1777.x _ _ rfl)
        have w1799 : Xi T44 904 47 = Xi T39 904 47 := (show Xi T44 904 47 = Xi T39 904 47 from w1777.x _ _ rfl)
        have w1801 : Xi T44 904 49 = Xi T39 904 49 := (show Xi T44 904 49 = Xi T39 904 49 from w1777.x _ _ rfl)
        have w1803 : Xi T44 904 51 = Xi T39 904 51 := (show Xi T44 904 51 = Xi T39 904 51 from w1777.x _ _ rfl)
        have w1805 : Xi T44 904 55 = Xi T39 904 55 := (show Xi T44 904 55 = Xi T39 904 55 from w1777.x _ _ rfl)
        have w1807 : Xi T44 904 60 = Xi T39 904 60 := (show Xi T44 904 60 = Xi T39 904 60 from w1777.x _ _ rfl)
        exact Rl_weak (ih87 _ (by omega) T44 hHT44 hFT44 ((v1 + 1)) (by omega) (by omega) (by omega) (by omega) (by omega) (by omega) (by omega) (by omega) (by omega) (by omega) (by omega) (by omega) (by omega) (by omega) (by omega) (by omega) (by omega) (by first | assumption | exact (ABV_FR w1777 rfl (by assumption : ABV T39))) (by first | assumption | exact (WYM_FR w1777 rfl (by assumption : WYM T39))) (by first | assumption | exact (TXM_FR w1777 rfl (by assumption : TXM T39)) | exact txm_00 (by omega) (fun j hj => absurd hj (by omega))) (by first | assumption | exact lxm_0 (by omega)) (by first | exact fun j hj => absurd hj (by omega) | exact fun j hj => ((by assumption : FR md_mo_tellWord T39 T44).cx 933 rfl j).1.trans (Z159 j hj)) rfl) (And.intro rfl (And.intro rfl (True.intro)))
    have C107 : ∀  (T45 : sS) (_ : HI T45) (_ : FR md_mo_begin S T45) (v1 : Int), (0 ≤ v1 ∧ v1 ≤ 4) → (Xi T45 904 16 = v1 + 1) → (Xi T45 904 18 = 2) → (Xi T45 904 19 = 0) → (Xi T45 904 23 = 0) → (Xi T45 904 30 = 0) → (Xi T45 904 32 = 1) → (Xi T45 904 41 = 0) → (Xi T45 904 47 = 0) → (Xi T45 904 49 = 0) → (Xi T45 904 51 = 0) → (Xi T45 904 55 = 0) → (Xi T45 904 60 = -1) → (Xi T45 904 117 = 0) → (Xi T45 904 125 = 0) → (Xi T45 904 130 = 0) → (v1 ≤ 4) → (Xi T45 904 15 = 2 * v1) → (ABV T45) → (WYM T45) → (TXM T45) → (LXM T45) → (∀ j : Nat, (j : Int) < 12 * (v1 + 1) → Xi T45 933 j = 0) → ((6 - v1).toNat ≤ n87) → Rl lay0 (d + 5) m_mo_begin 107 [(0, .ref 904), (1, iv v1)] [] T45 (Q_mo_begin S) := by
      intro T45 hHT45 hFT45 v1 w1809 w1810 w1811 w1812 w1813 w1814 w1815 w1816 w1817 w1818 w1819 w1820 w1821 w1822 w1823 w1824 w1825 w1826 B107 W107 X107 M107 Z107 w1827
      have w1828 : 0 ≤ Xi T45 904 117 ∧ Xi T45 904 117 ≤ 480 := hHT45.c _ _
      have w1829 : 0 ≤ Xi T45 904 125 ∧ Xi T45 904 125 ≤ 192 := hHT45.c _ _
      have w1830 : 0 ≤ Xi T45 904 130 ∧ Xi T45 904 130 ≤ 24 := hHT45.c _ _
      have w1831 : 0 ≤ Xi T45 904 15 ∧ Xi T45 904 15 ≤ 300 := hHT45.c _ _
      have w1832 : 0 ≤ Xi T45 904 16 ∧ Xi T45 904 16 ≤ 16 := hHT45.c _ _
      have w1833 : 0 ≤ Xi T45 904 18 ∧ Xi T45 904 18 ≤ 8 := hHT45.c _ _
      have w1834 : 0 ≤ Xi T45 904 19 ∧ Xi T45 904 19 ≤ 24 := hHT45.c _ _
      have w1835 : 0 ≤ Xi T45 904 23 ∧ Xi T45 904 23 ≤ 24 := hHT45.c _ _
      have w1836 : 0 ≤ Xi T45 904 30 ∧ Xi T45 904 30 ≤ 64 := hHT45.c _ _
      have w1837 : 0 ≤ Xi T45 904 32 ∧ Xi T45 904 32 ≤ 12 := hHT45.c _ _
      have w1838 : 0 ≤ Xi T45 904 41 ∧ Xi T45 904 41 ≤ 6 := hHT45.c _ _
      have w1839 : 0 ≤ Xi T45 904 47 ∧ Xi T45 904 47 ≤ 8 := hHT45.c _ _
      have w1840 : 0 ≤ Xi T45 904 49 ∧ Xi T45 904 49 ≤ 12 := hHT45.c _ _
      have w1841 : 0 ≤ Xi T45 904 51 ∧ Xi T45 904 51 ≤ 200 := hHT45.c _ _
      have w1842 : 0 ≤ Xi T45 904 55 ∧ Xi T45 904 55 ≤ 20 := hHT45.c _ _
      have w1843 : -1 ≤ Xi T45 904 60 ∧ Xi T45 904 60 ≤ 23 := hHT45.c _ _
      refine l_aload_n rfl rfl ?_
      refine l_iconst rfl ?_
      refine l_iload_n rfl rfl ?_
      refine l_iload_n rfl rfl ?_
      refine l_if_ne rfl rfl (by unfold rg; omega) (fun w1844 => ?_) (fun w1845 => ?_)
      · refine l_iload_n rfl rfl ?_
        refine l_iconst rfl ?_
        refine l_icmp_ne rfl rfl (by unfold rg; omega) (by unfold rg; omega) (fun w1846 => ?_) (fun w1847 => ?_)
        · refine l_iload_n rfl rfl ?_
          refine l_iconst rfl ?_
          refine l_icmp_ne rfl rfl (by unfold rg; omega) (by unfold rg; omega) (fun w1848 => ?_) (fun w1849 => ?_)
          · refine l_iload_n rfl rfl ?_
            refine l_iconst rfl ?_
            refine l_icmp_ne rfl rfl (by unfold rg; omega) (by unfold rg; omega) (fun w1850 => ?_) (fun w1851 => ?_)
            · refine l_ldcwR (i := 41) rfl rfl ?_
              refine l_callV rfl rfl rfl (t_mo_tellWord hHT45 0 v1 41 _ ⟨by omega, by omega⟩ ⟨by omega, by omega⟩ rfl (by first | assumption | omega) _) ?_
              rintro _ T46 ⟨hHT46, w1870, rfl, w1868, e156, k156⟩
              have hFT46 : FR md_mo_begin S T46 := FR.tr hFT45 w1870 rfl
              show Rl _ _ _ _ _ [] _ _
              have f156_16 : Xi T46 904 16 = Xi T45 904 16 := (by assumption : FR md_mo_tellWord T45 T46).x 904 16 rfl
              have M156 : LXM T46 := lxm_gr M107 k156 (GR_FR (by assumption : FR md_mo_tellWord T45 T46) rfl GR.rf) (by omega) (Or.inr ⟨by omega, by rw [e156.1, e156.2, cM0]; omega⟩)
              clear k156 e156
              have w1871 : Xi T46 904 117 = Xi T45 904 117 := (show Xi T46 904 117 = Xi T45 904 117 from w1870.x _ _ rfl)
              have w1873 : Xi T46 904 125 = Xi T45 904 125 := (show Xi T46 904 125 = Xi T45 904 125 from w1870.x _ _ rfl)
              have w1875 : Xi T46 904 130 = Xi T45 904 130 := (show Xi T46 904 130 = Xi T45 904 130 from w1870.x _ _ rfl)
              have w1877 : 0 ≤ Xi T46 904 15 ∧ Xi T46 904 15 ≤ 300 := hHT46.c _ _
              have w1878 : Xi T46 904 16 = Xi T45 904 16 := (show Xi T46 904 16 = Xi T45 904 16 from w1870.x _ _ rfl)
              have w1880 : Xi T46 904 18 = Xi T45 904 18 := (show Xi T46 904 18 = Xi T45 904 18 from w1870.x _ _ rfl)
              have w1882 : Xi T46 904 19 = Xi T45 904 19 := (show Xi T46 904 19 = Xi T45 904 19 from w1870.x _ _ rfl)
              have w1884 : Xi T46 904 23 = Xi T45 904 23 := (show Xi T46 904 23 = Xi T45 904 23 from w1870.x _ _ rfl)
              have w1886 : Xi T46 904 30 = Xi T45 904 30 := (show Xi T46 904 30 = Xi T45 904 30 from w1870.x _ _ rfl)
              have w1888 : Xi T46 904 32 = Xi T45 904 32 := (show Xi T46 904 32 = Xi T45 904 32 from w1870.x _ _ rfl)
              have w1890 : Xi T46 904 41 = Xi T45 904 41 := (show Xi T46 904 41 = Xi T45 904 41 from w1870.x _ _ rfl)
              have w1892 : Xi T46 904 47 = Xi T45 904 47 := (show Xi T46 904 47 = Xi T45 904 47 from w1870.x _ _ rfl)
              have w1894 : Xi T46 904 49 = Xi T45 904 49 := (show Xi T46 904 49 = Xi T45 904 49 from w1870.x _ _ rfl)
              have w1896 : Xi T46 904 51 = Xi T45 904 51 := (show Xi T46 904 51 = Xi T45 904 51 from w1870.x _ _ rfl)
              have w1898 : Xi T46 904 55 = Xi T45 904 55 := (show Xi T46 904 55 = Xi T45 904 55 from w1870.x _ _ rfl)
              have w1900 : Xi T46 904 60 = Xi T45 904 60 := (show Xi T46 904 60 = Xi T45 904 60 from w1870.x _ _ rfl)
              exact Rl_weak (C159 T46 hHT46 hFT46 (v1) (by omega) (by omega) (by omega) (by omega) (by omega) (by omega) (by omega) (by omega) (by omega) (by omega) (by omega) (by omega) (by omega) (by omega) (by omega) (by omega) (by omega) (by omega) (by first | assumption | exact (ABV_FR w1870 rfl (by assumption : ABV T45))) (by first | assumption | exact (WYM_FR w1870 rfl (by assumption : WYM T45))) (by first | assumption | exact (TXM_FR w1870 rfl (by assumption : TXM T45))) (by first | assumption | exact (by assumption : LXM T46)) (fun j hj => ((by assumption : FR md_mo_tellWord T45 T46).cx 933 rfl j).1.trans (Z107 j hj)) (by omega)) (And.intro rfl (And.intro rfl (True.intro)))
            · refine l_ldcwR (i := 40) rfl rfl ?_
              refine l_goto rfl rfl ?_
              refine l_callV rfl rfl rfl (t_mo_tellWord hHT45 0 v1 40 _ ⟨by omega, by omega⟩ ⟨by omega, by omega⟩ rfl (by first | assumption | omega) _) ?_
              rintro _ T47 ⟨hHT47, w1920, rfl, w1918, e156, k156⟩
              have hFT47 : FR md_mo_begin S T47 := FR.tr hFT45 w1920 rfl
              show Rl _ _ _ _ _ [] _ _
              have f156_16 : Xi T47 904 16 = Xi T45 904 16 := (by assumption : FR md_mo_tellWord T45 T47).x 904 16 rfl
              have M156 : LXM T47 := lxm_gr M107 k156 (GR_FR (by assumption : FR md_mo_tellWord T45 T47) rfl GR.rf) (by omega) (Or.inr ⟨by omega, by rw [e156.1, e156.2, cM0]; omega⟩)
              clear k156 e156
              have w1921 : Xi T47 904 117 = Xi T45 904 117 := (show Xi T47 904 117 = Xi T45 904 117 from w1920.x _ _ rfl)
              have w1923 : Xi T47 904 125 = Xi T45 904 125 := (show Xi T47 904 125 = Xi T45 904 125 from w1920.x _ _ rfl)
              have w1925 : Xi T47 904 130 = Xi T45 904 130 := (show Xi T47 904 130 = Xi T45 904 130 from w1920.x _ _ rfl)
              have w1927 : 0 ≤ Xi T47 904 15 ∧ Xi T47 904 15 ≤ 300 := hHT47.c _ _
              have w1928 : Xi T47 904 16 = Xi T45 904 16 := (show Xi T47 904 16 = Xi T45 904 16 from w1920.x _ _ rfl)
              have w1930 : Xi T47 904 18 = Xi T45 904 18 := (show Xi T47 904 18 = Xi T45 904 18 from w1920.x _ _ rfl)
              have w1932 : Xi T47 904 19 = Xi T45 904 19 := (show Xi T47 904 19 = Xi T45 904 19 from w1920.x _ _ rfl)
              have w1934 : Xi T47 904 23 = Xi T45 904 23 := (show Xi T47 904 23 = Xi T45 904 23 from w1920.x _ _ rfl)
              have w1936 : Xi T47 904 30 = Xi T45 904 30 := (show Xi T47 904 30 = Xi T45 904 30 from w1920.x _ _ rfl)
              have w1938 : Xi T47 904 32 = Xi T45 904 32 := (show Xi T47 904 32 = Xi T45 904 32 from w1920.x _ _ rfl)
              have w1940 : Xi T47 904 41 = Xi T45 904 41 := (show Xi T47 904 41 = Xi T45 904 41 from w1920.x _ _ rfl)
              have w1942 : Xi T47 904 47 = Xi T45 904 47 := (show Xi T47 904 47 = Xi T45 904 47 from w1920.x _ _ rfl)
              have w1944 : Xi T47 904 49 = Xi T45 904 49 := (show Xi T47 904 49 = Xi T45 904 49 from w1920.x _ _ rfl)
              have w1946 : Xi T47 904 51 = Xi T45 904 51 := (show Xi T47 904 51 = Xi T45 904 51 from w1920.x _ _ rfl)
              have w1948 : Xi T47 904 55 = Xi T45 904 55 := (show Xi T47 904 55 = Xi T45 904 55 from w1920.x _ _ rfl)
              have w1950 : Xi T47 904 60 = Xi T45 904 60 := (show Xi T47 904 60 = Xi T45 904 60 from w1920.x _ _ rfl)
              exact Rl_weak (C159 T47 hHT47 hFT47 (v1) (by omega) (by omega) (by omega) (by omega) (by omega) (by omega) (by omega) (by omega) (by omega) (by omega) (by omega) (by omega) (by omega) (by omega) (by omega) (by omega) (by omega) (by omega) (by first | assumption | exact (ABV_FR w1920 rfl (by assumption : ABV T45))) (by first | assumption | exact (WYM_FR w1920 rfl (by assumption : WYM T45))) (by first | assumption | exact (TXM_FR w1920 rfl (by assumption : TXM T45))) (by first | assumption | exact (by assumption : LXM T47)) (fun j hj => ((by assumption : FR md_mo_tellWord T45 T47).cx 933 rfl j).1.trans (Z107 j hj)) (by omega)) (And.intro rfl (And.intro rfl (True.intro)))
          · refine l_ldcwR (i := 39) rfl rfl ?_
            refine l_goto rfl rfl ?_
            refine l_callV rfl rfl rfl (t_mo_tellWord hHT45 0 v1 39 _ ⟨by omega, by omega⟩ ⟨by omega, by omega⟩ rfl (by first | assumption | omega) _) ?_
            rintro _ T48 ⟨hHT48, w1970, rfl, w1968, e156, k156⟩
            have hFT48 : FR md_mo_begin S T48 := FR.tr hFT45 w1970 rfl
            show Rl _ _ _ _ _ [] _ _
            have f156_16 : Xi T48 904 16 = Xi T45 904 16 := (by assumption : FR md_mo_tellWord T45 T48).x 904 16 rfl
            have M156 : LXM T48 := lxm_gr M107 k156 (GR_FR (by assumption : FR md_mo_tellWord T45 T48) rfl GR.rf) (by omega) (Or.inr ⟨by omega, by rw [e156.1, e156.2, cM0]; omega⟩)
            clear k156 e156
            have w1971 : Xi T48 904 117 = Xi T45 904 117 := (show Xi T48 904 117 = Xi T45 904 117 from w1970.x _ _ rfl)
            have w1973 : Xi T48 904 125 = Xi T45 904 125 := (show Xi T48 904 125 = Xi T45 904 125 from w1970.x _ _ rfl)
            have w1975 : Xi T48 904 130 = Xi T45 904 130 := (show Xi T48 904 130 = Xi T45 904 130 from w1970.x _ _ rfl)
            have w1977 : 0 ≤ Xi T48 904 15 ∧ Xi T48 904 15 ≤ 300 := hHT48.c _ _
            have w1978 : Xi T48 904 16 = Xi T45 904 16 := (show Xi T48 904 16 = Xi T45 904 16 from w1970.x _ _ rfl)
            have w1980 : Xi T48 904 18 = Xi T45 904 18 := (show Xi T48 904 18 = Xi T45 904 18 from w1970.x _ _ rfl)
            have w1982 : Xi T48 904 19 = Xi T45 904 19 := (show Xi T48 904 19 = Xi T45 904 19 from w1970.x _ _ rfl)
            have w1984 : Xi T48 904 23 = Xi T45 904 23 := (show Xi T48 904 23 = Xi T45 904 23 from w1970.x _ _ rfl)
            have w1986 : Xi T48 904 30 = Xi T45 904 30 := (show Xi T48 904 30 = Xi T45 904 30 from w1970.x _ _ rfl)
            have w1988 : Xi T48 904 32 = Xi T45 904 32 := (show Xi T48 904 32 = Xi T45 904 32 from w1970.x _ _ rfl)
            have w1990 : Xi T48 904 41 = Xi T45 904 41 := (show Xi T48 904 41 = Xi T45 904 41 from w1970.x _ _ rfl)
            have w1992 : Xi T48 904 47 = Xi T45 904 47 := (show Xi T48 904 47 = Xi T45 904 47 from w1970.x _ _ rfl)
            have w1994 : Xi T48 904 49 = Xi T45 904 49 := (show Xi T48 904 49 = Xi T45 904 49 from w1970.x _ _ rfl)
            have w1996 : Xi T48 904 51 = Xi T45 904 51 := (show Xi T48 904 51 = Xi T45 904 51 from w1970.x _ _ rfl)
            have w1998 : Xi T48 904 55 = Xi T45 904 55 := (show Xi T48 904 55 = Xi T45 904 55 from w1970.x _ _ rfl)
            have w2000 : Xi T48 904 60 = Xi T45 904 60 := (show Xi T48 904 60 = Xi T45 904 60 from w1970.x _ _ rfl)
            exact Rl_weak (C159 T48 hHT48 hFT48 (v1) (by omega) (by omega) (by omega) (by omega) (by omega) (by omega) (by omega) (by omega) (by omega) (by omega) (by omega) (by omega) (by omega) (by omega) (by omega) (by omega) (by omega) (by omega) (by first | assumption | exact (ABV_FR w1970 rfl (by assumption : ABV T45))) (by first | assumption | exact (WYM_FR w1970 rfl (by assumption : WYM T45))) (by first | assumption | exact (TXM_FR w1970 rfl (by assumption : TXM T45))) (by first | assumption | exact (by assumption : LXM T48)) (fun j hj => ((by assumption : FR md_mo_tellWord T45 T48).cx 933 rfl j).1.trans (Z107 j hj)) (by omega)) (And.intro rfl (And.intro rfl (True.intro)))
        · refine l_ldcwR (i := 38) rfl rfl ?_
          refine l_goto rfl rfl ?_
          refine l_callV rfl rfl rfl (t_mo_tellWord hHT45 0 v1 38 _ ⟨by omega, by omega⟩ ⟨by omega, by omega⟩ rfl (by first | assumption | omega) _) ?_
          rintro _ T49 ⟨hHT49, w2020, rfl, w2018, e156, k156⟩
          have hFT49 : FR md_mo_begin S T49 := FR.tr hFT45 w2020 rfl
          show Rl _ _ _ _ _ [] _ _
          have f156_16 : Xi T49 904 16 = Xi T45 904 16 := (by assumption : FR md_mo_tellWord T45 T49).x 904 16 rfl
          have M156 : LXM T49 := lxm_gr M107 k156 (GR_FR (by assumption : FR md_mo_tellWord T45 T49) rfl GR.rf) (by omega) (Or.inr ⟨by omega, by rw [e156.1, e156.2, cM0]; omega⟩)
          clear k156 e156
          have w2021 : Xi T49 904 117 = Xi T45 904 117 := (show Xi T49 904 117 = Xi T45 904 117 from w2020.x _ _ rfl)
          have w2023 : Xi T49 904 125 = Xi T45 904 125 := (show Xi T49 904 125 = Xi T45 904 125 from w2020.x _ _ rfl)
          have w2025 : Xi T49 904 130 = Xi T45 904 130 := (show Xi T49 904 130 = Xi T45 904 130 from w2020.x _ _ rfl)
          have w2027 : 0 ≤ Xi T49 904 15 ∧ Xi T49 904 15 ≤ 300 := hHT49.c _ _
          have w2028 : Xi T49 904 16 = Xi T45 904 16 := (show Xi T49 904 16 = Xi T45 904 16 from w2020.x _ _ rfl)
          have w2030 : Xi T49 904 18 = Xi T45 904 18 := (show Xi T49 904 18 = Xi T45 904 18 from w2020.x _ _ rfl)
          have w2032 : Xi T49 904 19 = Xi T45 904 19 := (show Xi T49 904 19 = Xi T45 904 19 from w2020.x _ _ rfl)
          have w2034 : Xi T49 904 23 = Xi T45 904 23 := (show Xi T49 904 23 = Xi T45 904 23 from w2020.x _ _ rfl)
          have w2036 : Xi T49 904 30 = Xi T45 904 30 := (show Xi T49 904 30 = Xi T45 904 30 from w2020.x _ _ rfl)
          have w2038 : Xi T49 904 32 = Xi T45 904 32 := (show Xi T49 904 32 = Xi T45 904 32 from w2020.x _ _ rfl)
          have w2040 : Xi T49 904 41 = Xi T45 904 41 := (show Xi T49 904 41 = Xi T45 904 41 from w2020.x _ _ rfl)
          have w2042 : Xi T49 904 47 = Xi T45 904 47 := (show Xi T49 904 47 = Xi T45 904 47 from w2020.x _ _ rfl)
          have w2044 : Xi T49 904 49 = Xi T45 904 49 := (show Xi T49 904 49 = Xi T45 904 49 from w2020.x _ _ rfl)
          have w2046 : Xi T49 904 51 = Xi T45 904 51 := (show Xi T49 904 51 = Xi T45 904 51 from w2020.x _ _ rfl)
          have w2048 : Xi T49 904 55 = Xi T45 904 55 := (show Xi T49 904 55 = Xi T45 904 55 from w2020.x _ _ rfl)
          have w2050 : Xi T49 904 60 = Xi T45 904 60 := (show Xi T49 904 60 = Xi T45 904 60 from w2020.x _ _ rfl)
          exact Rl_weak (C159 T49 hHT49 hFT49 (v1) (by omega) (by omega) (by omega) (by omega) (by omega) (by omega) (by omega) (by omega) (by omega) (by omega) (by omega) (by omega) (by omega) (by omega) (by omega) (by omega) (by omega) (by omega) (by first | assumption | exact (ABV_FR w2020 rfl (by assumption : ABV T45))) (by first | assumption | exact (WYM_FR w2020 rfl (by assumption : WYM T45))) (by first | assumption | exact (TXM_FR w2020 rfl (by assumption : TXM T45))) (by first | assumption | exact (by assumption : LXM T49)) (fun j hj => ((by assumption : FR md_mo_tellWord T45 T49).cx 933 rfl j).1.trans (Z107 j hj)) (by omega)) (And.intro rfl (And.intro rfl (True.intro)))
      · refine l_ldcwR (i := 37) rfl rfl ?_
        refine l_goto rfl rfl ?_
        refine l_callV rfl rfl rfl (t_mo_tellWord hHT45 0 v1 37 _ ⟨by omega, by omega⟩ ⟨by omega, by omega⟩ rfl (by first | assumption | omega) _) ?_
        rintro _ T50 ⟨hHT50, w2070, rfl, w2068, e156, k156⟩
        have hFT50 : FR md_mo_begin S T50 := FR.tr hFT45 w2070 rfl
        show Rl _ _ _ _ _ [] _ _
        have f156_16 : Xi T50 904 16 = Xi T45 904 16 := (by assumption : FR md_mo_tellWord T45 T50).x 904 16 rfl
        have M156 : LXM T50 := lxm_gr M107 k156 (GR_FR (by assumption : FR md_mo_tellWord T45 T50) rfl GR.rf) (by omega) (Or.inr ⟨by omega, by rw [e156.1, e156.2, cM0]; omega⟩)
        clear k156 e156
        have w2071 : Xi T50 904 117 = Xi T45 904 117 := (show Xi T50 904 117 = Xi T45 904 117 from w2070.x _ _ rfl)
        have w2073 : Xi T50 904 125 = Xi T45 904 125 := (show Xi T50 904 125 = Xi T45 904 125 from w2070.x _ _ rfl)
        have w2075 : Xi T50 904 130 = Xi T45 904 130 := (show Xi T50 904 130 = Xi T45 904 130 from w2070.x _ _ rfl)
        have w2077 : 0 ≤ Xi T50 904 15 ∧ Xi T50 904 15 ≤ 300 := hHT50.c _ _
        have w2078 : Xi T50 904 16 = Xi T45 904 16 := (show Xi T50 904 16 = Xi T45 904 16 from w2070.x _ _ rfl)
        have w2080 : Xi T50 904 18 = Xi T45 904 18 := (show Xi T50 904 18 = Xi T45 904 18 from w2070.x _ _ rfl)
        have w2082 : Xi T50 904 19 = Xi T45 904 19 := (show Xi T50 904 19 = Xi T45 904 19 from w2070.x _ _ rfl)
        have w2084 : Xi T50 904 23 = Xi T45 904 23 := (show Xi T50 904 23 = Xi T45 904 23 from w2070.x _ _ rfl)
        have w2086 : Xi T50 904 30 = Xi T45 904 30 := (show Xi T50 904 30 = Xi T45 904 30 from w2070.x _ _ rfl)
        have w2088 : Xi T50 904 32 = Xi T45 904 32 := (show Xi T50 904 32 = Xi T45 904 32 from w2070.x _ _ rfl)
        have w2090 : Xi T50 904 41 = Xi T45 904 41 := (show Xi T50 904 41 = Xi T45 904 41 from w2070.x _ _ rfl)
        have w2092 : Xi T50 904 47 = Xi T45 904 47 := (show Xi T50 904 47 = Xi T45 904 47 from w2070.x _ _ rfl)
        have w2094 : Xi T50 904 49 = Xi T45 904 49 := (show Xi T50 904 49 = Xi T45 904 49 from w2070.x _ _ rfl)
        have w2096 : Xi T50 904 51 = Xi T45 904 51 := (show Xi T50 904 51 = Xi T45 904 51 from w2070.x _ _ rfl)
        have w2098 : Xi T50 904 55 = Xi T45 904 55 := (show Xi T50 904 55 = Xi T45 904 55 from w2070.x _ _ rfl)
        have w2100 : Xi T50 904 60 = Xi T45 904 60 := (show Xi T50 904 60 = Xi T45 904 60 from w2070.x _ _ rfl)
        exact Rl_weak (C159 T50 hHT50 hFT50 (v1) (by omega) (by omega) (by omega) (by omega) (by omega) (by omega) (by omega) (by omega) (by omega) (by omega) (by omega) (by omega) (by omega) (by omega) (by omega) (by omega) (by omega) (by omega) (by first | assumption | exact (ABV_FR w2070 rfl (by assumption : ABV T45))) (by first | assumption | exact (WYM_FR w2070 rfl (by assumption : WYM T45))) (by first | assumption | exact (TXM_FR w2070 rfl (by assumption : TXM T45))) (by first | assumption | exact (by assumption : LXM T50)) (fun j hj => ((by assumption : FR md_mo_tellWord T45 T50).cx 933 rfl j).1.trans (Z107 j hj)) (by omega)) (And.intro rfl (And.intro rfl (True.intro)))
    refine l_iload_n rfl rfl ?_
    refine l_iconst rfl ?_
    refine l_icmp_ge rfl rfl (by unfold rg; omega) (by unfold rg; omega) (fun w2102 => ?_) (fun w2103 => ?_)
    · have w2104 : 0 ≤ Xi T38 904 117 ∧ Xi T38 904 117 ≤ 480 := hHT38.c _ _
      exact Rl_weak (C217 T38 hHT38 hFT38  (by omega) (by omega) (by omega) (by omega) (by omega) (by omega) (by omega) (by omega) (by omega) (by omega) (by omega) (by omega) (by omega) (by omega) (by omega) (by omega) (by first | assumption | exact (by assumption : ABV T38)) (by first | assumption | exact (by assumption : WYM T38)) (X87) (M87) (fun j hj => Z87 j (by omega))) (And.intro rfl (True.intro))
    · refine l_aload_n rfl rfl ?_
      refine l_iload_n rfl rfl ?_
      refine l_iconst rfl ?_
      refine l_icmp_ge rfl rfl (by unfold rg; omega) (by unfold rg; omega) (fun w2120 => ?_) (fun w2121 => ?_)
      · refine l_iconst rfl ?_
        refine l_callV rfl rfl rfl (t_mo_addKind__2 hHT38 0 ⟨by omega, by omega⟩ (by first | assumption | omega) (by omega) (by first | assumption | exact (by assumption : ABV T38)) (X87) _) ?_
        rintro _ T51 ⟨hHT51, w2142, z2141, rfl, w2141, z103, w2138, w2139, w2140, o103, z103⟩
        have hFT51 : FR md_mo_begin S T51 := FR.tr hFT38 w2142 rfl
        show Rl _ _ _ _ _ [iv z2141] _ _
        have Z103 : ∀ j : Nat, (j : Int) < 12 * (v1 + 1) → Xi T51 933 j = 0 := fun j hj => (Int.lt_or_le (j : Int) (12 * v1)).elim (fun h => (o103 j (by omega)).trans (Z87 j h)) (fun h => by have t := z103 ((j : Int) - 12 * v1) (by omega) (by omega); rw [show (12 * Xi T38 904 16 + ((j : Int) - 12 * v1)).toNat = j by omega] at t; exact t)
        have M103 : LXM T51 := lxm_gr M87 (LXK_FR (by assumption : FR md_mo_addKind T38 T51) rfl) (gr_m GR.rf (by omega) (Int.le_of_eq ((by assumption : FR md_mo_addKind T38 T51).x 904 18 rfl).symm) (Int.le_of_eq ((by assumption : FR md_mo_addKind T38 T51).x 904 19 rfl).symm) (Int.le_of_eq ((by assumption : FR md_mo_addKind T38 T51).x 904 23 rfl).symm) (Int.le_of_eq ((by assumption : FR md_mo_addKind T38 T51).x 904 30 rfl).symm) (Int.le_of_eq ((by assumption : FR md_mo_addKind T38 T51).x 904 32 rfl).symm) (Int.le_of_eq ((by assumption : FR md_mo_addKind T38 T51).x 904 41 rfl).symm) (Int.le_of_eq ((by assumption : FR md_mo_addKind T38 T51).x 904 47 rfl).symm) (Int.le_of_eq ((by assumption : FR md_mo_addKind T38 T51).x 904 49 rfl).symm) (fun i _ => ⟨((by assumption : FR md_mo_addKind T38 T51).cx 922 rfl i).1, ((by assumption : FR md_mo_addKind T38 T51).cx 923 rfl i).1, ((by assumption : FR md_mo_addKind T38 T51).cx 924 rfl i).1⟩) (fun i _ => ((by assumption : FR md_mo_addKind T38 T51).cx 928 rfl i).1) (fun i _ => ((by assumption : FR md_mo_addKind T38 T51).cx 942 rfl i).1)) (by omega) (Or.inl ((by assumption : FR md_mo_addKind T38 T51).x 904 15 rfl))
        clear o103 z103
        refine l_pop rfl rfl ?_
        have w2143 : Xi T51 904 117 = Xi T38 904 117 := (show Xi T51 904 117 = Xi T38 904 117 from w2142.x _ _ rfl)
        have w2145 : Xi T51 904 125 = Xi T38 904 125 := (show Xi T51 904 125 = Xi T38 904 125 from w2142.x _ _ rfl)
        have w2147 : Xi T51 904 130 = Xi T38 904 130 := (show Xi T51 904 130 = Xi T38 904 130 from w2142.x _ _ rfl)
        have w2149 : Xi T51 904 15 = Xi T38 904 15 := (show Xi T51 904 15 = Xi T38 904 15 from w2142.x _ _ rfl)
        have w2151 : 0 ≤ Xi T51 904 16 ∧ Xi T51 904 16 ≤ 16 := hHT51.c _ _
        have w2152 : Xi T51 904 18 = Xi T38 904 18 := (show Xi T51 904 18 = Xi T38 904 18 from w2142.x _ _ rfl)
        have w2154 : Xi T51 904 19 = Xi T38 904 19 := (show Xi T51 904 19 = Xi T38 904 19 from w2142.x _ _ rfl)
        have w2156 : Xi T51 904 23 = Xi T38 904 23 := (show Xi T51 904 23 = Xi T38 904 23 from w2142.x _ _ rfl)
        have w2158 : Xi T51 904 30 = Xi T38 904 30 := (show Xi T51 904 30 = Xi T38 904 30 from w2142.x _ _ rfl)
        have w2160 : Xi T51 904 32 = Xi T38 904 32 := (show Xi T51 904 32 = Xi T38 904 32 from w2142.x _ _ rfl)
        have w2162 : Xi T51 904 41 = Xi T38 904 41 := (show Xi T51 904 41 = Xi T38 904 41 from w2142.x _ _ rfl)
        have w2164 : Xi T51 904 47 = Xi T38 904 47 := (show Xi T51 904 47 = Xi T38 904 47 from w2142.x _ _ rfl)
        have w2166 : Xi T51 904 49 = Xi T38 904 49 := (show Xi T51 904 49 = Xi T38 904 49 from w2142.x _ _ rfl)
        have w2168 : Xi T51 904 51 = Xi T38 904 51 := (show Xi T51 904 51 = Xi T38 904 51 from w2142.x _ _ rfl)
        have w2170 : Xi T51 904 55 = Xi T38 904 55 := (show Xi T51 904 55 = Xi T38 904 55 from w2142.x _ _ rfl)
        have w2172 : Xi T51 904 60 = Xi T38 904 60 := (show Xi T51 904 60 = Xi T38 904 60 from w2142.x _ _ rfl)
        exact Rl_weak (C107 T51 hHT51 hFT51 (v1) (by omega) (by omega) (by omega) (by omega) (by omega) (by omega) (by omega) (by omega) (by omega) (by omega) (by omega) (by omega) (by omega) (by omega) (by omega) (by omega) (by omega) (by omega) (by first | assumption | exact (by assumption : ABV T51)) (by first | assumption | exact (WYM_FR w2142 rfl (by assumption : WYM T38))) (by first | assumption | exact (by assumption : TXM T51)) (by first | assumption | exact (by assumption : LXM T51)) (Z103) (by omega)) (And.intro rfl (And.intro rfl (True.intro)))
      · refine l_iconst rfl ?_
        refine l_goto rfl rfl ?_
        refine l_callV rfl rfl rfl (t_mo_addKind__2 hHT38 (-1) ⟨by omega, by omega⟩ (by first | assumption | omega) (by omega) (by first | assumption | exact (by assumption : ABV T38)) (X87) _) ?_
        rintro _ T52 ⟨hHT52, w2194, z2193, rfl, w2193, z103, w2190, w2191, w2192, o103, z103⟩
        have hFT52 : FR md_mo_begin S T52 := FR.tr hFT38 w2194 rfl
        show Rl _ _ _ _ _ [iv z2193] _ _
        have Z103 : ∀ j : Nat, (j : Int) < 12 * (v1 + 1) → Xi T52 933 j = 0 := fun j hj => (Int.lt_or_le (j : Int) (12 * v1)).elim (fun h => (o103 j (by omega)).trans (Z87 j h)) (fun h => by have t := z103 ((j : Int) - 12 * v1) (by omega) (by omega); rw [show (12 * Xi T38 904 16 + ((j : Int) - 12 * v1)).toNat = j by omega] at t; exact t)
        have M103 : LXM T52 := lxm_gr M87 (LXK_FR (by assumption : FR md_mo_addKind T38 T52) rfl) (gr_m GR.rf (by omega) (Int.le_of_eq ((by assumption : FR md_mo_addKind T38 T52).x 904 18 rfl).symm) (Int.le_of_eq ((by assumption : FR md_mo_addKind T38 T52).x 904 19 rfl).symm) (Int.le_of_eq ((by assumption : FR md_mo_addKind T38 T52).x 904 23 rfl).symm) (Int.le_of_eq ((by assumption : FR md_mo_addKind T38 T52).x 904 30 rfl).symm) (Int.le_of_eq ((by assumption : FR md_mo_addKind T38 T52).x 904 32 rfl).symm) (Int.le_of_eq ((by assumption : FR md_mo_addKind T38 T52).x 904 41 rfl).symm) (Int.le_of_eq ((by assumption : FR md_mo_addKind T38 T52).x 904 47 rfl).symm) (Int.le_of_eq ((by assumption : FR md_mo_addKind T38 T52).x 904 49 rfl).symm) (fun i _ => ⟨((by assumption : FR md_mo_addKind T38 T52).cx 922 rfl i).1, ((by assumption : FR md_mo_addKind T38 T52).cx 923 rfl i).1, ((by assumption : FR md_mo_addKind T38 T52).cx 924 rfl i).1⟩) (fun i _ => ((by assumption : FR md_mo_addKind T38 T52).cx 928 rfl i).1) (fun i _ => ((by assumption : FR md_mo_addKind T38 T52).cx 942 rfl i).1)) (by omega) (Or.inl ((by assumption : FR md_mo_addKind T38 T52).x 904 15 rfl))
        clear o103 z103
        refine l_pop rfl rfl ?_
        have w2195 : Xi T52 904 117 = Xi T38 904 117 := (show Xi T52 904 117 = Xi T38 904 117 from w2194.x _ _ rfl)
        have w2197 : Xi T52 904 125 = Xi T38 904 125 := (show Xi T52 904 125 = Xi T38 904 125 from w2194.x _ _ rfl)
        have w2199 : Xi T52 904 130 = Xi T38 904 130 := (show Xi T52 904 130 = Xi T38 904 130 from w2194.x _ _ rfl)
        have w2201 : Xi T52 904 15 = Xi T38 904 15 := (show Xi T52 904 15 = Xi T38 904 15 from w2194.x _ _ rfl)
        have w2203 : 0 ≤ Xi T52 904 16 ∧ Xi T52 904 16 ≤ 16 := hHT52.c _ _
        have w2204 : Xi T52 904 18 = Xi T38 904 18 := (show Xi T52 904 18 = Xi T38 904 18 from w2194.x _ _ rfl)
        have w2206 : Xi T52 904 19 = Xi T38 904 19 := (show Xi T52 904 19 = Xi T38 904 19 from w2194.x _ _ rfl)
        have w2208 : Xi T52 904 23 = Xi T38 904 23 := (show Xi T52 904 23 = Xi T38 904 23 from w2194.x _ _ rfl)
        have w2210 : Xi T52 904 30 = Xi T38 904 30 := (show Xi T52 904 30 = Xi T38 904 30 from w2194.x _ _ rfl)
        have w2212 : Xi T52 904 32 = Xi T38 904 32 := (show Xi T52 904 32 = Xi T38 904 32 from w2194.x _ _ rfl)
        have w2214 : Xi T52 904 41 = Xi T38 904 41 := (show Xi T52 904 41 = Xi T38 904 41 from w2194.x _ _ rfl)
        have w2216 : Xi T52 904 47 = Xi T38 904 47 := (show Xi T52 904 47 = Xi T38 904 47 from w2194.x _ _ rfl)
        have w2218 : Xi T52 904 49 = Xi T38 904 49 := (show Xi T52 904 49 = Xi T38 904 49 from w2194.x _ _ rfl)
        have w2220 : Xi T52 904 51 = Xi T38 904 51 := (show Xi T52 904 51 = Xi T38 904 51 from w2194.x _ _ rfl)
        have w2222 : Xi T52 904 55 = Xi T38 904 55 := (show Xi T52 904 55 = Xi T38 904 55 from w2194.x _ _ rfl)
        have w2224 : Xi T52 904 60 = Xi T38 904 60 := (show Xi T52 904 60 = Xi T38 904 60 from w2194.x _ _ rfl)
        exact Rl_weak (C107 T52 hHT52 hFT52 (v1) (by omega) (by omega) (by omega) (by omega) (by omega) (by omega) (by omega) (by omega) (by omega) (by omega) (by omega) (by omega) (by omega) (by omega) (by omega) (by omega) (by omega) (by omega) (by first | assumption | exact (by assumption : ABV T52)) (by first | assumption | exact (WYM_FR w2194 rfl (by assumption : WYM T38))) (by first | assumption | exact (by assumption : TXM T52)) (by first | assumption | exact (by assumption : LXM T52)) (Z103) (by omega)) (And.intro rfl (And.intro rfl (True.intro)))
set_option maxRecDepth 100000 in
set_option maxHeartbeats 4000000 in
theorem t_mo_begin {S : sS} (hH : HI S) (hB : ABV S) (hW : WYM S) (d : Nat) : Mt lay0 (d + 6) m_mo_begin [.ref 904] S (Q_mo_begin S) := by
  refine Mt_R rfl rfl ?_
  have C496 := c496_mo_begin hH hB hW d 
  have C429 := c429_mo_begin hH hB hW d 
  have C406 := c406_mo_begin hH hB hW d 
  have C316 := c316_mo_begin hH hB hW d 
  have C314 := c314_mo_begin hH hB hW d 
  have C267 := c267_mo_begin hH hB hW d 
  have C217 := c217_mo_begin hH hB hW d 
  have C87 := c87_mo_begin hH hB hW d 
  have hF : FR md_mo_begin S S := FR.rf
  have w1 : 0 ≤ Xi S 904 117 ∧ Xi S 904 117 ≤ 480 := hH.c _ _
  have w2 : 0 ≤ Xi S 904 125 ∧ Xi S 904 125 ≤ 192 := hH.c _ _
  have w3 : 0 ≤ Xi S 904 130 ∧ Xi S 904 130 ≤ 24 := hH.c _ _
  have w4 : 0 ≤ Xi S 904 15 ∧ Xi S 904 15 ≤ 300 := hH.c _ _
  have w5 : 0 ≤ Xi S 904 16 ∧ Xi S 904 16 ≤ 16 := hH.c _ _
  have w6 : 0 ≤ Xi S 904 18 ∧ Xi S 904 18 ≤ 8 := hH.c _ _
  have w7 : 0 ≤ Xi S 904 19 ∧ Xi S 904 19 ≤ 24 := hH.c _ _
  have w8 : 0 ≤ Xi S 904 23 ∧ Xi S 904 23 ≤ 24 := hH.c _ _
  have w9 : 0 ≤ Xi S 904 30 ∧ Xi S 904 30 ≤ 64 := hH.c _ _
  have w10 : 0 ≤ Xi S 904 32 ∧ Xi S 904 32 ≤ 12 := hH.c _ _
  have w11 : 0 ≤ Xi S 904 41 ∧ Xi S 904 41 ≤ 6 := hH.c _ _
  have w12 : 0 ≤ Xi S 904 47 ∧ Xi S 904 47 ≤ 8 := hH.c _ _
  have w13 : 0 ≤ Xi S 904 49 ∧ Xi S 904 49 ≤ 12 := hH.c _ _
  have w14 : 0 ≤ Xi S 904 51 ∧ Xi S 904 51 ≤ 200 := hH.c _ _
  have w15 : 0 ≤ Xi S 904 55 ∧ Xi S 904 55 ≤ 20 := hH.c _ _
  have w16 : -1 ≤ Xi S 904 60 ∧ Xi S 904 60 ≤ 23 := hH.c _ _
  refine l_aload_n rfl rfl ?_
  refine l_iconst rfl ?_
  refine l_pfi rfl rfl rfl rfl ?_
  obtain ⟨U53, eU53⟩ : ∃ T : sS, T = uI S 904 15 (Int32.ofInt 0) := ⟨_, rfl⟩
  rw [← eU53]
  have hHU53 : HI U53 := by rw [eU53]; exact HI_w hH (show 0 ≤ 0 by omega) (show 0 ≤ 300 by omega)
  have hFU53 : FR md_mo_begin S U53 := by rw [eU53]; exact FR.wI hF (mdf_i (r := (904, 905, 15, 16)) (List.mem_of_getElem? (i := 0) rfl) (inR_i (by omega) (by omega) (by omega) (by omega)))
  have w2226 : Xi U53 904 15 = 0 := by rw [eU53]; exact Xi_same (by unfold rg; omega)
  refine l_aload_n rfl rfl ?_
  refine l_iconst rfl ?_
  refine l_pfi rfl rfl rfl rfl ?_
  obtain ⟨U54, eU54⟩ : ∃ T : sS, T = uI U53 904 16 (Int32.ofInt 0) := ⟨_, rfl⟩
  rw [← eU54]
  have hHU54 : HI U54 := by rw [eU54]; exact HI_w hHU53 (show 0 ≤ 0 by omega) (show 0 ≤ 16 by omega)
  have hFU54 : FR md_mo_begin S U54 := by rw [eU54]; exact FR.wI hFU53 (mdf_i (r := (904, 905, 16, 17)) (List.mem_of_getElem? (i := 1) rfl) (inR_i (by omega) (by omega) (by omega) (by omega)))
  have w2227 : Xi U54 904 16 = 0 := by rw [eU54]; exact Xi_same (by unfold rg; omega)
  refine l_aload_n rfl rfl ?_
  refine l_iconst rfl ?_
  refine l_pfi rfl rfl rfl rfl ?_
  obtain ⟨U55, eU55⟩ : ∃ T : sS, T = uI U54 904 18 (Int32.ofInt 2) := ⟨_, rfl⟩
  rw [← eU55]
  have hHU55 : HI U55 := by rw [eU55]; exact HI_w hHU54 (show 0 ≤ 2 by omega) (show 2 ≤ 8 by omega)
  have hFU55 : FR md_mo_begin S U55 := by rw [eU55]; exact FR.wI hFU54 (mdf_i (r := (904, 905, 18, 19)) (List.mem_of_getElem? (i := 2) rfl) (inR_i (by omega) (by omega) (by omega) (by omega)))
  have w2228 : Xi U55 904 18 = 2 := by rw [eU55]; exact Xi_same (by unfold rg; omega)
  refine l_aload_n rfl rfl ?_
  refine l_iconst rfl ?_
  refine l_pfi rfl rfl rfl rfl ?_
  obtain ⟨U56, eU56⟩ : ∃ T : sS, T = uI U55 904 19 (Int32.ofInt 0) := ⟨_, rfl⟩
  rw [← eU56]
  have hHU56 : HI U56 := by rw [eU56]; exact HI_w hHU55 (show 0 ≤ 0 by omega) (show 0 ≤ 24 by omega)
  have hFU56 : FR md_mo_begin S U56 := by rw [eU56]; exact FR.wI hFU55 (mdf_i (r := (904, 905, 19, 20)) (List.mem_of_getElem? (i := 3) rfl) (inR_i (by omega) (by omega) (by omega) (by omega)))
  have w2229 : Xi U56 904 19 = 0 := by rw [eU56]; exact Xi_same (by unfold rg; omega)
  refine l_aload_n rfl rfl ?_
  refine l_iconst rfl ?_
  refine l_pfi rfl rfl rfl rfl ?_
  obtain ⟨U57, eU57⟩ : ∃ T : sS, T = uI U56 904 23 (Int32.ofInt 0) := ⟨_, rfl⟩
  rw [← eU57]
  have hHU57 : HI U57 := by rw [eU57]; exact HI_w hHU56 (show 0 ≤ 0 by omega) (show 0 ≤ 24 by omega)
  have hFU57 : FR md_mo_begin S U57 := by rw [eU57]; exact FR.wI hFU56 (mdf_i (r := (904, 905, 23, 24)) (List.mem_of_getElem? (i := 4) rfl) (inR_i (by omega) (by omega) (by omega) (by omega)))
  have w2230 : Xi U57 904 23 = 0 := by rw [eU57]; exact Xi_same (by unfold rg; omega)
  refine l_aload_n rfl rfl ?_
  refine l_iconst rfl ?_
  refine l_pfi rfl rfl rfl rfl ?_
  obtain ⟨U58, eU58⟩ : ∃ T : sS, T = uI U57 904 30 (Int32.ofInt 0) := ⟨_, rfl⟩
  rw [← eU58]
  have hHU58 : HI U58 := by rw [eU58]; exact HI_w hHU57 (show 0 ≤ 0 by omega) (show 0 ≤ 64 by omega)
  have hFU58 : FR md_mo_begin S U58 := by rw [eU58]; exact FR.wI hFU57 (mdf_i (r := (904, 905, 30, 31)) (List.mem_of_getElem? (i := 5) rfl) (inR_i (by omega) (by omega) (by omega) (by omega)))
  have w2231 : Xi U58 904 30 = 0 := by rw [eU58]; exact Xi_same (by unfold rg; omega)
  refine l_aload_n rfl rfl ?_
  refine l_iconst rfl ?_
  refine l_pfi rfl rfl rfl rfl ?_
  obtain ⟨U59, eU59⟩ : ∃ T : sS, T = uI U58 904 32 (Int32.ofInt 1) := ⟨_, rfl⟩
  rw [← eU59]
  have hHU59 : HI U59 := by rw [eU59]; exact HI_w hHU58 (show 0 ≤ 1 by omega) (show 1 ≤ 12 by omega)
  have hFU59 : FR md_mo_begin S U59 := by rw [eU59]; exact FR.wI hFU58 (mdf_i (r := (904, 905, 32, 33)) (List.mem_of_getElem? (i := 6) rfl) (inR_i (by omega) (by omega) (by omega) (by omega)))
  have w2232 : Xi U59 904 32 = 1 := by rw [eU59]; exact Xi_same (by unfold rg; omega)
  refine l_aload_n rfl rfl ?_
  refine l_iconst rfl ?_
  refine l_pfi rfl rfl rfl rfl ?_
  obtain ⟨U60, eU60⟩ : ∃ T : sS, T = uI U59 904 41 (Int32.ofInt 0) := ⟨_, rfl⟩
  rw [← eU60]
  have hHU60 : HI U60 := by rw [eU60]; exact HI_w hHU59 (show 0 ≤ 0 by omega) (show 0 ≤ 6 by omega)
  have hFU60 : FR md_mo_begin S U60 := by rw [eU60]; exact FR.wI hFU59 (mdf_i (r := (904, 905, 41, 42)) (List.mem_of_getElem? (i := 7) rfl) (inR_i (by omega) (by omega) (by omega) (by omega)))
  have w2233 : Xi U60 904 41 = 0 := by rw [eU60]; exact Xi_same (by unfold rg; omega)
  refine l_aload_n rfl rfl ?_
  refine l_iconst rfl ?_
  refine l_pfi rfl rfl rfl rfl ?_
  obtain ⟨U61, eU61⟩ : ∃ T : sS, T = uI U60 904 47 (Int32.ofInt 0) := ⟨_, rfl⟩
  rw [← eU61]
  have hHU61 : HI U61 := by rw [eU61]; exact HI_w hHU60 (show 0 ≤ 0 by omega) (show 0 ≤ 8 by omega)
  have hFU61 : FR md_mo_begin S U61 := by rw [eU61]; exact FR.wI hFU60 (mdf_i (r := (904, 905, 47, 48)) (List.mem_of_getElem? (i := 8) rfl) (inR_i (by omega) (by omega) (by omega) (by omega)))
  have w2234 : Xi U61 904 47 = 0 := by rw [eU61]; exact Xi_same (by unfold rg; omega)
  refine l_aload_n rfl rfl ?_
  refine l_iconst rfl ?_
  refine l_pfi rfl rfl rfl rfl ?_
  obtain ⟨U62, eU62⟩ : ∃ T : sS, T = uI U61 904 49 (Int32.ofInt 0) := ⟨_, rfl⟩
  rw [← eU62]
  have hHU62 : HI U62 := by rw [eU62]; exact HI_w hHU61 (show 0 ≤ 0 by omega) (show 0 ≤ 12 by omega)
  have hFU62 : FR md_mo_begin S U62 := by rw [eU62]; exact FR.wI hFU61 (mdf_i (r := (904, 905, 49, 50)) (List.mem_of_getElem? (i := 9) rfl) (inR_i (by omega) (by omega) (by omega) (by omega)))
  have w2235 : Xi U62 904 49 = 0 := by rw [eU62]; exact Xi_same (by unfold rg; omega)
  refine l_aload_n rfl rfl ?_
  refine l_iconst rfl ?_
  refine l_pfi rfl rfl rfl rfl ?_
  obtain ⟨U63, eU63⟩ : ∃ T : sS, T = uI U62 904 51 (Int32.ofInt 0) := ⟨_, rfl⟩
  rw [← eU63]
  have hHU63 : HI U63 := by rw [eU63]; exact HI_w hHU62 (show 0 ≤ 0 by omega) (show 0 ≤ 200 by omega)
  have hFU63 : FR md_mo_begin S U63 := by rw [eU63]; exact FR.wI hFU62 (mdf_i (r := (904, 905, 51, 52)) (List.mem_of_getElem? (i := 10) rfl) (inR_i (by omega) (by omega) (by omega) (by omega)))
  have w2236 : Xi U63 904 51 = 0 := by rw [eU63]; exact Xi_same (by unfold rg; omega)
  refine l_aload_n rfl rfl ?_
  refine l_iconst rfl ?_
  refine l_pfi rfl rfl rfl rfl ?_
  obtain ⟨U64, eU64⟩ : ∃ T : sS, T = uI U63 904 55 (Int32.ofInt 0) := ⟨_, rfl⟩
  rw [← eU64]
  have hHU64 : HI U64 := by rw [eU64]; exact HI_w hHU63 (show 0 ≤ 0 by omega) (show 0 ≤ 20 by omega)
  have hFU64 : FR md_mo_begin S U64 := by rw [eU64]; exact FR.wI hFU63 (mdf_i (r := (904, 905, 55, 56)) (List.mem_of_getElem? (i := 11) rfl) (inR_i (by omega) (by omega) (by omega) (by omega)))
  have w2237 : Xi U64 904 55 = 0 := by rw [eU64]; exact Xi_same (by unfold rg; omega)
  refine l_aload_n rfl rfl ?_
  refine l_iconst rfl ?_
  refine l_pfi rfl rfl rfl rfl ?_
  obtain ⟨U65, eU65⟩ : ∃ T : sS, T = uI U64 904 130 (Int32.ofInt 0) := ⟨_, rfl⟩
  rw [← eU65]
  have hHU65 : HI U65 := by rw [eU65]; exact HI_w hHU64 (show 0 ≤ 0 by omega) (show 0 ≤ 24 by omega)
  have hFU65 : FR md_mo_begin S U65 := by rw [eU65]; exact FR.wI hFU64 (mdf_i (r := (904, 905, 130, 131)) (List.mem_of_getElem? (i := 15) rfl) (inR_i (by omega) (by omega) (by omega) (by omega)))
  have w2238 : Xi U65 904 130 = 0 := by rw [eU65]; exact Xi_same (by unfold rg; omega)
  refine l_aload_n rfl rfl ?_
  refine l_iconst rfl ?_
  refine l_pfi rfl rfl rfl rfl ?_
  obtain ⟨U66, eU66⟩ : ∃ T : sS, T = uI U65 904 117 (Int32.ofInt 0) := ⟨_, rfl⟩
  rw [← eU66]
  have hHU66 : HI U66 := by rw [eU66]; exact HI_w hHU65 (show 0 ≤ 0 by omega) (show 0 ≤ 480 by omega)
  have hFU66 : FR md_mo_begin S U66 := by rw [eU66]; exact FR.wI hFU65 (mdf_i (r := (904, 905, 117, 118)) (List.mem_of_getElem? (i := 13) rfl) (inR_i (by omega) (by omega) (by omega) (by omega)))
  have w2239 : Xi U66 904 117 = 0 := by rw [eU66]; exact Xi_same (by unfold rg; omega)
  refine l_aload_n rfl rfl ?_
  refine l_iconst rfl ?_
  refine l_pfi rfl rfl rfl rfl ?_
  obtain ⟨U67, eU67⟩ : ∃ T : sS, T = uI U66 904 125 (Int32.ofInt 0) := ⟨_, rfl⟩
  rw [← eU67]
  have hHU67 : HI U67 := by rw [eU67]; exact HI_w hHU66 (show 0 ≤ 0 by omega) (show 0 ≤ 192 by omega)
  have hFU67 : FR md_mo_begin S U67 := by rw [eU67]; exact FR.wI hFU66 (mdf_i (r := (904, 905, 125, 126)) (List.mem_of_getElem? (i := 14) rfl) (inR_i (by omega) (by omega) (by omega) (by omega)))
  have w2240 : Xi U67 904 125 = 0 := by rw [eU67]; exact Xi_same (by unfold rg; omega)
  refine l_aload_n rfl rfl ?_
  refine l_iconst rfl ?_
  refine l_pfi rfl rfl rfl rfl ?_
  obtain ⟨U68, eU68⟩ : ∃ T : sS, T = uI U67 904 60 (Int32.ofInt (-1)) := ⟨_, rfl⟩
  rw [← eU68]
  have hHU68 : HI U68 := by rw [eU68]; exact HI_w hHU67 (show -1 ≤ (-1) by omega) (show (-1) ≤ 23 by omega)
  have hFU68 : FR md_mo_begin S U68 := by rw [eU68]; exact FR.wI hFU67 (mdf_i (r := (904, 905, 60, 61)) (List.mem_of_getElem? (i := 12) rfl) (inR_i (by omega) (by omega) (by omega) (by omega)))
  have w2241 : Xi U68 904 60 = (-1) := by rw [eU68]; exact Xi_same (by unfold rg; omega)
  refine l_aload_n rfl rfl ?_
  refine l_iconst rfl ?_
  refine l_pfi rfl rfl rfl rfl ?_
  obtain ⟨U69, eU69⟩ : ∃ T : sS, T = uI U68 904 156 (Int32.ofInt 0) := ⟨_, rfl⟩
  rw [← eU69]
  have hHU69 : HI U69 := by rw [eU69]; exact HI_w hHU68 (show 0 ≤ 0 by omega) (show 0 ≤ 2000 by omega)
  have hFU69 : FR md_mo_begin S U69 := by rw [eU69]; exact FR.wI hFU68 (mdf_i (r := (904, 905, 156, 157)) (List.mem_of_getElem? (i := 16) rfl) (inR_i (by omega) (by omega) (by omega) (by omega)))
  have w2242 : Xi U69 904 156 = 0 := by rw [eU69]; exact Xi_same (by unfold rg; omega)
  refine l_iconst rfl ?_
  refine l_istore_n rfl rfl rfl ?_
  have w2243 : Xi U69 904 117 = Xi U66 904 117 := (show Xi U69 904 117 = Xi U68 904 117 from by rw [eU69]; exact Xi_ne (by omega)).trans ( (show Xi U68 904 117 = Xi U67 904 117 from by rw [eU68]; exact Xi_ne (by omega)).trans ((show Xi U67 904 117 = Xi U66 904 117 from by rw [eU67]; exact Xi_ne (by omega))))
  have w2244 : 0 ≤ Xi U66 904 117 ∧ Xi U66 904 117 ≤ 480 := hHU66.c _ _
  have w2245 : Xi U69 904 125 = Xi U67 904 125 := (show Xi U69 904 125 = Xi U68 904 125 from by rw [eU69]; exact Xi_ne (by omega)).trans ((show Xi U68 904 125 = Xi U67 904 125 from by rw [eU68]; exact Xi_ne (by omega)))
  have w2246 : 0 ≤ Xi U67 904 125 ∧ Xi U67 904 125 ≤ 192 := hHU67.c _ _
  have w2247 : Xi U69 904 130 = Xi U65 904 130 := (show Xi U69 904 130 = Xi U68 904 130 from by rw [eU69]; exact Xi_ne (by omega)).trans ( (show Xi U68 904 130 = Xi U67 904 130 from by rw [eU68]; exact Xi_ne (by omega)).trans ( (show Xi U67 904 130 = Xi U66 904 130 from by rw [eU67]; exact Xi_ne (by omega)).trans ((show Xi U66 904 130 = Xi U65 904 130 from by rw [eU66]; exact Xi_ne (by omega)))))
  have w2248 : 0 ≤ Xi U65 904 130 ∧ Xi U65 904 130 ≤ 24 := hHU65.c _ _
  have w2249 : Xi U69 904 15 = Xi U53 904 15 := (show Xi U69 904 15 = Xi U68 904 15 from by rw [eU69]; exact Xi_ne (by omega)).trans ( (show Xi U68 904 15 = Xi U67 904 15 from by rw [eU68]; exact Xi_ne (by omega)).trans ( (show Xi U67 904 15 = Xi U66 904 15 from by rw [eU67]; exact Xi_ne (by omega)).trans ( (show Xi U66 904 15 = Xi U65 904 15 from by rw [eU66]; exact Xi_ne (by omega)).trans ( (show Xi U65 904 15 = Xi U64 904 15 from by rw [eU65]; exact Xi_ne (by omega)).trans ( (show Xi U64 904 15 = Xi U63 904 15 from by rw [eU64]; exact Xi_ne (by omega)).trans ( (show Xi U63 904 15 = Xi U62 904 15 from by rw [eU63]; exact Xi_ne (by omega)).trans ( (show Xi U62 904 15 = Xi U61 904 15 from by rw [eU62]; exact Xi_ne (by omega)).trans ( (show Xi U61 904 15 = Xi U60 904 15 from by rw [eU61]; exact Xi_ne (by omega)).trans ( (show Xi U60 904 15 = Xi U59 904 15 from by rw [eU60]; exact Xi_ne (by omega)).trans ( (show Xi U59 904 15 = Xi U58 904 15 from by rw [eU59]; exact Xi_ne (by omega)).trans ( (show Xi U58 904 15 = Xi U57 904 15 from by rw [eU58]; exact Xi_ne (by omega)).trans ( (show Xi U57 904 15 = Xi U56 904 15 from by rw [eU57]; exact Xi_ne (by omega)).trans ( (show Xi U56 904 15 = Xi U55 904 15 from by rw [eU56]; exact Xi_ne (by omega)).trans ( (show Xi U55 904 15 = Xi U54 904 15 from by rw [eU55]; exact Xi_ne (by omega)).trans ((show Xi U54 904 15 = Xi U53 904 15 from by rw [eU54]; exact Xi_ne (by omega)))))))))))))))))
  have w2250 : 0 ≤ Xi U53 904 15 ∧ Xi U53 904 15 ≤ 300 := hHU53.c _ _
  have w2251 : Xi U69 904 16 = Xi U54 904 16 := (show Xi U69 904 16 = Xi U68 904 16 from by rw [eU69]; exact Xi_ne (by omega)).trans ( (show Xi U68 904 16 = Xi U67 904 16 from by rw [eU68]; exact Xi_ne (by omega)).trans ( (show Xi U67 904 16 = Xi U66 904 16 from by rw [eU67]; exact Xi_ne (by omega)).trans ( (show Xi U66 904 16 = Xi U65 904 16 from by rw [eU66]; exact Xi_ne (by omega)).trans ( (show Xi U65 904 16 = Xi U64 904 16 from by rw [eU65]; exact Xi_ne (by omega)).trans ( (show Xi U64 904 16 = Xi U63 904 16 from by rw [eU64]; exact Xi_ne (by omega)).trans ( (show Xi U63 904 16 = Xi U62 904 16 from by rw [eU63]; exact Xi_ne (by omega)).trans ( (show Xi U62 904 16 = Xi U61 904 16 from by rw [eU62]; exact Xi_ne (by omega)).trans ( (show Xi U61 904 16 = Xi U60 904 16 from by rw [eU61]; exact Xi_ne (by omega)).trans ( (show Xi U60 904 16 = Xi U59 904 16 from by rw [eU60]; exact Xi_ne (by omega)).trans ( (show Xi U59 904 16 = Xi U58 904 16 from by rw [eU59]; exact Xi_ne (by omega)).trans ( (show Xi U58 904 16 = Xi U57 904 16 from by rw [eU58]; exact Xi_ne (by omega)).trans ( (show Xi U57 904 16 = Xi U56 904 16 from by rw [eU57]; exact Xi_ne (by omega)).trans ( (show Xi U56 904 16 = Xi U55 904 16 from by rw [eU56]; exact Xi_ne (by omega)).trans ((show Xi U55 904 16 = Xi U54 904 16 from by rw [eU55]; exact Xi_ne (by omega))))))))))))))))
  have w2252 : 0 ≤ Xi U54 904 16 ∧ Xi U54 904 16 ≤ 16 := hHU54.c _ _
  have w2253 : Xi U69 904 18 = Xi U55 904 18 := (show Xi U69 904 18 = Xi U68 904 18 from by rw [eU69]; exact Xi_ne (by omega)).trans ( (show Xi U68 904 18 = Xi U67 904 18 from by rw [eU68]; exact Xi_ne (by omega)).trans ( (show Xi U67 904 18 = Xi U66 904 18 from by rw [eU67]; exact Xi_ne (by omega)).trans ( (show Xi U66 904 18 = Xi U65 904 18 from by rw [eU66]; exact Xi_ne (by omega)).trans ( (show Xi U65 904 18 = Xi U64 904 18 from by rw [eU65]; exact Xi_ne (by omega)).trans ( (show Xi U64 904 18 = Xi U63 904 18 from by rw [eU64]; exact Xi_ne (by omega)).trans ( (show Xi U63 904 18 = Xi U62 904 18 from by rw [eU63]; exact Xi_ne (by omega)).trans ( (show Xi U62 904 18 = Xi U61 904 18 from by rw [eU62]; exact Xi_ne (by omega)).trans ( (show Xi U61 904 18 = Xi U60 904 18 from by rw [eU61]; exact Xi_ne (by omega)).trans ( (show Xi U60 904 18 = Xi U59 904 18 from by rw [eU60]; exact Xi_ne (by omega)).trans ( (show Xi U59 904 18 = Xi U58 904 18 from by rw [eU59]; exact Xi_ne (by omega)).trans ( (show Xi U58 904 18 = Xi U57 904 18 from by rw [eU58]; exact Xi_ne (by omega)).trans ( (show Xi U57 904 18 = Xi U56 904 18 from by rw [eU57]; exact Xi_ne (by omega)).trans ((show Xi U56 904 18 = Xi U55 904 18 from by rw [eU56]; exact Xi_ne (by omega)))))))))))))))
  have w2254 : 0 ≤ Xi U55 904 18 ∧ Xi U55 904 18 ≤ 8 := hHU55.c _ _
  have w2255 : Xi U69 904 19 = Xi U56 904 19 := (show Xi U69 904 19 = Xi U68 904 19 from by rw [eU69]; exact Xi_ne (by omega)).trans ( (show Xi U68 904 19 = Xi U67 904 19 from by rw [eU68]; exact Xi_ne (by omega)).trans ( (show Xi U67 904 19 = Xi U66 904 19 from by rw [eU67]; exact Xi_ne (by omega)).trans ( (show Xi U66 904 19 = Xi U65 904 19 from by rw [eU66]; exact Xi_ne (by omega)).trans ( (show Xi U65 904 19 = Xi U64 904 19 from by rw [eU65]; exact Xi_ne (by omega)).trans ( (show Xi U64 904 19 = Xi U63 904 19 from by rw [eU64]; exact Xi_ne (by omega)).trans ( (show Xi U63 904 19 = Xi U62 904 19 from by rw [eU63]; exact Xi_ne (by omega)).trans ( (show Xi U62 904 19 = Xi U61 904 19 from by rw [eU62]; exact Xi_ne (by omega)).trans ( (show Xi U61 904 19 = Xi U60 904 19 from by rw [eU61]; exact Xi_ne (by omega)).trans ( (show Xi U60 904 19 = Xi U59 904 19 from by rw [eU60]; exact Xi_ne (by omega)).trans ( (show Xi U59 904 19 = Xi U58 904 19 from by rw [eU59]; exact Xi_ne (by omega)).trans ( (show Xi U58 904 19 = Xi U57 904 19 from by rw [eU58]; exact Xi_ne (by omega)).trans ((show Xi U57 904 19 = Xi U56 904 19 from by rw [eU57]; exact Xi_ne (by omega))))))))))))))
  have w2256 : 0 ≤ Xi U56 904 19 ∧ Xi U56 904 19 ≤ 24 := hHU56.c _ _
  have w2257 : Xi U69 904 23 = Xi U57 904 23 := (show Xi U69 904 23 = Xi U68 904 23 from by rw [eU69]; exact Xi_ne (by omega)).trans ( (show Xi U68 904 23 = Xi U67 904 23 from by rw [eU68]; exact Xi_ne (by omega)).trans ( (show Xi U67 904 23 = Xi U66 904 23 from by rw [eU67]; exact Xi_ne (by omega)).trans ( (show Xi U66 904 23 = Xi U65 904 23 from by rw [eU66]; exact Xi_ne (by omega)).trans ( (show Xi U65 904 23 = Xi U64 904 23 from by rw [eU65]; exact Xi_ne (by omega)).trans ( (show Xi U64 904 23 = Xi U63 904 23 from by rw [eU64]; exact Xi_ne (by omega)).trans ( (show Xi U63 904 23 = Xi U62 904 23 from by rw [eU63]; exact Xi_ne (by omega)).trans ( (show Xi U62 904 23 = Xi U61 904 23 from by rw [eU62]; exact Xi_ne (by omega)).trans ( (show Xi U61 904 23 = Xi U60 904 23 from by rw [eU61]; exact Xi_ne (by omega)).trans ( (show Xi U60 904 23 = Xi U59 904 23 from by rw [eU60]; exact Xi_ne (by omega)).trans ( (show Xi U59 904 23 = Xi U58 904 23 from by rw [eU59]; exact Xi_ne (by omega)).trans ((show Xi U58 904 23 = Xi U57 904 23 from by rw [eU58]; exact Xi_ne (by omega)))))))))))))
  have w2258 : 0 ≤ Xi U57 904 23 ∧ Xi U57 904 23 ≤ 24 := hHU57.c _ _
  have w2259 : Xi U69 904 30 = Xi U58 904 30 := (show Xi U69 904 30 = Xi U68 904 30 from by rw [eU69]; exact Xi_ne (by omega)).trans ( (show Xi U68 904 30 = Xi U67 904 30 from by rw [eU68]; exact Xi_ne (by omega)).trans ( (show Xi U67 904 30 = Xi U66 904 30 from by rw [eU67]; exact Xi_ne (by omega)).trans ( (show Xi U66 904 30 = Xi U65 904 30 from by rw [eU66]; exact Xi_ne (by omega)).trans ( (show Xi U65 904 30 = Xi U64 904 30 from by rw [eU65]; exact Xi_ne (by omega)).trans ( (show Xi U64 904 30 = Xi U63 904 30 from by rw [eU64]; exact Xi_ne (by omega)).trans ( (show Xi U63 904 30 = Xi U62 904 30 from by rw [eU63]; exact Xi_ne (by omega)).trans ( (show Xi U62 904 30 = Xi U61 904 30 from by rw [eU62]; exact Xi_ne (by omega)).trans ( (show Xi U61 904 30 = Xi U60 904 30 from by rw [eU61]; exact Xi_ne (by omega)).trans ( (show Xi U60 904 30 = Xi U59 904 30 from by rw [eU60]; exact Xi_ne (by omega)).trans ((show Xi U59 904 30 = Xi U58 904 30 from by rw [eU59]; exact Xi_ne (by omega))))))))))))
  have w2260 : 0 ≤ Xi U58 904 30 ∧ Xi U58 904 30 ≤ 64 := hHU58.c _ _
  have w2261 : Xi U69 904 32 = Xi U59 904 32 := (show Xi U69 904 32 = Xi U68 904 32 from by rw [eU69]; exact Xi_ne (by omega)).trans ( (show Xi U68 904 32 = Xi U67 904 32 from by rw [eU68]; exact Xi_ne (by omega)).trans ( (show Xi U67 904 32 = Xi U66 904 32 from by rw [eU67]; exact Xi_ne (by omega)).trans ( (show Xi U66 904 32 = Xi U65 904 32 from by rw [eU66]; exact Xi_ne (by omega)).trans ( (show Xi U65 904 32 = Xi U64 904 32 from by rw [eU65]; exact Xi_ne (by omega)).trans ( (show Xi U64 904 32 = Xi U63 904 32 from by rw [eU64]; exact Xi_ne (by omega)).trans ( (show Xi U63 904 32 = Xi U62 904 32 from by rw [eU63]; exact Xi_ne (by omega)).trans ( (show Xi U62 904 32 = Xi U61 904 32 from by rw [eU62]; exact Xi_ne (by omega)).trans ( (show Xi U61 904 32 = Xi U60 904 32 from by rw [eU61]; exact Xi_ne (by omega)).trans ((show Xi U60 904 32 = Xi U59 904 32 from by rw [eU60]; exact Xi_ne (by omega)))))))))))
  have w2262 : 0 ≤ Xi U59 904 32 ∧ Xi U59 904 32 ≤ 12 := hHU59.c _ _
  have w2263 : Xi U69 904 41 = Xi U60 904 41 := (show Xi U69 904 41 = Xi U68 904 41 from by rw [eU69]; exact Xi_ne (by omega)).trans ( (show Xi U68 904 41 = Xi U67 904 41 from by rw [eU68]; exact Xi_ne (by omega)).trans ( (show Xi U67 904 41 = Xi U66 904 41 from by rw [eU67]; exact Xi_ne (by omega)).trans ( (show Xi U66 904 41 = Xi U65 904 41 from by rw [eU66]; exact Xi_ne (by omega)).trans ( (show Xi U65 904 41 = Xi U64 904 41 from by rw [eU65]; exact Xi_ne (by omega)).trans ( (show Xi U64 904 41 = Xi U63 904 41 from by rw [eU64]; exact Xi_ne (by omega)).trans ( (show Xi U63 904 41 = Xi U62 904 41 from by rw [eU63]; exact Xi_ne (by omega)).trans ( (show Xi U62 904 41 = Xi U61 904 41 from by rw [eU62]; exact Xi_ne (by omega)).trans ((show Xi U61 904 41 = Xi U60 904 41 from by rw [eU61]; exact Xi_ne (by omega))))))))))
  have w2264 : 0 ≤ Xi U60 904 41 ∧ Xi U60 904 41 ≤ 6 := hHU60.c _ _
  have w2265 : Xi U69 904 47 = Xi U61 904 47 := (show Xi U69 904 47 = Xi U68 904 47 from by rw [eU69]; exact Xi_ne (by omega)).trans ( (show Xi U68 904 47 = Xi U67 904 47 from by rw [eU68]; exact Xi_ne (by omega)).trans ( (show Xi U67 904 47 = Xi U66 904 47 from by rw [eU67]; exact Xi_ne (by omega)).trans ( (show Xi U66 904 47 = Xi U65 904 47 from by rw [eU66]; exact Xi_ne (by omega)).trans ( (show Xi U65 904 47 = Xi U64 904 47 from by rw [eU65]; exact Xi_ne (by omega)).trans ( (show Xi U64 904 47 = Xi U63 904 47 from by rw [eU64]; exact Xi_ne (by omega)).trans ( (show Xi U63 904 47 = Xi U62 904 47 from by rw [eU63]; exact Xi_ne (by omega)).trans ((show Xi U62 904 47 = Xi U61 904 47 from by rw [eU62]; exact Xi_ne (by omega)))))))))
  have w2266 : 0 ≤ Xi U61 904 47 ∧ Xi U61 904 47 ≤ 8 := hHU61.c _ _
  have w2267 : Xi U69 904 49 = Xi U62 904 49 := (show Xi U69 904 49 = Xi U68 904 49 from by rw [eU69]; exact Xi_ne (by omega)).trans ( (show Xi U68 904 49 = Xi U67 904 49 from by rw [eU68]; exact Xi_ne (by omega)).trans ( (show Xi U67 904 49 = Xi U66 904 49 from by rw [eU67]; exact Xi_ne (by omega)).trans ( (show Xi U66 904 49 = Xi U65 904 49 from by rw [eU66]; exact Xi_ne (by omega)).trans ( (show Xi U65 904 49 = Xi U64 904 49 from by rw [eU65]; exact Xi_ne (by omega)).trans ( (show Xi U64 904 49 = Xi U63 904 49 from by rw [eU64]; exact Xi_ne (by omega)).trans ((show Xi U63 904 49 = Xi U62 904 49 from by rw [eU63]; exact Xi_ne (by omega))))))))
  have w2268 : 0 ≤ Xi U62 904 49 ∧ Xi U62 904 49 ≤ 12 := hHU62.c _ _
  have w2269 : Xi U69 904 51 = Xi U63 904 51 := (show Xi U69 904 51 = Xi U68 904 51 from by rw [eU69]; exact Xi_ne (by omega)).trans ( (show Xi U68 904 51 = Xi U67 904 51 from by rw [eU68]; exact Xi_ne (by omega)).trans ( (show Xi U67 904 51 = Xi U66 904 51 from by rw [eU67]; exact Xi_ne (by omega)).trans ( (show Xi U66 904 51 = Xi U65 904 51 from by rw [eU66]; exact Xi_ne (by omega)).trans ( (show Xi U65 904 51 = Xi U64 904 51 from by rw [eU65]; exact Xi_ne (by omega)).trans ((show Xi U64 904 51 = Xi U63 904 51 from by rw [eU64]; exact Xi_ne (by omega)))))))
  have w2270 : 0 ≤ Xi U63 904 51 ∧ Xi U63 904 51 ≤ 200 := hHU63.c _ _
  have w2271 : Xi U69 904 55 = Xi U64 904 55 := (show Xi U69 904 55 = Xi U68 904 55 from by rw [eU69]; exact Xi_ne (by omega)).trans ( (show Xi U68 904 55 = Xi U67 904 55 from by rw [eU68]; exact Xi_ne (by omega)).trans ( (show Xi U67 904 55 = Xi U66 904 55 from by rw [eU67]; exact Xi_ne (by omega)).trans ( (show Xi U66 904 55 = Xi U65 904 55 from by rw [eU66]; exact Xi_ne (by omega)).trans ((show Xi U65 904 55 = Xi U64 904 55 from by rw [eU65]; exact Xi_ne (by omega))))))
  have w2272 : 0 ≤ Xi U64 904 55 ∧ Xi U64 904 55 ≤ 20 := hHU64.c _ _
  have w2273 : Xi U69 904 60 = Xi U68 904 60 := (show Xi U69 904 60 = Xi U68 904 60 from by rw [eU69]; exact Xi_ne (by omega))
  have w2274 : -1 ≤ Xi U68 904 60 ∧ Xi U68 904 60 ≤ 23 := hHU68.c _ _
  exact Rl_weak (C87 _ U69 hHU69 hFU69 (0) (by omega) (by omega) (by omega) (by omega) (by omega) (by omega) (by omega) (by omega) (by omega) (by omega) (by omega) (by omega) (by omega) (by omega) (by omega) (by omega) (by omega) (by first | assumption | exact (ABV_FR (FR_e eU69) rfl (ABV_FR (FR_e eU68) rfl (ABV_FR (FR_e eU67) rfl (ABV_FR (FR_e eU66) rfl (ABV_FR (FR_e eU65) rfl (ABV_FR (FR_e eU64) rfl (ABV_FR (FR_e eU63) rfl (ABV_FR (FR_e eU62) rfl (ABV_FR (FR_e eU61) rfl (ABV_FR (FR_e eU60) rfl (ABV_FR (FR_e eU59) rfl (ABV_FR (FR_e eU58) rfl (ABV_FR (FR_e eU57) rfl (ABV_FR (FR_e eU56) rfl (ABV_FR (FR_e eU55) rfl (ABV_FR (FR_e eU54) rfl (ABV_FR (FR_e eU53) rfl (by assumption : ABV S))))))))))))))))))) (by first | assumption | exact (WYM_FR (FR_e eU69) rfl (WYM_FR (FR_e eU68) rfl (WYM_FR (FR_e eU67) rfl (WYM_FR (FR_e eU66) rfl (WYM_FR (FR_e eU65) rfl (WYM_FR (FR_e eU64) rfl (WYM_FR (FR_e eU63) rfl (WYM_FR (FR_e eU62) rfl (WYM_FR (FR_e eU61) rfl (WYM_FR (FR_e eU60) rfl (WYM_FR (FR_e eU59) rfl (WYM_FR (FR_e eU58) rfl (WYM_FR (FR_e eU57) rfl (WYM_FR (FR_e eU56) rfl (WYM_FR (FR_e eU55) rfl (WYM_FR (FR_e eU54) rfl (WYM_FR (FR_e eU53) rfl (by assumption : WYM S))))))))))))))))))) (by first | assumption | exact (TXM_FR (FR_e eU69) rfl (TXM_FR (FR_e eU68) rfl (TXM_FR (FR_e eU67) rfl (TXM_FR (FR_e eU66) rfl (TXM_FR (FR_e eU65) rfl (TXM_FR (FR_e eU64) rfl (TXM_FR (FR_e eU63) rfl (TXM_FR (FR_e eU62) rfl (TXM_FR (FR_e eU61) rfl (TXM_FR (FR_e eU60) rfl (by assumption : TXM U59))))))))))) | exact txm_00 (by omega) (fun j hj => absurd hj (by omega))) (by first | assumption | exact lxm_0 (by omega)) (by first | exact fun j hj => absurd hj (by omega) | exact fun j hj => ((by assumption : FR md_mo_tellWord U68 U69).cx 933 rfl j).1.trans (Z159 j hj)) rfl) (And.intro rfl (And.intro rfl (True.intro)))


