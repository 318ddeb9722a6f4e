/-! SAFETY of methods: printed by wip/safe (vc.py, decl.py) -/
theorem adr_c {T : sS} {a b k v a2 b2 k2 v2 f : Int} (e1 : a = a2) (e2 : b = b2) (e3 : k = k2) (e4 : v = v2) : adR T a b k f v = adR T a2 b2 k2 f v2 := by rw [e1, e2, e3, e4]
def md_mo_askFifteen : List rec := [(904, 905, 64, 65), (904, 905, 104, 105), (904, 905, 105, 106), (904, 905, 106, 107), (904, 905, 108, 109), (904, 905, 109, 110), (904, 905, 110, 111), (904, 905, 112, 113), (904, 905, 113, 114), (904, 905, 142, 143), (966, 967, 0, 100000), (967, 968, 0, 100000), (968, 969, 0, 100000)]
abbrev Q_mo_askFifteen (S : sS) (n : Nat) : pst := fun r S1 => HI S1 ∧ FR md_mo_askFifteen S S1 ∧ (r = none ∧ (Xi S1 904 106 = 0 → Xi S1 904 142 = 1 → rnR S (Xi S 904 71) 0 ≠ -1 ∧ ADM S (Xi S1 967 0)) ∧ (Xi S1 904 106 = 0 → Xi S1 904 142 = 2 → 1 < r2R S (Xi S 904 71) 2 3 ∧ cvR S (r2R S (Xi S 904 71) 2 3) (Xi S 904 30).toNat + (Xi S 904 69 - Xi S 904 78) ≤ 8 ∧ ∀ r : Int, Xi S 904 78 ≤ r → r < Xi S 904 69 → Xi S 951 r.toNat ≤ 3) ∧ (Xi S1 904 106 = 0 → Xi S1 904 142 = 3 → ONA S ∧ Xi S1 904 110 < Xi S 904 16 ∧ ∀ i : Nat, (i : Int) < Xi S1 904 112 → ADM S (Xi S1 967 i)) ∧ (Xi S1 904 106 = 0 → Xi S1 904 142 ≠ 1 → Xi S1 904 142 ≠ 2 → Xi S1 904 142 ≠ 3 → AQ4 S))
set_option maxRecDepth 100000 in
set_option maxHeartbeats 4000000 in
theorem c78_mo_askFifteen {S : sS} (hH : HI S) (n : Nat) (hT : TK S n) (hv : RNV S n) (hM : LXM S) (hN : NWV S) (hB : ABV S) (hC : DCM S) (hl : Xi S 904 71 + Xi S 904 72 ≤ Xi S 904 69) (h1 : 1 ≤ Xi S 904 72) (h9 : Xi S 904 108 = 0) (hw : 0 ≤ Xi S 904 78 ∧ Xi S 904 78 < Xi S 904 69) (d : Nat) : ∀  (T1 : sS) (_ : HI T1) (_ : FR md_mo_askFifteen S T1) (v2 : Int) (v4 : Int), (0 ≤ v2 ∧ v2 ≤ 5001) → (0 ≤ v4 ∧ v4 ≤ 12) → (Xi T1 904 69 = Xi S 904 69) → (Xi T1 904 70 = Xi S 904 70) → (Xi T1 904 71 = Xi S 904 71) → (Xi T1 904 72 = Xi S 904 72) → (Xi T1 904 75 = Xi S 904 75) → (Xi T1 904 78 = Xi S 904 78) → (v2 = Xi S 950 (Xi S 904 78).toNat) → (Xi T1 904 142 = 1) → (rnR S (Xi S 904 71) 0 ≠ -1) → (1 ≤ v4 → ADM S (Xi T1 904 113)) → Rl lay0 (d + 10) m_mo_askFifteen 78 [(0, .ref 904), (2, iv v2), (4, iv v4)] [] T1 (Q_mo_askFifteen S n) := by
  have hF : FR md_mo_askFifteen S S := FR.rf
  have w1 : 0 ≤ Xi S 904 106 ∧ Xi S 904 106 ≤ 9 := hH.c _ _
  have w2 : 0 ≤ Xi S 904 108 ∧ Xi S 904 108 ≤ 2600 := hH.c _ _
  have w3 : -2147483648 ≤ Xi S 904 109 ∧ Xi S 904 109 ≤ 2147483647 := Xi_rgI
  have w4 : -1 ≤ Xi S 904 113 ∧ Xi S 904 113 ≤ 6411 := hH.c _ _
  have w5 : 0 ≤ Xi S 904 142 ∧ Xi S 904 142 ≤ 4 := hH.c _ _
  have w6 : 0 ≤ Xi S 904 16 ∧ Xi S 904 16 ≤ 16 := hH.c _ _
  have w7 : 0 ≤ Xi S 904 30 ∧ Xi S 904 30 ≤ 64 := hH.c _ _
  have w8 : 0 ≤ Xi S 904 69 ∧ Xi S 904 69 ≤ 2600 := hH.c _ _
  have w9 : 0 ≤ Xi S 904 70 ∧ Xi S 904 70 ≤ 20 := hH.c _ _
  have w10 : 0 ≤ Xi S 904 71 ∧ Xi S 904 71 ≤ 2600 := hH.c _ _
  have w11 : 0 ≤ Xi S 904 72 ∧ Xi S 904 72 ≤ 2600 := hH.c _ _
  have w12 : 0 ≤ Xi S 904 75 ∧ Xi S 904 75 ≤ 1 := hH.c _ _
  have w13 : -2 ≤ Xi S 904 78 ∧ Xi S 904 78 ≤ 5010 := hH.c _ _
  have hn5 := hT.1
  have hc69 : 0 ≤ Xi S 904 69 ∧ Xi S 904 69 ≤ 2600 := hH.c _ _
  have hc71 : 0 ≤ Xi S 904 71 ∧ Xi S 904 71 ≤ 2600 := hH.c _ _
  have hc72 : 0 ≤ Xi S 904 72 ∧ Xi S 904 72 ≤ 2600 := hH.c _ _
  have hrf : ∀ r : Int, 0 ≤ r → r < Xi S 904 69 → Xi S 950 r.toNat ≤ n := fun r a b => by have := hv r.toNat (by omega); omega
  have hc3 : 0 ≤ Xi S 904 23 ∧ Xi S 904 23 ≤ 24 := hH.c _ _
  have hc19 : 0 ≤ Xi S 904 19 ∧ Xi S 904 19 ≤ 24 := hH.c _ _
  have hc32 : 0 ≤ Xi S 904 32 ∧ Xi S 904 32 ≤ 12 := hH.c _ _
  have hqw : Xi S 950 (Xi S 904 78).toNat + Xi S 951 (Xi S 904 78).toNat ≤ n ∧ 1 ≤ Xi S 951 (Xi S 904 78).toNat := hv (Xi S 904 78).toNat (by omega)
  have hc16 : 0 ≤ Xi S 904 16 ∧ Xi S 904 16 ≤ 16 := hH.c _ _
  have hq7 : 0 ≤ Xi S 950 (Xi S 904 78).toNat := (hH.c 950 _).1
  intro T1 hHT1 hFT1 v2 v4 w14 w15 w16 w17 w18 w19 w20 w21 w22 w23 w24 D78
  have w25 : Xi T1 904 15 = Xi S 904 15 := hFT1.x _ _ rfl
  have w26 : Xi T1 904 16 = Xi S 904 16 := hFT1.x _ _ rfl
  have w27 : Xi T1 904 30 = Xi S 904 30 := hFT1.x _ _ rfl
  have w28 : Xi T1 904 69 = Xi S 904 69 := hFT1.x _ _ rfl
  have w29 : Xi T1 904 70 = Xi S 904 70 := hFT1.x _ _ rfl
  have w30 : Xi T1 904 71 = Xi S 904 71 := hFT1.x _ _ rfl
  have w31 : Xi T1 904 72 = Xi S 904 72 := hFT1.x _ _ rfl
  have w32 : Xi T1 904 75 = Xi S 904 75 := hFT1.x _ _ rfl
  have w33 : Xi T1 904 78 = Xi S 904 78 := hFT1.x _ _ rfl
  have w34 : -1 ≤ Xi T1 904 113 ∧ Xi T1 904 113 ≤ 6411 := hHT1.c _ _
  have w35 : 0 ≤ Xi T1 904 142 ∧ Xi T1 904 142 ≤ 4 := hHT1.c _ _
  have w36 : 0 ≤ Xi T1 904 69 ∧ Xi T1 904 69 ≤ 2600 := hHT1.c _ _
  have w37 : 0 ≤ Xi T1 904 70 ∧ Xi T1 904 70 ≤ 20 := hHT1.c _ _
  have w38 : 0 ≤ Xi T1 904 71 ∧ Xi T1 904 71 ≤ 2600 := hHT1.c _ _
  have w39 : 0 ≤ Xi T1 904 72 ∧ Xi T1 904 72 ≤ 2600 := hHT1.c _ _
  have w40 : 0 ≤ Xi T1 904 75 ∧ Xi T1 904 75 ≤ 1 := hHT1.c _ _
  have w41 : -2 ≤ Xi T1 904 78 ∧ Xi T1 904 78 ≤ 5010 := hHT1.c _ _
  refine l_aload_n rfl rfl ?_
  refine l_iload rfl rfl ?_
  refine l_if_le rfl rfl (by unfold rg; omega) (fun w42 => ?_) (fun w43 => ?_)
  · refine l_iconst rfl ?_
    refine l_iconst rfl ?_
    refine l_iload_n rfl rfl ?_
    have w44 : 0 ≤ Xi T1 904 106 ∧ Xi T1 904 106 ≤ 9 := hHT1.c _ _
    refine l_callV rfl rfl rfl (t_mo_need hHT1 0 4 v2 ⟨by omega, by omega⟩ ⟨by omega, by omega⟩ ⟨by omega, by omega⟩ _) ?_
    rintro _ T2 ⟨hHT2, w57, rfl, w54, w55⟩
    have hFT2 : FR md_mo_askFifteen S T2 := FR.tr hFT1 w57 rfl
    show Rl _ _ _ _ _ [] _ _
    refine l_aload_n rfl rfl ?_
    refine l_iload rfl rfl ?_
    refine l_iconst rfl ?_
    refine l_icmp_ge rfl rfl (by unfold rg; omega) (by unfold rg; omega) (fun w58 => ?_) (fun w59 => ?_)
    · refine l_iconst rfl ?_
      refine l_bipush rfl rfl ?_
      refine l_iload_n rfl rfl ?_
      have w60 : 0 ≤ Xi T2 904 106 ∧ Xi T2 904 106 ≤ 9 := hHT2.c _ _
      have w64 : Xi T2 904 113 = Xi T1 904 113 := (show Xi T2 904 113 = Xi T1 904 113 from w57.x _ _ rfl)
      refine l_callV rfl rfl rfl (t_mo_need hHT2 0 7 v2 ⟨by omega, by omega⟩ ⟨by omega, by omega⟩ ⟨by omega, by omega⟩ _) ?_
      rintro _ T3 ⟨hHT3, w83, rfl, w80, w81⟩
      have hFT3 : FR md_mo_askFifteen S T3 := FR.tr hFT2 w83 rfl
      show Rl _ _ _ _ _ [] _ _
      refine l_aload_n rfl rfl ?_
      refine l_gfr rfl rfl rfl rfl rfl (hHT3.r 904 111 967 rfl) ?_
      refine l_iconst rfl ?_
      refine l_aload_n rfl rfl ?_
      refine l_gfi rfl rfl rfl rfl rfl ?_
      have w84 : (Xi T3 904 113) = (Xi T1 904 113) := (show Xi T3 904 113 = Xi T2 904 113 from w83.x _ _ rfl).trans ((show Xi T2 904 113 = Xi T1 904 113 from w57.x _ _ rfl))
      rw [w84]
      refine l_iastore (n := 6) rfl rfl (by omega) (by omega) (by unfold rg; omega) ?_
      obtain ⟨U4, eU4⟩ : ∃ T : sS, T = uI T3 967 ((0 : Int).toNat) (Int32.ofInt (Xi T1 904 113)) := ⟨_, rfl⟩
      rw [← eU4]
      have hHU4 : HI U4 := by rw [eU4]; exact HI_w hHT3 (show -1 ≤ (Xi T1 904 113) by omega) (show (Xi T1 904 113) ≤ 6411 by omega)
      have hFU4 : FR md_mo_askFifteen S U4 := by rw [eU4]; exact FR.wI hFT3 (mdf_i (r := (967, 968, 0, 100000)) (List.mem_of_getElem? (i := 11) rfl) (inR_i (by omega) (by omega) (by omega) (by omega)))
      have w85 : Xi U4 967 ((0 : Int).toNat) = (Xi T1 904 113) := by rw [eU4]; exact Xi_same (by unfold rg; omega)
      have q121 : Xi U4 967 0 = Xi T1 904 113 := by rw [eU4]; exact Xi_same (by unfold rg; omega)
      have A121 : 1 ≤ v4 → ADM S (Xi U4 967 0) := fun x => by rw [q121]; exact D78 x
      refine l_return rfl rfl ?_
      have w86 : Xi U4 904 106 = Xi T3 904 106 := (show Xi U4 904 106 = Xi T3 904 106 from by rw [eU4]; exact Xi_ne (by omega))
      have w87 : 0 ≤ Xi T3 904 106 ∧ Xi T3 904 106 ≤ 9 := hHT3.c _ _
      have w88 : Xi U4 904 108 = Xi T1 904 108 := (show Xi U4 904 108 = Xi T3 904 108 from by rw [eU4]; exact Xi_ne (by omega)).trans ( (show Xi T3 904 108 = Xi T2 904 108 from w83.x _ _ rfl).trans ((show Xi T2 904 108 = Xi T1 904 108 from w57.x _ _ rfl)))
      have w89 : 0 ≤ Xi T1 904 108 ∧ Xi T1 904 108 ≤ 2600 := hHT1.c _ _
      have w90 : Xi U4 904 109 = Xi T1 904 109 := (show Xi U4 904 109 = Xi T3 904 109 from by rw [eU4]; exact Xi_ne (by omega)).trans ( (show Xi T3 904 109 = Xi T2 904 109 from w83.x _ _ rfl).trans ((show Xi T2 904 109 = Xi T1 904 109 from w57.x _ _ rfl)))
      have w91 : Xi U4 904 110 = Xi T1 904 110 := (show Xi U4 904 110 = Xi T3 904 110 from by rw [eU4]; exact Xi_ne (by omega)).trans ( (show Xi T3 904 110 = Xi T2 904 110 from w83.x _ _ rfl).trans ((show Xi T2 904 110 = Xi T1 904 110 from w57.x _ _ rfl)))
      have w92 : 0 ≤ Xi T1 904 110 ∧ Xi T1 904 110 ≤ 15 := hHT1.c _ _
      have w93 : Xi U4 904 112 = Xi T1 904 112 := (show Xi U4 904 112 = Xi T3 904 112 from by rw [eU4]; exact Xi_ne (by omega)).trans ( (show Xi T3 904 112 = Xi T2 904 112 from w83.x _ _ rfl).trans ((show Xi T2 904 112 = Xi T1 904 112 from w57.x _ _ rfl)))
      have w94 : 0 ≤ Xi T1 904 112 ∧ Xi T1 904 112 ≤ 6 := hHT1.c _ _
      have w95 : Xi U4 904 113 = Xi T1 904 113 := (show Xi U4 904 113 = Xi T3 904 113 from by rw [eU4]; exact Xi_ne (by omega)).trans ( (show Xi T3 904 113 = Xi T2 904 113 from w83.x _ _ rfl).trans ((show Xi T2 904 113 = Xi T1 904 113 from w57.x _ _ rfl)))
      have w97 : Xi U4 904 142 = Xi T1 904 142 := (show Xi U4 904 142 = Xi T3 904 142 from by rw [eU4]; exact Xi_ne (by omega)).trans ( (show Xi T3 904 142 = Xi T2 904 142 from w83.x _ _ rfl).trans ((show Xi T2 904 142 = Xi T1 904 142 from w57.x _ _ rfl)))
      have w99 : Xi U4 904 69 = Xi T1 904 69 := (show Xi U4 904 69 = Xi T3 904 69 from by rw [eU4]; exact Xi_ne (by omega)).trans ( (show Xi T3 904 69 = Xi T2 904 69 from w83.x _ _ rfl).trans ((show Xi T2 904 69 = Xi T1 904 69 from w57.x _ _ rfl)))
      have w101 : Xi U4 904 70 = Xi T1 904 70 := (show Xi U4 904 70 = Xi T3 904 70 from by rw [eU4]; exact Xi_ne (by omega)).trans ( (show Xi T3 904 70 = Xi T2 904 70 from w83.x _ _ rfl).trans ((show Xi T2 904 70 = Xi T1 904 70 from w57.x _ _ rfl)))
      have w103 : Xi U4 904 71 = Xi T1 904 71 := (show Xi U4 904 71 = Xi T3 904 71 from by rw [eU4]; exact Xi_ne (by omega)).trans ( (show Xi T3 904 71 = Xi T2 904 71 from w83.x _ _ rfl).trans ((show Xi T2 904 71 = Xi T1 904 71 from w57.x _ _ rfl)))
      have w105 : Xi U4 904 72 = Xi T1 904 72 := (show Xi U4 904 72 = Xi T3 904 72 from by rw [eU4]; exact Xi_ne (by omega)).trans ( (show Xi T3 904 72 = Xi T2 904 72 from w83.x _ _ rfl).trans ((show Xi T2 904 72 = Xi T1 904 72 from w57.x _ _ rfl)))
      have w107 : Xi U4 904 75 = Xi T1 904 75 := (show Xi U4 904 75 = Xi T3 904 75 from by rw [eU4]; exact Xi_ne (by omega)).trans ( (show Xi T3 904 75 = Xi T2 904 75 from w83.x _ _ rfl).trans ((show Xi T2 904 75 = Xi T1 904 75 from w57.x _ _ rfl)))
      have w109 : Xi U4 904 78 = Xi T1 904 78 := (show Xi U4 904 78 = Xi T3 904 78 from by rw [eU4]; exact Xi_ne (by omega)).trans ( (show Xi T3 904 78 = Xi T2 904 78 from w83.x _ _ rfl).trans ((show Xi T2 904 78 = Xi T1 904 78 from w57.x _ _ rfl)))
      have w111 : -1 ≤ Xi U4 967 0 ∧ Xi U4 967 0 ≤ 6411 := hHU4.c _ _
      exact ⟨hHU4, hFU4, rfl, (by first | exact fun q e => ⟨by omega, A121 (by omega)⟩ | exact fun q e => absurd e (by omega) | exact fun q => absurd q (by omega)), (by first | exact fun q e => absurd e (by omega) | exact fun q => absurd q (by omega) | exact (fun _ => fun q e => (by have t := F215 q; rw [show r2R S (Xi S 904 71) 2 3 = v3 by omega]; exact ⟨by omega, t.1 (by omega), t.2⟩)) F215), (by first | exact fun q e => absurd e (by omega) | exact fun q => absurd q (by omega) | exact (fun _ => fun q e => (by have t := (by assumption : RDV U4 _) (by omega); exact ⟨O349 (by omega), by rw [← hFU4.x 904 16 rfl]; exact t.1, fun i hi => (adx_s (t.2 i hi) (hFU4.x 904 23 rfl) (hFU4.x 904 32 rfl) (fun j => (hFU4.cx 922 rfl j).1)).1⟩)) O349), (by first | exact fun q a b c => absurd (by omega) a | exact fun q a b c => absurd (by omega) b | exact fun q a b c => absurd (by omega) c | exact fun q => absurd q (by omega) | exact fun q a b c i x y => ⟨E432 (by omega) i x (by omega), F432 (by omega) i x (by omega)⟩)⟩
    · refine l_iconst rfl ?_
      refine l_goto rfl rfl ?_
      refine l_bipush rfl rfl ?_
      refine l_iload_n rfl rfl ?_
      have w112 : 0 ≤ Xi T2 904 106 ∧ Xi T2 904 106 ≤ 9 := hHT2.c _ _
      have w116 : Xi T2 904 113 = Xi T1 904 113 := (show Xi T2 904 113 = Xi T1 904 113 from w57.x _ _ rfl)
      refine l_callV rfl rfl rfl (t_mo_need hHT2 1 7 v2 ⟨by omega, by omega⟩ ⟨by omega, by omega⟩ ⟨by omega, by omega⟩ _) ?_
      rintro _ T5 ⟨hHT5, w135, rfl, w132, w133⟩
      have hFT5 : FR md_mo_askFifteen S T5 := FR.tr hFT2 w135 rfl
      show Rl _ _ _ _ _ [] _ _
      refine l_aload_n rfl rfl ?_
      refine l_gfr rfl rfl rfl rfl rfl (hHT5.r 904 111 967 rfl) ?_
      refine l_iconst rfl ?_
      refine l_aload_n rfl rfl ?_
      refine l_gfi rfl rfl rfl rfl rfl ?_
      have w136 : (Xi T5 904 113) = (Xi T1 904 113) := (show Xi T5 904 113 = Xi T2 904 113 from w135.x _ _ rfl).trans ((show Xi T2 904 113 = Xi T1 904 113 from w57.x _ _ rfl))
      rw [w136]
      refine l_iastore (n := 6) rfl rfl (by omega) (by omega) (by unfold rg; omega) ?_
      obtain ⟨U6, eU6⟩ : ∃ T : sS, T = uI T5 967 ((0 : Int).toNat) (Int32.ofInt (Xi T1 904 113)) := ⟨_, rfl⟩
      rw [← eU6]
      have hHU6 : HI U6 := by rw [eU6]; exact HI_w hHT5 (show -1 ≤ (Xi T1 904 113) by omega) (show (Xi T1 904 113) ≤ 6411 by omega)
      have hFU6 : FR md_mo_askFifteen S U6 := by rw [eU6]; exact FR.wI hFT5 (mdf_i (r := (967, 968, 0, 100000)) (List.mem_of_getElem? (i := 11) rfl) (inR_i (by omega) (by omega) (by omega) (by omega)))
      have w137 : Xi U6 967 ((0 : Int).toNat) = (Xi T1 904 113) := by rw [eU6]; exact Xi_same (by unfold rg; omega)
      have q121 : Xi U6 967 0 = Xi T1 904 113 := by rw [eU6]; exact Xi_same (by unfold rg; omega)
      have A121 : 1 ≤ v4 → ADM S (Xi U6 967 0) := fun x => by rw [q121]; exact D78 x
      refine l_return rfl rfl ?_
      have w138 : Xi U6 904 106 = Xi T5 904 106 := (show Xi U6 904 106 = Xi T5 904 106 from by rw [eU6]; exact Xi_ne (by omega))
      have w139 : 0 ≤ Xi T5 904 106 ∧ Xi T5 904 106 ≤ 9 := hHT5.c _ _
      have w140 : Xi U6 904 108 = Xi T1 904 108 := (show Xi U6 904 108 = Xi T5 904 108 from by rw [eU6]; exact Xi_ne (by omega)).trans ( (show Xi T5 904 108 = Xi T2 904 108 from w135.x _ _ rfl).trans ((show Xi T2 904 108 = Xi T1 904 108 from w57.x _ _ rfl)))
      have w141 : 0 ≤ Xi T1 904 108 ∧ Xi T1 904 108 ≤ 2600 := hHT1.c _ _
      have w142 : Xi U6 904 109 = Xi T1 904 109 := (show Xi U6 904 109 = Xi T5 904 109 from by rw [eU6]; exact Xi_ne (by omega)).trans ( (show Xi T5 904 109 = Xi T2 904 109 from w135.x _ _ rfl).trans ((show Xi T2 904 109 = Xi T1 904 109 from w57.x _ _ rfl)))
      have w143 : Xi U6 904 110 = Xi T1 904 110 := (show Xi U6 904 110 = Xi T5 904 110 from by rw [eU6]; exact Xi_ne (by omega)).trans ( (show Xi T5 904 110 = Xi T2 904 110 from w135.x _ _ rfl).trans ((show Xi T2 904 110 = Xi T1 904 110 from w57.x _ _ rfl)))
      have w144 : 0 ≤ Xi T1 904 110 ∧ Xi T1 904 110 ≤ 15 := hHT1.c _ _
      have w145 : Xi U6 904 112 = Xi T1 904 112 := (show Xi U6 904 112 = Xi T5 904 112 from by rw [eU6]; exact Xi_ne (by omega)).trans ( (show Xi T5 904 112 = Xi T2 904 112 from w135.x _ _ rfl).trans ((show Xi T2 904 112 = Xi T1 904 112 from w57.x _ _ rfl)))
      have w146 : 0 ≤ Xi T1 904 112 ∧ Xi T1 904 112 ≤ 6 := hHT1.c _ _
      have w147 : Xi U6 904 113 = Xi T1 904 113 := (show Xi U6 904 113 = Xi T5 904 113 from by rw [eU6]; exact Xi_ne (by omega)).trans ( (show Xi T5 904 113 = Xi T2 904 113 from w135.x _ _ rfl).trans ((show Xi T2 904 113 = Xi T1 904 113 from w57.x _ _ rfl)))
      have w149 : Xi U6 904 142 = Xi T1 904 142 := (show Xi U6 904 142 = Xi T5 904 142 from by rw [eU6]; exact Xi_ne (by omega)).trans ( (show Xi T5 904 142 = Xi T2 904 142 from w135.x _ _ rfl).trans ((show Xi T2 904 142 = Xi T1 904 142 from w57.x _ _ rfl)))
      have w151 : Xi U6 904 69 = Xi T1 904 69 := (show Xi U6 904 69 = Xi T5 904 69 from by rw [eU6]; exact Xi_ne (by omega)).trans ( (show Xi T5 904 69 = Xi T2 904 69 from w135.x _ _ rfl).trans ((show Xi T2 904 69 = Xi T1 904 69 from w57.x _ _ rfl)))
      have w153 : Xi U6 904 70 = Xi T1 904 70 := (show Xi U6 904 70 = Xi T5 904 70 from by rw [eU6]; exact Xi_ne (by omega)).trans ( (show Xi T5 904 70 = Xi T2 904 70 from w135.x _ _ rfl).trans ((show Xi T2 904 70 = Xi T1 904 70 from w57.x _ _ rfl)))
      have w155 : Xi U6 904 71 = Xi T1 904 71 := (show Xi U6 904 71 = Xi T5 904 71 from by rw [eU6]; exact Xi_ne (by omega)).trans ( (show Xi T5 904 71 = Xi T2 904 71 from w135.x _ _ rfl).trans ((show Xi T2 904 71 = Xi T1 904 71 from w57.x _ _ rfl)))
      have w157 : Xi U6 904 72 = Xi T1 904 72 := (show Xi U6 904 72 = Xi T5 904 72 from by rw [eU6]; exact Xi_ne (by omega)).trans ( (show Xi T5 904 72 = Xi T2 904 72 from w135.x _ _ rfl).trans ((show Xi T2 904 72 = Xi T1 904 72 from w57.x _ _ rfl)))
      have w159 : Xi U6 904 75 = Xi T1 904 75 := (show Xi U6 904 75 = Xi T5 904 75 from by rw [eU6]; exact Xi_ne (by omega)).trans ( (show Xi T5 904 75 = Xi T2 904 75 from w135.x _ _ rfl).trans ((show Xi T2 904 75 = Xi T1 904 75 from w57.x _ _ rfl)))
      have w161 : Xi U6 904 78 = Xi T1 904 78 := (show Xi U6 904 78 = Xi T5 904 78 from by rw [eU6]; exact Xi_ne (by omega)).trans ( (show Xi T5 904 78 = Xi T2 904 78 from w135.x _ _ rfl).trans ((show Xi T2 904 78 = Xi T1 904 78 from w57.x _ _ rfl)))
      have w163 : -1 ≤ Xi U6 967 0 ∧ Xi U6 967 0 ≤ 6411 := hHU6.c _ _
      exact ⟨hHU6, hFU6, rfl, (by first | exact fun q e => ⟨by omega, A121 (by omega)⟩ | exact fun q e => absurd e (by omega) | exact fun q => absurd q (by omega)), (by first | exact fun q e => absurd e (by omega) | exact fun q => absurd q (by omega) | exact (fun _ => fun q e => (by have t := F215 q; rw [show r2R S (Xi S 904 71) 2 3 = v3 by omega]; exact ⟨by omega, t.1 (by omega), t.2⟩)) F215), (by first | exact fun q e => absurd e (by omega) | exact fun q => absurd q (by omega) | exact (fun _ => fun q e => (by have t := (by assumption : RDV U6 _) (by omega); exact ⟨O349 (by omega), by rw [← hFU6.x 904 16 rfl]; exact t.1, fun i hi => (adx_s (t.2 i hi) (hFU6.x 904 23 rfl) (hFU6.x 904 32 rfl) (fun j => (hFU6.cx 922 rfl j).1)).1⟩)) O349), (by first | exact fun q a b c => absurd (by omega) a | exact fun q a b c => absurd (by omega) b | exact fun q a b c => absurd (by omega) c | exact fun q => absurd q (by omega) | exact fun q a b c i x y => ⟨E432 (by omega) i x (by omega), F432 (by omega) i x (by omega)⟩)⟩
  · refine l_iconst rfl ?_
    refine l_goto rfl rfl ?_
    refine l_iconst rfl ?_
    refine l_iload_n rfl rfl ?_
    have w164 : 0 ≤ Xi T1 904 106 ∧ Xi T1 904 106 ≤ 9 := hHT1.c _ _
    refine l_callV rfl rfl rfl (t_mo_need hHT1 1 4 v2 ⟨by omega, by omega⟩ ⟨by omega, by omega⟩ ⟨by omega, by omega⟩ _) ?_
    rintro _ T7 ⟨hHT7, w177, rfl, w174, w175⟩
    have hFT7 : FR md_mo_askFifteen S T7 := FR.tr hFT1 w177 rfl
    show Rl _ _ _ _ _ [] _ _
    refine l_aload_n rfl rfl ?_
    refine l_iload rfl rfl ?_
    refine l_iconst rfl ?_
    refine l_icmp_ge rfl rfl (by unfold rg; omega) (by unfold rg; omega) (fun w178 => ?_) (fun w179 => ?_)
    · refine l_iconst rfl ?_
      refine l_bipush rfl rfl ?_
      refine l_iload_n rfl rfl ?_
      have w180 : 0 ≤ Xi T7 904 106 ∧ Xi T7 904 106 ≤ 9 := hHT7.c _ _
      have w184 : Xi T7 904 113 = Xi T1 904 113 := (show Xi T7 904 113 = Xi T1 904 113 from w177.x _ _ rfl)
      refine l_callV rfl rfl rfl (t_mo_need hHT7 0 7 v2 ⟨by omega, by omega⟩ ⟨by omega, by omega⟩ ⟨by omega, by omega⟩ _) ?_
      rintro _ T8 ⟨hHT8, w203, rfl, w200, w201⟩
      have hFT8 : FR md_mo_askFifteen S T8 := FR.tr hFT7 w203 rfl
      show Rl _ _ _ _ _ [] _ _
      refine l_aload_n rfl rfl ?_
      refine l_gfr rfl rfl rfl rfl rfl (hHT8.r 904 111 967 rfl) ?_
      refine l_iconst rfl ?_
      refine l_aload_n rfl rfl ?_
      refine l_gfi rfl rfl rfl rfl rfl ?_
      have w204 : (Xi T8 904 113) = (Xi T1 904 113) := (show Xi T8 904 113 = Xi T7 904 113 from w203.x _ _ rfl).trans ((show Xi T7 904 113 = Xi T1 904 113 from w177.x _ _ rfl))
      rw [w204]
      refine l_iastore (n := 6) rfl rfl (by omega) (by omega) (by unfold rg; omega) ?_
      obtain ⟨U9, eU9⟩ : ∃ T : sS, T = uI T8 967 ((0 : Int).toNat) (Int32.ofInt (Xi T1 904 113)) := ⟨_, rfl⟩
      rw [← eU9]
      have hHU9 : HI U9 := by rw [eU9]; exact HI_w hHT8 (show -1 ≤ (Xi T1 904 113) by omega) (show (Xi T1 904 113) ≤ 6411 by omega)
      have hFU9 : FR md_mo_askFifteen S U9 := by rw [eU9]; exact FR.wI hFT8 (mdf_i (r := (967, 968, 0, 100000)) (List.mem_of_getElem? (i := 11) rfl) (inR_i (by omega) (by omega) (by omega) (by omega)))
      have w205 : Xi U9 967 ((0 : Int).toNat) = (Xi T1 904 113) := by rw [eU9]; exact Xi_same (by unfold rg; omega)
      have q121 : Xi U9 967 0 = Xi T1 904 113 := by rw [eU9]; exact Xi_same (by unfold rg; omega)
      have A121 : 1 ≤ v4 → ADM S (Xi U9 967 0) := fun x => by rw [q121]; exact D78 x
      refine l_return rfl rfl ?_
      have w206 : Xi U9 904 106 = Xi T8 904 106 := (show Xi U9 904 106 = Xi T8 904 106 from by rw [eU9]; exact Xi_ne (by omega))
      have w207 : 0 ≤ Xi T8 904 106 ∧ Xi T8 904 106 ≤ 9 := hHT8.c _ _
      have w208 : Xi U9 904 108 = Xi T1 904 108 := (show Xi U9 904 108 = Xi T8 904 108 from by rw [eU9]; exact Xi_ne (by omega)).trans ( (show Xi T8 904 108 = Xi T7 904 108 from w203.x _ _ rfl).trans ((show Xi T7 904 108 = Xi T1 904 108 from w177.x _ _ rfl)))
      have w209 : 0 ≤ Xi T1 904 108 ∧ Xi T1 904 108 ≤ 2600 := hHT1.c _ _
      have w210 : Xi U9 904 109 = Xi T1 904 109 := (show Xi U9 904 109 = Xi T8 904 109 from by rw [eU9]; exact Xi_ne (by omega)).trans ( (show Xi T8 904 109 = Xi T7 904 109 from w203.x _ _ rfl).trans ((show Xi T7 904 109 = Xi T1 904 109 from w177.x _ _ rfl)))
      have w211 : Xi U9 904 110 = Xi T1 904 110 := (show Xi U9 904 110 = Xi T8 904 110 from by rw [eU9]; exact Xi_ne (by omega)).trans ( (show Xi T8 904 110 = Xi T7 904 110 from w203.x _ _ rfl).trans ((show Xi T7 904 110 = Xi T1 904 110 from w177.x _ _ rfl)))
      have w212 : 0 ≤ Xi T1 904 110 ∧ Xi T1 904 110 ≤ 15 := hHT1.c _ _
      have w213 : Xi U9 904 112 = Xi T1 904 112 := (show Xi U9 904 112 = Xi T8 904 112 from by rw [eU9]; exact Xi_ne (by omega)).trans ( (show Xi T8 904 112 = Xi T7 904 112 from w203.x _ _ rfl).trans ((show Xi T7 904 112 = Xi T1 904 112 from w177.x _ _ rfl)))
      have w214 : 0 ≤ Xi T1 904 112 ∧ Xi T1 904 112 ≤ 6 := hHT1.c _ _
      have w215 : Xi U9 904 113 = Xi T1 904 113 := (show Xi U9 904 113 = Xi T8 904 113 from by rw [eU9]; exact Xi_ne (by omega)).trans ( (show Xi T8 904 113 = Xi T7 904 113 from w203.x _ _ rfl).trans ((show Xi T7 904 113 = Xi T1 904 113 from w177.x _ _ rfl)))
      have w217 : Xi U9 904 142 = Xi T1 904 142 := (show Xi U9 904 142 = Xi T8 904 142 from by rw [eU9]; exact Xi_ne (by omega)).trans ( (show Xi T8 904 142 = Xi T7 904 142 from w203.x _ _ rfl).trans ((show Xi T7 904 142 = Xi T1 904 142 from w177.x _ _ rfl)))
      have w219 : Xi U9 904 69 = Xi T1 904 69 := (show Xi U9 904 69 = Xi T8 904 69 from by rw [eU9]; exact Xi_ne (by omega)).trans ( (show Xi T8 904 69 = Xi T7 904 69 from w203.x _ _ rfl).trans ((show Xi T7 904 69 = Xi T1 904 69 from w177.x _ _ rfl)))
      have w221 : Xi U9 904 70 = Xi T1 904 70 := (show Xi U9 904 70 = Xi T8 904 70 from by rw [eU9]; exact Xi_ne (by omega)).trans ( (show Xi T8 904 70 = Xi T7 904 70 from w203.x _ _ rfl).trans ((show Xi T7 904 70 = Xi T1 904 70 from w177.x _ _ rfl)))
      have w223 : Xi U9 904 71 = Xi T1 904 71 := (show Xi U9 904 71 = Xi T8 904 71 from by rw [eU9]; exact Xi_ne (by omega)).trans ( (show Xi T8 904 71 = Xi T7 904 71 from w203.x _ _ rfl).trans ((show Xi T7 904 71 = Xi T1 904 71 from w177.x _ _ rfl)))
      have w225 : Xi U9 904 72 = Xi T1 904 72 := (show Xi U9 904 72 = Xi T8 904 72 from by rw [eU9]; exact Xi_ne (by omega)).trans ( (show Xi T8 904 72 = Xi T7 904 72 from w203.x _ _ rfl).trans ((show Xi T7 904 72 = Xi T1 904 72 from w177.x _ _ rfl)))
      have w227 : Xi U9 904 75 = Xi T1 904 75 := (show Xi U9 904 75 = Xi T8 904 75 from by rw [eU9]; exact Xi_ne (by omega)).trans ( (show Xi T8 904 75 = Xi T7 904 75 from w203.x _ _ rfl).trans ((show Xi T7 904 75 = Xi T1 904 75 from w177.x _ _ rfl)))
      have w229 : Xi U9 904 78 = Xi T1 904 78 := (show Xi U9 904 78 = Xi T8 904 78 from by rw [eU9]; exact Xi_ne (by omega)).trans ( (show Xi T8 904 78 = Xi T7 904 78 from w203.x _ _ rfl).trans ((show Xi T7 904 78 = Xi T1 904 78 from w177.x _ _ rfl)))
      have w231 : -1 ≤ Xi U9 967 0 ∧ Xi U9 967 0 ≤ 6411 := hHU9.c _ _
      exact ⟨hHU9, hFU9, rfl, (by first | exact fun q e => ⟨by omega, A121 (by omega)⟩ | exact fun q e => absurd e (by omega) | exact fun q => absurd q (by omega)), (by first | exact fun q e => absurd e (by omega) | exact fun q => absurd q (by omega) | exact (fun _ => fun q e => (by have t := F215 q; rw [show r2R S (Xi S 904 71) 2 3 = v3 by omega]; exact ⟨by omega, t.1 (by omega), t.2⟩)) F215), (by first | exact fun q e => absurd e (by omega) | exact fun q => absurd q (by omega) | exact (fun _ => fun q e => (by have t := (by assumption : RDV U9 _) (by omega); exact ⟨O349 (by omega), by rw [← hFU9.x 904 16 rfl]; exact t.1, fun i hi => (adx_s (t.2 i hi) (hFU9.x 904 23 rfl) (hFU9.x 904 32 rfl) (fun j => (hFU9.cx 922 rfl j).1)).1⟩)) O349), (by first | exact fun q a b c => absurd (by omega) a | exact fun q a b c => absurd (by omega) b | exact fun q a b c => absurd (by omega) c | exact fun q => absurd q (by omega) | exact fun q a b c i x y => ⟨E432 (by omega) i x (by omega), F432 (by omega) i x (by omega)⟩)⟩
    · refine l_iconst rfl ?_
      refine l_goto rfl rfl ?_
      refine l_bipush rfl rfl ?_
      refine l_iload_n rfl rfl ?_
      have w232 : 0 ≤ Xi T7 904 106 ∧ Xi T7 904 106 ≤ 9 := hHT7.c _ _
      have w236 : Xi T7 904 113 = Xi T1 904 113 := (show Xi T7 904 113 = Xi T1 904 113 from w177.x _ _ rfl)
      refine l_callV rfl rfl rfl (t_mo_need hHT7 1 7 v2 ⟨by omega, by omega⟩ ⟨by omega, by omega⟩ ⟨by omega, by omega⟩ _) ?_
      rintro _ T10 ⟨hHT10, w255, rfl, w252, w253⟩
      have hFT10 : FR md_mo_askFifteen S T10 := FR.tr hFT7 w255 rfl
      show Rl _ _ _ _ _ [] _ _
      refine l_aload_n rfl rfl ?_
      refine l_gfr rfl rfl rfl rfl rfl (hHT10.r 904 111 967 rfl) ?_
      refine l_iconst rfl ?_
      refine l_aload_n rfl rfl ?_
      refine l_gfi rfl rfl rfl rfl rfl ?_
      have w256 : (Xi T10 904 113) = (Xi T1 904 113) := (show Xi T10 904 113 = Xi T7 904 113 from w255.x _ _ rfl).trans ((show Xi T7 904 113 = Xi T1 904 113 from w177.x _ _ rfl))
      rw [w256]
      refine l_iastore (n := 6) rfl rfl (by omega) (by omega) (by unfold rg; omega) ?_
      obtain ⟨U11, eU11⟩ : ∃ T : sS, T = uI T10 967 ((0 : Int).toNat) (Int32.ofInt (Xi T1 904 113)) := ⟨_, rfl⟩
      rw [← eU11]
      have hHU11 : HI U11 := by rw [eU11]; exact HI_w hHT10 (show -1 ≤ (Xi T1 904 113) by omega) (show (Xi T1 904 113) ≤ 6411 by omega)
      have hFU11 : FR md_mo_askFifteen S U11 := by rw [eU11]; exact FR.wI hFT10 (mdf_i (r := (967, 968, 0, 100000)) (List.mem_of_getElem? (i := 11) rfl) (inR_i (by omega) (by omega) (by omega) (by omega)))
      have w257 : Xi U11 967 ((0 : Int).toNat) = (Xi T1 904 113) := by rw [eU11]; exact Xi_same (by unfold rg; omega)
      have q121 : Xi U11 967 0 = Xi T1 904 113 := by rw [eU11]; exact Xi_same (by unfold rg; omega)
      have A121 : 1 ≤ v4 → ADM S (Xi U11 967 0) := fun x => by rw [q121]; exact D78 x
      refine l_return rfl rfl ?_
      have w258 : Xi U11 904 106 = Xi T10 904 106 := (show Xi U11 904 106 = Xi T10 904 106 from by rw [eU11]; exact Xi_ne (by omega))
      have w259 : 0 ≤ Xi T10 904 106 ∧ Xi T10 904 106 ≤ 9 := hHT10.c _ _
      have w260 : Xi U11 904 108 = Xi T1 904 108 := (show Xi U11 904 108 = Xi T10 904 108 from by rw [eU11]; exact Xi_ne (by omega)).trans ( (show Xi T10 904 108 = Xi T7 904 108 from w255.x _ _ rfl).trans ((show Xi T7 904 108 = Xi T1 904 108 from w177.x _ _ rfl)))
      have w261 : 0 ≤ Xi T1 904 108 ∧ Xi T1 904 108 ≤ 2600 := hHT1.c _ _
      have w262 : Xi U11 904 109 = Xi T1 904 109 := (show Xi U11 904 109 = Xi T10 904 109 from by rw [eU11]; exact Xi_ne (by omega)).trans ( (show Xi T10 904 109 = Xi T7 904 109 from w255.x _ _ rfl).trans ((show Xi T7 904 109 = Xi T1 904 109 from w177.x _ _ rfl)))
      have w263 : Xi U11 904 110 = Xi T1 904 110 := (show Xi U11 904 110 = Xi T10 904 110 from by rw [eU11]; exact Xi_ne (by omega)).trans ( (show Xi T10 904 110 = Xi T7 904 110 from w255.x _ _ rfl).trans ((show Xi T7 904 110 = Xi T1 904 110 from w177.x _ _ rfl)))
      have w264 : 0 ≤ Xi T1 904 110 ∧ Xi T1 904 110 ≤ 15 := hHT1.c _ _
      have w265 : Xi U11 904 112 = Xi T1 904 112 := (show Xi U11 904 112 = Xi T10 904 112 from by rw [eU11]; exact Xi_ne (by omega)).trans ( (show Xi T10 904 112 = Xi T7 904 112 from w255.x _ _ rfl).trans ((show Xi T7 904 112 = Xi T1 904 112 from w177.x _ _ rfl)))
      have w266 : 0 ≤ Xi T1 904 112 ∧ Xi T1 904 112 ≤ 6 := hHT1.c _ _
      have w267 : Xi U11 904 113 = Xi T1 904 113 := (show Xi U11 904 113 = Xi T10 904 113 from by rw [eU11]; exact Xi_ne (by omega)).trans ( (show Xi T10 904 113 = Xi T7 904 113 from w255.x _ _ rfl).trans ((show Xi T7 904 113 = Xi T1 904 113 from w177.x _ _ rfl)))
      have w269 : Xi U11 904 142 = Xi T1 904 142 := (show Xi U11 904 142 = Xi T10 904 142 from by rw [eU11]; exact Xi_ne (by omega)).trans ( (show Xi T10 904 142 = Xi T7 904 142 from w255.x _ _ rfl).trans ((show Xi T7 904 142 = Xi T1 904 142 from w177.x _ _ rfl)))
      have w271 : Xi U11 904 69 = Xi T1 904 69 := (show Xi U11 904 69 = Xi T10 904 69 from by rw [eU11]; exact Xi_ne (by omega)).trans ( (show Xi T10 904 69 = Xi T7 904 69 from w255.x _ _ rfl).trans ((show Xi T7 904 69 = Xi T1 904 69 from w177.x _ _ rfl)))
      have w273 : Xi U11 904 70 = Xi T1 904 70 := (show Xi U11 904 70 = Xi T10 904 70 from by rw [eU11]; exact Xi_ne (by omega)).trans ( (show Xi T10 904 70 = Xi T7 904 70 from w255.x _ _ rfl).trans ((show Xi T7 904 70 = Xi T1 904 70 from w177.x _ _ rfl)))
      have w275 : Xi U11 904 71 = Xi T1 904 71 := (show Xi U11 904 71 = Xi T10 904 71 from by rw [eU11]; exact Xi_ne (by omega)).trans ( (show Xi T10 904 71 = Xi T7 904 71 from w255.x _ _ rfl).trans ((show Xi T7 904 71 = Xi T1 904 71 from w177.x _ _ rfl)))
      have w277 : Xi U11 904 72 = Xi T1 904 72 := (show Xi U11 904 72 = Xi T10 904 72 from by rw [eU11]; exact Xi_ne (by omega)).trans ( (show Xi T10 904 72 = Xi T7 904 72 from w255.x _ _ rfl).trans ((show Xi T7 904 72 = Xi T1 904 72 from w177.x _ _ rfl)))
      have w279 : Xi U11 904 75 = Xi T1 904 75 := (show Xi U11 904 75 = Xi T10 904 75 from by rw [eU11]; exact Xi_ne (by omega)).trans ( (show Xi T10 904 75 = Xi T7 904 75 from w255.x _ _ rfl).trans ((show Xi T7 904 75 = Xi T1 904 75 from w177.x _ _ rfl)))
      have w281 : Xi U11 904 78 = Xi T1 904 78 := (show Xi U11 904 78 = Xi T10 904 78 from by rw [eU11]; exact Xi_ne (by omega)).trans ( (show Xi T10 904 78 = Xi T7 904 78 from w255.x _ _ rfl).trans ((show Xi T7 904 78 = Xi T1 904 78 from w177.x _ _ rfl)))
      have w283 : -1 ≤ Xi U11 967 0 ∧ Xi U11 967 0 ≤ 6411 := hHU11.c _ _
      exact ⟨hHU11, hFU11, rfl, (by first | exact fun q e => ⟨by omega, A121 (by omega)⟩ | exact fun q e => absurd e (by omega) | exact fun q => absurd q (by omega)), (by first | exact fun q e => absurd e (by omega) | exact fun q => absurd q (by omega) | exact (fun _ => fun q e => (by have t := F215 q; rw [show r2R S (Xi S 904 71) 2 3 = v3 by omega]; exact ⟨by omega, t.1 (by omega), t.2⟩)) F215), (by first | exact fun q e => absurd e (by omega) | exact fun q => absurd q (by omega) | exact (fun _ => fun q e => (by have t := (by assumption : RDV U11 _) (by omega); exact ⟨O349 (by omega), by rw [← hFU11.x 904 16 rfl]; exact t.1, fun i hi => (adx_s (t.2 i hi) (hFU11.x 904 23 rfl) (hFU11.x 904 32 rfl) (fun j => (hFU11.cx 922 rfl j).1)).1⟩)) O349), (by first | exact fun q a b c => absurd (by omega) a | exact fun q a b c => absurd (by omega) b | exact fun q a b c => absurd (by omega) c | exact fun q => absurd q (by omega) | exact fun q a b c i x y => ⟨E432 (by omega) i x (by omega), F432 (by omega) i x (by omega)⟩)⟩
set_option maxRecDepth 100000 in
set_option maxHeartbeats 4000000 in
theorem c54_mo_askFifteen {S : sS} (hH : HI S) (n : Nat) (hT : TK S n) (hv : RNV S n) (hM : LXM S) (hN : NWV S) (hB : ABV S) (hC : DCM S) (hl : Xi S 904 71 + Xi S 904 72 ≤ Xi S 904 69) (h1 : 1 ≤ Xi S 904 72) (h9 : Xi S 904 108 = 0) (hw : 0 ≤ Xi S 904 78 ∧ Xi S 904 78 < Xi S 904 69) (d : Nat) : ∀  (T12 : sS) (_ : HI T12) (_ : FR md_mo_askFifteen S T12) (v2 : Int) (v3 : Int), (0 ≤ v2 ∧ v2 ≤ 5001) → (-1 ≤ v3 ∧ v3 ≤ 15) → (Xi T12 904 69 = Xi S 904 69) → (Xi T12 904 70 = Xi S 904 70) → (Xi T12 904 71 = Xi S 904 71) → (Xi T12 904 72 = Xi S 904 72) → (Xi T12 904 75 = Xi S 904 75) → (Xi T12 904 78 = Xi S 904 78) → (v2 = Xi S 950 (Xi S 904 78).toNat) → (Xi T12 904 142 = 1) → (v3 ≠ -1 → v3 < Xi S 904 16) → (v3 = rnR S (Xi S 904 71) 0) → (v3 = -1 → Xi T12 904 106 ≠ 0) → Rl lay0 (d + 10) m_mo_askFifteen 54 [(0, .ref 904), (2, iv v2), (3, iv v3)] [] T12 (Q_mo_askFifteen S n) := by
  have C78 := c78_mo_askFifteen hH n hT hv hM hN hB hC hl h1 h9 hw d 
  have hF : FR md_mo_askFifteen S S := FR.rf
  have w1 : 0 ≤ Xi S 904 106 ∧ Xi S 904 106 ≤ 9 := hH.c _ _
  have w2 : 0 ≤ Xi S 904 108 ∧ Xi S 904 108 ≤ 2600 := hH.c _ _
  have w3 : -2147483648 ≤ Xi S 904 109 ∧ Xi S 904 109 ≤ 2147483647 := Xi_rgI
  have w4 : -1 ≤ Xi S 904 113 ∧ Xi S 904 113 ≤ 6411 := hH.c _ _
  have w5 : 0 ≤ Xi S 904 142 ∧ Xi S 904 142 ≤ 4 := hH.c _ _
  have w6 : 0 ≤ Xi S 904 16 ∧ Xi S 904 16 ≤ 16 := hH.c _ _
  have w7 : 0 ≤ Xi S 904 30 ∧ Xi S 904 30 ≤ 64 := hH.c _ _
  have w8 : 0 ≤ Xi S 904 69 ∧ Xi S 904 69 ≤ 2600 := hH.c _ _
  have w9 : 0 ≤ Xi S 904 70 ∧ Xi S 904 70 ≤ 20 := hH.c _ _
  have w10 : 0 ≤ Xi S 904 71 ∧ Xi S 904 71 ≤ 2600 := hH.c _ _
  have w11 : 0 ≤ Xi S 904 72 ∧ Xi S 904 72 ≤ 2600 := hH.c _ _
  have w12 : 0 ≤ Xi S 904 75 ∧ Xi S 904 75 ≤ 1 := hH.c _ _
  have w13 : -2 ≤ Xi S 904 78 ∧ Xi S 904 78 ≤ 5010 := hH.c _ _
  have hn5 := hT.1
  have hc69 : 0 ≤ Xi S 904 69 ∧ Xi S 904 69 ≤ 2600 := hH.c _ _
  have hc71 : 0 ≤ Xi S 904 71 ∧ Xi S 904 71 ≤ 2600 := hH.c _ _
  have hc72 : 0 ≤ Xi S 904 72 ∧ Xi S 904 72 ≤ 2600 := hH.c _ _
  have hrf : ∀ r : Int, 0 ≤ r → r < Xi S 904 69 → Xi S 950 r.toNat ≤ n := fun r a b => by have := hv r.toNat (by omega); omega
  have hc3 : 0 ≤ Xi S 904 23 ∧ Xi S 904 23 ≤ 24 := hH.c _ _
  have hc19 : 0 ≤ Xi S 904 19 ∧ Xi S 904 19 ≤ 24 := hH.c _ _
  have hc32 : 0 ≤ Xi S 904 32 ∧ Xi S 904 32 ≤ 12 := hH.c _ _
  have hqw : Xi S 950 (Xi S 904 78).toNat + Xi S 951 (Xi S 904 78).toNat ≤ n ∧ 1 ≤ Xi S 951 (Xi S 904 78).toNat := hv (Xi S 904 78).toNat (by omega)
  have hc16 : 0 ≤ Xi S 904 16 ∧ Xi S 904 16 ≤ 16 := hH.c _ _
  have hq7 : 0 ≤ Xi S 950 (Xi S 904 78).toNat := (hH.c 950 _).1
  intro T12 hHT12 hFT12 v2 v3 w284 w285 w286 w287 w288 w289 w290 w291 w292 w293 w294 w295 w296
  have w297 : Xi T12 904 15 = Xi S 904 15 := hFT12.x _ _ rfl
  have w298 : Xi T12 904 16 = Xi S 904 16 := hFT12.x _ _ rfl
  have w299 : Xi T12 904 30 = Xi S 904 30 := hFT12.x _ _ rfl
  have w300 : Xi T12 904 69 = Xi S 904 69 := hFT12.x _ _ rfl
  have w301 : Xi T12 904 70 = Xi S 904 70 := hFT12.x _ _ rfl
  have w302 : Xi T12 904 71 = Xi S 904 71 := hFT12.x _ _ rfl
  have w303 : Xi T12 904 72 = Xi S 904 72 := hFT12.x _ _ rfl
  have w304 : Xi T12 904 75 = Xi S 904 75 := hFT12.x _ _ rfl
  have w305 : Xi T12 904 78 = Xi S 904 78 := hFT12.x _ _ rfl
  have w306 : 0 ≤ Xi T12 904 106 ∧ Xi T12 904 106 ≤ 9 := hHT12.c _ _
  have w307 : 0 ≤ Xi T12 904 142 ∧ Xi T12 904 142 ≤ 4 := hHT12.c _ _
  have w308 : 0 ≤ Xi T12 904 69 ∧ Xi T12 904 69 ≤ 2600 := hHT12.c _ _
  have w309 : 0 ≤ Xi T12 904 70 ∧ Xi T12 904 70 ≤ 20 := hHT12.c _ _
  have w310 : 0 ≤ Xi T12 904 71 ∧ Xi T12 904 71 ≤ 2600 := hHT12.c _ _
  have w311 : 0 ≤ Xi T12 904 72 ∧ Xi T12 904 72 ≤ 2600 := hHT12.c _ _
  have w312 : 0 ≤ Xi T12 904 75 ∧ Xi T12 904 75 ≤ 1 := hHT12.c _ _
  have w313 : -2 ≤ Xi T12 904 78 ∧ Xi T12 904 78 ≤ 5010 := hHT12.c _ _
  refine l_iload_n rfl rfl ?_
  refine l_iconst rfl ?_
  refine l_icmp_eq rfl rfl (by unfold rg; omega) (by unfold rg; omega) (fun w314 => ?_) (fun w315 => ?_)
  · refine l_return rfl rfl ?_
    have w317 : 0 ≤ Xi T12 904 108 ∧ Xi T12 904 108 ≤ 2600 := hHT12.c _ _
    have w318 : 0 ≤ Xi T12 904 110 ∧ Xi T12 904 110 ≤ 15 := hHT12.c _ _
    have w319 : 0 ≤ Xi T12 904 112 ∧ Xi T12 904 112 ≤ 6 := hHT12.c _ _
    have w320 : -1 ≤ Xi T12 904 113 ∧ Xi T12 904 113 ≤ 6411 := hHT12.c _ _
    have w328 : -1 ≤ Xi T12 967 0 ∧ Xi T12 967 0 ≤ 6411 := hHT12.c _ _
    exact ⟨hHT12, hFT12, rfl, (by first | exact fun q e => ⟨by omega, A121 (by omega)⟩ | exact fun q e => absurd e (by omega) | exact fun q => absurd q (by omega)), (by first | exact fun q e => absurd e (by omega) | exact fun q => absurd q (by omega) | exact (fun _ => fun q e => (by have t := F215 q; rw [show r2R S (Xi S 904 71) 2 3 = v3 by omega]; exact ⟨by omega, t.1 (by omega), t.2⟩)) F215), (by first | exact fun q e => absurd e (by omega) | exact fun q => absurd q (by omega) | exact (fun _ => fun q e => (by have t := (by assumption : RDV T12 _) (by omega); exact ⟨O349 (by omega), by rw [← hFT12.x 904 16 rfl]; exact t.1, fun i hi => (adx_s (t.2 i hi) (hFT12.x 904 23 rfl) (hFT12.x 904 32 rfl) (fun j => (hFT12.cx 922 rfl j).1)).1⟩)) O349), (by first | exact fun q a b c => absurd (by omega) a | exact fun q a b c => absurd (by omega) b | exact fun q a b c => absurd (by omega) c | exact fun q => absurd q (by omega) | exact fun q a b c i x y => ⟨E432 (by omega) i x (by omega), F432 (by omega) i x (by omega)⟩)⟩
  · refine l_aload_n rfl rfl ?_
    refine l_iload_n rfl rfl ?_
    refine l_aload_n rfl rfl ?_
    refine l_gfr rfl rfl rfl rfl rfl (hHT12.r 904 68 951 rfl) ?_
    refine l_aload_n rfl rfl ?_
    refine l_gfi rfl rfl rfl rfl rfl ?_
    refine l_iaload (n := 2600) rfl rfl (by omega) (by omega) (by unfold rg; omega) ?_
    have w329 : 0 ≤ (Xi T12 951 (((Xi T12 904 78)).toNat)) ∧ (Xi T12 951 (((Xi T12 904 78)).toNat)) ≤ 5010 := hHT12.c _ _
    have e69 : (Xi T12 951 (((Xi T12 904 78)).toNat)) = Xi S 951 (Xi S 904 78).toNat := by first | rfl | exact (hFT12.cx 951 rfl _).1 | (rw [(hFT12.cx 951 rfl _).1]; exact congrArg (fun t : Int => Xi S 951 t.toNat) (by omega))
    refine l_iload_n rfl rfl ?_
    refine l_iconst rfl ?_
    refine l_iconst rfl ?_
    have w331 : 0 ≤ Xi T12 904 108 ∧ Xi T12 904 108 ≤ 2600 := hHT12.c _ _
    have w332 : -1 ≤ Xi T12 904 113 ∧ Xi T12 904 113 ≤ 6411 := hHT12.c _ _
    refine l_callV rfl rfl rfl (t_mo_adjective__2 hHT12 v2 (Xi T12 951 (((Xi T12 904 78)).toNat)) v3 0 1 ⟨by omega, by omega⟩ ⟨by omega, by omega⟩ ⟨by omega, by omega⟩ ⟨by omega, by omega⟩ ⟨by omega, by omega⟩ (by first | assumption | omega) (by first | assumption | exact (LXM_FR hFT12 rfl (by assumption : LXM S))) (by first | assumption | exact (ABV_FR hFT12 rfl (by assumption : ABV S))) (by first | assumption | exact (DCM_FR hFT12 rfl (by assumption : DCM S))) _) ?_
    rintro _ T13 ⟨hHT13, w342, z341, rfl, w341, f73, w340, f73⟩
    have hFT13 : FR md_mo_askFifteen S T13 := FR.tr hFT12 w342 rfl
    show Rl _ _ _ _ _ [iv z341] _ _
    have D73 : 1 ≤ z341 → ADM S (Xi T13 904 113) := fun x => by have t := (by assumption : 1 ≤ z341 → ADM T13 (Xi T13 904 113)) x; unfold ADM at *; rw [hFT13.x 904 23 rfl, hFT13.x 904 32 rfl] at t; exact t
    refine l_istore rfl rfl rfl ?_
    have w343 : Xi T13 904 106 = Xi T12 904 106 := (show Xi T13 904 106 = Xi T12 904 106 from w342.x _ _ rfl)
    have w345 : Xi T13 904 108 = Xi T12 904 108 := (show Xi T13 904 108 = Xi T12 904 108 from w342.x _ _ rfl)
    have w347 : Xi T13 904 109 = Xi T12 904 109 := (show Xi T13 904 109 = Xi T12 904 109 from w342.x _ _ rfl)
    have w348 : -1 ≤ Xi T13 904 113 ∧ Xi T13 904 113 ≤ 6411 := hHT13.c _ _
    have w349 : Xi T13 904 142 = Xi T12 904 142 := (show Xi T13 904 142 = Xi T12 904 142 from w342.x _ _ rfl)
    have w351 : Xi T13 904 69 = Xi T12 904 69 := (show Xi T13 904 69 = Xi T12 904 69 from w342.x _ _ rfl)
    have w353 : Xi T13 904 70 = Xi T12 904 70 := (show Xi T13 904 70 = Xi T12 904 70 from w342.x _ _ rfl)
    have w355 : Xi T13 904 71 = Xi T12 904 71 := (show Xi T13 904 71 = Xi T12 904 71 from w342.x _ _ rfl)
    have w357 : Xi T13 904 72 = Xi T12 904 72 := (show Xi T13 904 72 = Xi T12 904 72 from w342.x _ _ rfl)
    have w359 : Xi T13 904 75 = Xi T12 904 75 := (show Xi T13 904 75 = Xi T12 904 75 from w342.x _ _ rfl)
    have w361 : Xi T13 904 78 = Xi T12 904 78 := (show Xi T13 904 78 = Xi T12 904 78 from w342.x _ _ rfl)
    exact Rl_weak (C78 T13 hHT13 hFT13 (v2) (z341) (by omega) (by omega) (by omega) (by omega) (by omega) (by omega) (by omega) (by omega) (by omega) (by omega) (by omega) (D73)) (And.intro rfl (And.intro rfl (And.intro rfl (True.intro))))
set_option maxRecDepth 100000 in
set_option maxHeartbeats 4000000 in
theorem c213_mo_askFifteen {S : sS} (hH : HI S) (n : Nat) (hT : TK S n) (hv : RNV S n) (hM : LXM S) (hN : NWV S) (hB : ABV S) (hC : DCM S) (hl : Xi S 904 71 + Xi S 904 72 ≤ Xi S 904 69) (h1 : 1 ≤ Xi S 904 72) (h9 : Xi S 904 108 = 0) (hw : 0 ≤ Xi S 904 78 ∧ Xi S 904 78 < Xi S 904 69) (d : Nat) : ∀  (T14 : sS) (_ : HI T14) (_ : FR md_mo_askFifteen S T14) (v3 : Int), (-1 ≤ v3 ∧ v3 ≤ 7) → (Xi T14 904 69 = Xi S 904 69) → (Xi T14 904 70 = Xi S 904 70) → (Xi T14 904 71 = Xi S 904 71) → (Xi T14 904 72 = Xi S 904 72) → (Xi T14 904 75 = Xi S 904 75) → (Xi T14 904 78 = Xi S 904 78) → (Xi S 904 72 = 1 → v3 = r2R S (Xi S 904 71) 2 3) → (Xi S 904 72 ≠ 1 → v3 = -1) → (Xi T14 904 142 = 2) → (Xi T14 904 106 = 0 → Xi S 904 72 = 1) → (Xi T14 904 106 = 0 → 1 < r2R S (Xi S 904 71) 2 3) → (Xi T14 904 108 = 0) → (NWV T14) → Rl lay0 (d + 10) m_mo_askFifteen 213 [(0, .ref 904), (3, iv v3)] [] T14 (Q_mo_askFifteen S n) := by
  have hF : FR md_mo_askFifteen S S := FR.rf
  have w1 : 0 ≤ Xi S 904 106 ∧ Xi S 904 106 ≤ 9 := hH.c _ _
  have w2 : 0 ≤ Xi S 904 108 ∧ Xi S 904 108 ≤ 2600 := hH.c _ _
  have w3 : -2147483648 ≤ Xi S 904 109 ∧ Xi S 904 109 ≤ 2147483647 := Xi_rgI
  have w4 : -1 ≤ Xi S 904 113 ∧ Xi S 904 113 ≤ 6411 := hH.c _ _
  have w5 : 0 ≤ Xi S 904 142 ∧ Xi S 904 142 ≤ 4 := hH.c _ _
  have w6 : 0 ≤ Xi S 904 16 ∧ Xi S 904 16 ≤ 16 := hH.c _ _
  have w7 : 0 ≤ Xi S 904 30 ∧ Xi S 904 30 ≤ 64 := hH.c _ _
  have w8 : 0 ≤ Xi S 904 69 ∧ Xi S 904 69 ≤ 2600 := hH.c _ _
  have w9 : 0 ≤ Xi S 904 70 ∧ Xi S 904 70 ≤ 20 := hH.c _ _
  have w10 : 0 ≤ Xi S 904 71 ∧ Xi S 904 71 ≤ 2600 := hH.c _ _
  have w11 : 0 ≤ Xi S 904 72 ∧ Xi S 904 72 ≤ 2600 := hH.c _ _
  have w12 : 0 ≤ Xi S 904 75 ∧ Xi S 904 75 ≤ 1 := hH.c _ _
  have w13 : -2 ≤ Xi S 904 78 ∧ Xi S 904 78 ≤ 5010 := hH.c _ _
  have hn5 := hT.1
  have hc69 : 0 ≤ Xi S 904 69 ∧ Xi S 904 69 ≤ 2600 := hH.c _ _
  have hc71 : 0 ≤ Xi S 904 71 ∧ Xi S 904 71 ≤ 2600 := hH.c _ _
  have hc72 : 0 ≤ Xi S 904 72 ∧ Xi S 904 72 ≤ 2600 := hH.c _ _
  have hrf : ∀ r : Int, 0 ≤ r → r < Xi S 904 69 → Xi S 950 r.toNat ≤ n := fun r a b => by have := hv r.toNat (by omega); omega
  have hc3 : 0 ≤ Xi S 904 23 ∧ Xi S 904 23 ≤ 24 := hH.c _ _
  have hc19 : 0 ≤ Xi S 904 19 ∧ Xi S 904 19 ≤ 24 := hH.c _ _
  have hc32 : 0 ≤ Xi S 904 32 ∧ Xi S 904 32 ≤ 12 := hH.c _ _
  have hqw : Xi S 950 (Xi S 904 78).toNat + Xi S 951 (Xi S 904 78).toNat ≤ n ∧ 1 ≤ Xi S 951 (Xi S 904 78).toNat := hv (Xi S 904 78).toNat (by omega)
  have hc16 : 0 ≤ Xi S 904 16 ∧ Xi S 904 16 ≤ 16 := hH.c _ _
  have hq7 : 0 ≤ Xi S 950 (Xi S 904 78).toNat := (hH.c 950 _).1
  intro T14 hHT14 hFT14 v3 w363 w364 w365 w366 w367 w368 w369 w370 w371 w372 w373 w374 w375 N213
  have w376 : Xi T14 904 15 = Xi S 904 15 := hFT14.x _ _ rfl
  have w377 : Xi T14 904 16 = Xi S 904 16 := hFT14.x _ _ rfl
  have w378 : Xi T14 904 30 = Xi S 904 30 := hFT14.x _ _ rfl
  have w379 : Xi T14 904 69 = Xi S 904 69 := hFT14.x _ _ rfl
  have w380 : Xi T14 904 70 = Xi S 904 70 := hFT14.x _ _ rfl
  have w381 : Xi T14 904 71 = Xi S 904 71 := hFT14.x _ _ rfl
  have w382 : Xi T14 904 72 = Xi S 904 72 := hFT14.x _ _ rfl
  have w383 : Xi T14 904 75 = Xi S 904 75 := hFT14.x _ _ rfl
  have w384 : Xi T14 904 78 = Xi S 904 78 := hFT14.x _ _ rfl
  have w385 : 0 ≤ Xi T14 904 106 ∧ Xi T14 904 106 ≤ 9 := hHT14.c _ _
  have w386 : 0 ≤ Xi T14 904 108 ∧ Xi T14 904 108 ≤ 2600 := hHT14.c _ _
  have w387 : 0 ≤ Xi T14 904 142 ∧ Xi T14 904 142 ≤ 4 := hHT14.c _ _
  have w388 : 0 ≤ Xi T14 904 69 ∧ Xi T14 904 69 ≤ 2600 := hHT14.c _ _
  have w389 : 0 ≤ Xi T14 904 70 ∧ Xi T14 904 70 ≤ 20 := hHT14.c _ _
  have w390 : 0 ≤ Xi T14 904 71 ∧ Xi T14 904 71 ≤ 2600 := hHT14.c _ _
  have w391 : 0 ≤ Xi T14 904 72 ∧ Xi T14 904 72 ≤ 2600 := hHT14.c _ _
  have w392 : 0 ≤ Xi T14 904 75 ∧ Xi T14 904 75 ≤ 1 := hHT14.c _ _
  have w393 : -2 ≤ Xi T14 904 78 ∧ Xi T14 904 78 ≤ 5010 := hHT14.c _ _
  refine l_aload_n rfl rfl ?_
  refine l_iload_n rfl rfl ?_
  have w398 : 0 ≤ Xi T14 904 30 ∧ Xi T14 904 30 ≤ 64 := hHT14.c _ _
  refine l_callV rfl rfl rfl (t_mo_askValues hHT14 n v3 ⟨by omega, by omega⟩ (by first | assumption | exact (TK_FR hFT14 rfl (by assumption : TK S _))) (by first | assumption | exact (RNV_FR hFT14 rfl (by assumption : RNV S _))) (by first | assumption | exact (LXM_FR hFT14 rfl (by assumption : LXM S))) (by first | assumption | exact (by assumption : NWV T14)) (by first | assumption | omega) (by first | assumption | omega) _) ?_
  rintro _ T15 ⟨hHT15, w407, rfl, w405, f215⟩
  have hFT15 : FR md_mo_askFifteen S T15 := FR.tr hFT14 w407 rfl
  show Rl _ _ _ _ _ [] _ _
  have F215 : Xi T15 904 106 = 0 → (1 < v3 → cvR S v3 (Xi S 904 30).toNat + (Xi S 904 69 - Xi S 904 78) ≤ 8) ∧ ∀ r : Int, Xi S 904 78 ≤ r → r < Xi S 904 69 → Xi S 951 r.toNat ≤ 3 := fun q => (by have t := f215 q; rw [show Xi T14 904 69 = Xi S 904 69 by omega, show Xi T14 904 78 = Xi S 904 78 by omega, hFT14.x 904 30 rfl, cvR_k _ (fun j _ => (hFT14.cx 927 rfl j).1)] at t; exact ⟨t.1, fun r a b => by have u := t.2 r a b; rw [(hFT14.cx 951 rfl _).1] at u; exact u⟩)
  clear f215
  refine l_return rfl rfl ?_
  have w408 : 0 ≤ Xi T15 904 106 ∧ Xi T15 904 106 ≤ 9 := hHT15.c _ _
  have w409 : 0 ≤ Xi T15 904 108 ∧ Xi T15 904 108 ≤ 2600 := hHT15.c _ _
  have w410 : Xi T15 904 109 = Xi T14 904 109 := (show Xi T15 904 109 = Xi T14 904 109 from w407.x _ _ rfl)
  have w411 : Xi T15 904 110 = Xi T14 904 110 := (show Xi T15 904 110 = Xi T14 904 110 from w407.x _ _ rfl)
  have w412 : 0 ≤ Xi T14 904 110 ∧ Xi T14 904 110 ≤ 15 := hHT14.c _ _
  have w413 : Xi T15 904 112 = Xi T14 904 112 := (show Xi T15 904 112 = Xi T14 904 112 from w407.x _ _ rfl)
  have w414 : 0 ≤ Xi T14 904 112 ∧ Xi T14 904 112 ≤ 6 := hHT14.c _ _
  have w415 : Xi T15 904 113 = Xi T14 904 113 := (show Xi T15 904 113 = Xi T14 904 113 from w407.x _ _ rfl)
  have w416 : -1 ≤ Xi T14 904 113 ∧ Xi T14 904 113 ≤ 6411 := hHT14.c _ _
  have w417 : Xi T15 904 142 = Xi T14 904 142 := (show Xi T15 904 142 = Xi T14 904 142 from w407.x _ _ rfl)
  have w419 : Xi T15 904 69 = Xi T14 904 69 := (show Xi T15 904 69 = Xi T14 904 69 from w407.x _ _ rfl)
  have w421 : Xi T15 904 70 = Xi T14 904 70 := (show Xi T15 904 70 = Xi T14 904 70 from w407.x _ _ rfl)
  have w423 : Xi T15 904 71 = Xi T14 904 71 := (show Xi T15 904 71 = Xi T14 904 71 from w407.x _ _ rfl)
  have w425 : Xi T15 904 72 = Xi T14 904 72 := (show Xi T15 904 72 = Xi T14 904 72 from w407.x _ _ rfl)
  have w427 : Xi T15 904 75 = Xi T14 904 75 := (show Xi T15 904 75 = Xi T14 904 75 from w407.x _ _ rfl)
  have w429 : Xi T15 904 78 = Xi T14 904 78 := (show Xi T15 904 78 = Xi T14 904 78 from w407.x _ _ rfl)
  have w431 : Xi T15 967 0 = Xi T14 967 0 := (show Xi T15 967 0 = Xi T14 967 0 from w407.x _ _ rfl)
  have w432 : -1 ≤ Xi T14 967 0 ∧ Xi T14 967 0 ≤ 6411 := hHT14.c _ _
  exact ⟨hHT15, hFT15, rfl, (by first | exact fun q e => ⟨by omega, A121 (by omega)⟩ | exact fun q e => absurd e (by omega) | exact fun q => absurd q (by omega)), (by first | exact fun q e => absurd e (by omega) | exact fun q => absurd q (by omega) | exact (fun _ => fun q e => (by have t := F215 q; rw [show r2R S (Xi S 904 71) 2 3 = v3 by omega]; exact ⟨by omega, t.1 (by omega), t.2⟩)) F215), (by first | exact fun q e => absurd e (by omega) | exact fun q => absurd q (by omega) | exact (fun _ => fun q e => (by have t := (RDV_FR w407 rfl (by assumption : RDV T14 _)) (by omega); exact ⟨O349 (by omega), by rw [← hFT15.x 904 16 rfl]; exact t.1, fun i hi => (adx_s (t.2 i hi) (hFT15.x 904 23 rfl) (hFT15.x 904 32 rfl) (fun j => (hFT15.cx 922 rfl j).1)).1⟩)) O349), (by first | exact fun q a b c => absurd (by omega) a | exact fun q a b c => absurd (by omega) b | exact fun q a b c => absurd (by omega) c | exact fun q => absurd q (by omega) | exact fun q a b c i x y => ⟨E432 (by omega) i x (by omega), F432 (by omega) i x (by omega)⟩)⟩
set_option maxRecDepth 100000 in
set_option maxHeartbeats 4000000 in
theorem c192_mo_askFifteen {S : sS} (hH : HI S) (n : Nat) (hT : TK S n) (hv : RNV S n) (hM : LXM S) (hN : NWV S) (hB : ABV S) (hC : DCM S) (hl : Xi S 904 71 + Xi S 904 72 ≤ Xi S 904 69) (h1 : 1 ≤ Xi S 904 72) (h9 : Xi S 904 108 = 0) (hw : 0 ≤ Xi S 904 78 ∧ Xi S 904 78 < Xi S 904 69) (d : Nat) : ∀  (T16 : sS) (_ : HI T16) (_ : FR md_mo_askFifteen S T16) (v1 : Int) (v3 : Int), (0 ≤ v1 ∧ v1 ≤ 2599) → (-1 ≤ v3 ∧ v3 ≤ 7) → (Xi T16 904 69 = Xi S 904 69) → (Xi T16 904 70 = Xi S 904 70) → (Xi T16 904 71 = Xi S 904 71) → (Xi T16 904 72 = Xi S 904 72) → (Xi T16 904 75 = Xi S 904 75) → (Xi T16 904 78 = Xi S 904 78) → (v1 = Xi S 904 71) → (Xi S 904 72 = 1 → v3 = r2R S (Xi S 904 71) 2 3) → (Xi S 904 72 ≠ 1 → v3 = -1) → (Xi T16 904 142 = 2) → (Xi T16 904 106 = 0 → 1 < r2R S (Xi S 904 71) 2 3) → (Xi T16 904 108 = 0) → (NWV T16) → Rl lay0 (d + 10) m_mo_askFifteen 192 [(0, .ref 904), (1, iv v1), (3, iv v3)] [] T16 (Q_mo_askFifteen S n) := by
  have C213 := c213_mo_askFifteen hH n hT hv hM hN hB hC hl h1 h9 hw d 
  have hF : FR md_mo_askFifteen S S := FR.rf
  have w1 : 0 ≤ Xi S 904 106 ∧ Xi S 904 106 ≤ 9 := hH.c _ _
  have w2 : 0 ≤ Xi S 904 108 ∧ Xi S 904 108 ≤ 2600 := hH.c _ _
  have w3 : -2147483648 ≤ Xi S 904 109 ∧ Xi S 904 109 ≤ 2147483647 := Xi_rgI
  have w4 : -1 ≤ Xi S 904 113 ∧ Xi S 904 113 ≤ 6411 := hH.c _ _
  have w5 : 0 ≤ Xi S 904 142 ∧ Xi S 904 142 ≤ 4 := hH.c _ _
  have w6 : 0 ≤ Xi S 904 16 ∧ Xi S 904 16 ≤ 16 := hH.c _ _
  have w7 : 0 ≤ Xi S 904 30 ∧ Xi S 904 30 ≤ 64 := hH.c _ _
  have w8 : 0 ≤ Xi S 904 69 ∧ Xi S 904 69 ≤ 2600 := hH.c _ _
  have w9 : 0 ≤ Xi S 904 70 ∧ Xi S 904 70 ≤ 20 := hH.c _ _
  have w10 : 0 ≤ Xi S 904 71 ∧ Xi S 904 71 ≤ 2600 := hH.c _ _
  have w11 : 0 ≤ Xi S 904 72 ∧ Xi S 904 72 ≤ 2600 := hH.c _ _
  have w12 : 0 ≤ Xi S 904 75 ∧ Xi S 904 75 ≤ 1 := hH.c _ _
  have w13 : -2 ≤ Xi S 904 78 ∧ Xi S 904 78 ≤ 5010 := hH.c _ _
  have hn5 := hT.1
  have hc69 : 0 ≤ Xi S 904 69 ∧ Xi S 904 69 ≤ 2600 := hH.c _ _
  have hc71 : 0 ≤ Xi S 904 71 ∧ Xi S 904 71 ≤ 2600 := hH.c _ _
  have hc72 : 0 ≤ Xi S 904 72 ∧ Xi S 904 72 ≤ 2600 := hH.c _ _
  have hrf : ∀ r : Int, 0 ≤ r → r < Xi S 904 69 → Xi S 950 r.toNat ≤ n := fun r a b => by have := hv r.toNat (by omega); omega
  have hc3 : 0 ≤ Xi S 904 23 ∧ Xi S 904 23 ≤ 24 := hH.c _ _
  have hc19 : 0 ≤ Xi S 904 19 ∧ Xi S 904 19 ≤ 24 := hH.c _ _
  have hc32 : 0 ≤ Xi S 904 32 ∧ Xi S 904 32 ≤ 12 := hH.c _ _
  have hqw : Xi S 950 (Xi S 904 78).toNat + Xi S 951 (Xi S 904 78).toNat ≤ n ∧ 1 ≤ Xi S 951 (Xi S 904 78).toNat := hv (Xi S 904 78).toNat (by omega)
  have hc16 : 0 ≤ Xi S 904 16 ∧ Xi S 904 16 ≤ 16 := hH.c _ _
  have hq7 : 0 ≤ Xi S 950 (Xi S 904 78).toNat := (hH.c 950 _).1
  intro T16 hHT16 hFT16 v1 v3 w433 w434 w435 w436 w437 w438 w439 w440 w441 w442 w443 w444 w445 w446 N192
  have w447 : Xi T16 904 15 = Xi S 904 15 := hFT16.x _ _ rfl
  have w448 : Xi T16 904 16 = Xi S 904 16 := hFT16.x _ _ rfl
  have w449 : Xi T16 904 30 = Xi S 904 30 := hFT16.x _ _ rfl
  have w450 : Xi T16 904 69 = Xi S 904 69 := hFT16.x _ _ rfl
  have w451 : Xi T16 904 70 = Xi S 904 70 := hFT16.x _ _ rfl
  have w452 : Xi T16 904 71 = Xi S 904 71 := hFT16.x _ _ rfl
  have w453 : Xi T16 904 72 = Xi S 904 72 := hFT16.x _ _ rfl
  have w454 : Xi T16 904 75 = Xi S 904 75 := hFT16.x _ _ rfl
  have w455 : Xi T16 904 78 = Xi S 904 78 := hFT16.x _ _ rfl
  have w456 : 0 ≤ Xi T16 904 106 ∧ Xi T16 904 106 ≤ 9 := hHT16.c _ _
  have w457 : 0 ≤ Xi T16 904 108 ∧ Xi T16 904 108 ≤ 2600 := hHT16.c _ _
  have w458 : 0 ≤ Xi T16 904 142 ∧ Xi T16 904 142 ≤ 4 := hHT16.c _ _
  have w459 : 0 ≤ Xi T16 904 69 ∧ Xi T16 904 69 ≤ 2600 := hHT16.c _ _
  have w460 : 0 ≤ Xi T16 904 70 ∧ Xi T16 904 70 ≤ 20 := hHT16.c _ _
  have w461 : 0 ≤ Xi T16 904 71 ∧ Xi T16 904 71 ≤ 2600 := hHT16.c _ _
  have w462 : 0 ≤ Xi T16 904 72 ∧ Xi T16 904 72 ≤ 2600 := hHT16.c _ _
  have w463 : 0 ≤ Xi T16 904 75 ∧ Xi T16 904 75 ≤ 1 := hHT16.c _ _
  have w464 : -2 ≤ Xi T16 904 78 ∧ Xi T16 904 78 ≤ 5010 := hHT16.c _ _
  refine l_aload_n rfl rfl ?_
  refine l_gfi rfl rfl rfl rfl rfl ?_
  refine l_iconst rfl ?_
  refine l_icmp_le rfl rfl (by unfold rg; omega) (by unfold rg; omega) (fun w465 => ?_) (fun w466 => ?_)
  · have w467 : 0 ≤ Xi T16 904 106 ∧ Xi T16 904 106 ≤ 9 := hHT16.c _ _
    have w469 : -1 ≤ Xi T16 904 113 ∧ Xi T16 904 113 ≤ 6411 := hHT16.c _ _
    exact Rl_weak (C213 T16 hHT16 hFT16 (v3) (by omega) (by omega) (by omega) (by omega) (by omega) (by omega) (by omega) (by omega) (by omega) (by omega) (by omega) (by omega) (by omega) (by first | assumption | exact (by assumption : NWV T16))) (And.intro rfl (And.intro rfl (True.intro)))
  · refine l_aload_n rfl rfl ?_
    refine l_iconst rfl ?_
    refine l_aload_n rfl rfl ?_
    refine l_gfr rfl rfl rfl rfl rfl (hHT16.r 904 67 950 rfl) ?_
    refine l_iload_n rfl rfl ?_
    refine l_iconst rfl ?_
    refine l_iadd rfl ?_
    refine l_iaload (n := 2600) rfl rfl (by omega) (by omega) (by unfold rg; omega) ?_
    have w477 : 0 ≤ (Xi T16 950 (((v1 + 1)).toNat)) ∧ (Xi T16 950 (((v1 + 1)).toNat)) ≤ 5010 := hHT16.c _ _
    have e209 : (Xi T16 950 (((v1 + 1)).toNat)) = Xi S 950 (Xi S 904 71 + 1).toNat := by first | rfl | exact (hFT16.cx 950 rfl _).1 | (rw [(hFT16.cx 950 rfl _).1]; exact congrArg (fun t : Int => Xi S 950 t.toNat) (by omega))
    have f209 := hrf (Xi S 904 71 + 1) (by omega) (by omega)
    refine l_callV rfl rfl rfl (t_mo_note hHT16 4 (Xi T16 950 (((v1 + 1)).toNat)) ⟨by omega, by omega⟩ ⟨by omega, by omega⟩ _) ?_
    rintro _ T17 ⟨hHT17, w490, rfl, w488⟩
    have hFT17 : FR md_mo_askFifteen S T17 := FR.tr hFT16 w490 rfl
    show Rl _ _ _ _ _ [] _ _
    have w491 : 0 ≤ Xi T17 904 106 ∧ Xi T17 904 106 ≤ 9 := hHT17.c _ _
    have w492 : Xi T17 904 108 = Xi T16 904 108 := (show Xi T17 904 108 = Xi T16 904 108 from w490.x _ _ rfl)
    have w494 : Xi T17 904 109 = Xi T16 904 109 := (show Xi T17 904 109 = Xi T16 904 109 from w490.x _ _ rfl)
    have w495 : Xi T17 904 113 = Xi T16 904 113 := (show Xi T17 904 113 = Xi T16 904 113 from w490.x _ _ rfl)
    have w496 : -1 ≤ Xi T16 904 113 ∧ Xi T16 904 113 ≤ 6411 := hHT16.c _ _
    have w497 : Xi T17 904 142 = Xi T16 904 142 := (show Xi T17 904 142 = Xi T16 904 142 from w490.x _ _ rfl)
    have w499 : Xi T17 904 69 = Xi T16 904 69 := (show Xi T17 904 69 = Xi T16 904 69 from w490.x _ _ rfl)
    have w501 : Xi T17 904 70 = Xi T16 904 70 := (show Xi T17 904 70 = Xi T16 904 70 from w490.x _ _ rfl)
    have w503 : Xi T17 904 71 = Xi T16 904 71 := (show Xi T17 904 71 = Xi T16 904 71 from w490.x _ _ rfl)
    have w505 : Xi T17 904 72 = Xi T16 904 72 := (show Xi T17 904 72 = Xi T16 904 72 from w490.x _ _ rfl)
    have w507 : Xi T17 904 75 = Xi T16 904 75 := (show Xi T17 904 75 = Xi T16 904 75 from w490.x _ _ rfl)
    have w509 : Xi T17 904 78 = Xi T16 904 78 := (show Xi T17 904 78 = Xi T16 904 78 from w490.x _ _ rfl)
    exact Rl_weak (C213 T17 hHT17 hFT17 (v3) (by omega) (by omega) (by omega) (by omega) (by omega) (by omega) (by omega) (by omega) (by omega) (by omega) (by omega) (by omega) (by omega) (by first | assumption | exact (NWV_FR w490 rfl (by assumption : NWV T16)))) (And.intro rfl (And.intro rfl (True.intro)))
set_option maxRecDepth 100000 in
set_option maxHeartbeats 4000000 in
theorem c162_mo_askFifteen {S : sS} (hH : HI S) (n : Nat) (hT : TK S n) (hv : RNV S n) (hM : LXM S) (hN : NWV S) (hB : ABV S) (hC : DCM S) (hl : Xi S 904 71 + Xi S 904 72 ≤ Xi S 904 69) (h1 : 1 ≤ Xi S 904 72) (h9 : Xi S 904 108 = 0) (hw : 0 ≤ Xi S 904 78 ∧ Xi S 904 78 < Xi S 904 69) (d : Nat) : ∀  (v1 : Int) (v3 : Int), (0 ≤ v1 ∧ v1 ≤ 2600) → (-1 ≤ v3 ∧ v3 ≤ 7) → (v1 = Xi S 904 71) → (Xi S 904 72 = 1 → v3 = r2R S (Xi S 904 71) 2 3) → (Xi S 904 72 ≠ 1 → v3 = -1) → Rl lay0 (d + 10) m_mo_askFifteen 162 [(0, .ref 904), (1, iv v1), (3, iv v3)] [] S (Q_mo_askFifteen S n) := by
  have C192 := c192_mo_askFifteen hH n hT hv hM hN hB hC hl h1 h9 hw d 
  have hF : FR md_mo_askFifteen S S := FR.rf
  have w1 : 0 ≤ Xi S 904 106 ∧ Xi S 904 106 ≤ 9 := hH.c _ _
  have w2 : 0 ≤ Xi S 904 108 ∧ Xi S 904 108 ≤ 2600 := hH.c _ _
  have w3 : -2147483648 ≤ Xi S 904 109 ∧ Xi S 904 109 ≤ 2147483647 := Xi_rgI
  have w4 : -1 ≤ Xi S 904 113 ∧ Xi S 904 113 ≤ 6411 := hH.c _ _
  have w5 : 0 ≤ Xi S 904 142 ∧ Xi S 904 142 ≤ 4 := hH.c _ _
  have w6 : 0 ≤ Xi S 904 16 ∧ Xi S 904 16 ≤ 16 := hH.c _ _
  have w7 : 0 ≤ Xi S 904 30 ∧ Xi S 904 30 ≤ 64 := hH.c _ _
  have w8 : 0 ≤ Xi S 904 69 ∧ Xi S 904 69 ≤ 2600 := hH.c _ _
  have w9 : 0 ≤ Xi S 904 70 ∧ Xi S 904 70 ≤ 20 := hH.c _ _
  have w10 : 0 ≤ Xi S 904 71 ∧ Xi S 904 71 ≤ 2600 := hH.c _ _
  have w11 : 0 ≤ Xi S 904 72 ∧ Xi S 904 72 ≤ 2600 := hH.c _ _
  have w12 : 0 ≤ Xi S 904 75 ∧ Xi S 904 75 ≤ 1 := hH.c _ _
  have w13 : -2 ≤ Xi S 904 78 ∧ Xi S 904 78 ≤ 5010 := hH.c _ _
  have hn5 := hT.1
  have hc69 : 0 ≤ Xi S 904 69 ∧ Xi S 904 69 ≤ 2600 := hH.c _ _
  have hc71 : 0 ≤ Xi S 904 71 ∧ Xi S 904 71 ≤ 2600 := hH.c _ _
  have hc72 : 0 ≤ Xi S 904 72 ∧ Xi S 904 72 ≤ 2600 := hH.c _ _
  have hrf : ∀ r : Int, 0 ≤ r → r < Xi S 904 69 → Xi S 950 r.toNat ≤ n := fun r a b => by have := hv r.toNat (by omega); omega
  have hc3 : 0 ≤ Xi S 904 23 ∧ Xi S 904 23 ≤ 24 := hH.c _ _
  have hc19 : 0 ≤ Xi S 904 19 ∧ Xi S 904 19 ≤ 24 := hH.c _ _
  have hc32 : 0 ≤ Xi S 904 32 ∧ Xi S 904 32 ≤ 12 := hH.c _ _
  have hqw : Xi S 950 (Xi S 904 78).toNat + Xi S 951 (Xi S 904 78).toNat ≤ n ∧ 1 ≤ Xi S 951 (Xi S 904 78).toNat := hv (Xi S 904 78).toNat (by omega)
  have hc16 : 0 ≤ Xi S 904 16 ∧ Xi S 904 16 ≤ 16 := hH.c _ _
  have hq7 : 0 ≤ Xi S 950 (Xi S 904 78).toNat := (hH.c 950 _).1
  intro v1 v3 w511 w512 w513 w514 w515
  refine l_aload_n rfl rfl ?_
  refine l_iconst rfl ?_
  refine l_pfi rfl rfl rfl rfl ?_
  obtain ⟨U18, eU18⟩ : ∃ T : sS, T = uI S 904 142 (Int32.ofInt 2) := ⟨_, rfl⟩
  rw [← eU18]
  have hHU18 : HI U18 := by rw [eU18]; exact HI_w hH (show 0 ≤ 2 by omega) (show 2 ≤ 4 by omega)
  have hFU18 : FR md_mo_askFifteen S U18 := by rw [eU18]; exact FR.wI hF (mdf_i (r := (904, 905, 142, 143)) (List.mem_of_getElem? (i := 9) rfl) (inR_i (by omega) (by omega) (by omega) (by omega)))
  have w516 : Xi U18 904 142 = 2 := by rw [eU18]; exact Xi_same (by unfold rg; omega)
  refine l_aload_n rfl rfl ?_
  refine l_aload_n rfl rfl ?_
  refine l_iload_n rfl rfl ?_
  have w517 : Xi U18 904 106 = Xi S 904 106 := (show Xi U18 904 106 = Xi S 904 106 from by rw [eU18]; exact Xi_ne (by omega))
  have w519 : Xi U18 904 108 = Xi S 904 108 := (show Xi U18 904 108 = Xi S 904 108 from by rw [eU18]; exact Xi_ne (by omega))
  have w521 : Xi U18 904 109 = Xi S 904 109 := (show Xi U18 904 109 = Xi S 904 109 from by rw [eU18]; exact Xi_ne (by omega))
  have w522 : Xi U18 904 113 = Xi S 904 113 := (show Xi U18 904 113 = Xi S 904 113 from by rw [eU18]; exact Xi_ne (by omega))
  have w524 : 0 ≤ Xi U18 904 142 ∧ Xi U18 904 142 ≤ 4 := hHU18.c _ _
  have w525 : Xi U18 904 69 = Xi S 904 69 := (show Xi U18 904 69 = Xi S 904 69 from by rw [eU18]; exact Xi_ne (by omega))
  have w527 : Xi U18 904 70 = Xi S 904 70 := (show Xi U18 904 70 = Xi S 904 70 from by rw [eU18]; exact Xi_ne (by omega))
  have w529 : Xi U18 904 71 = Xi S 904 71 := (show Xi U18 904 71 = Xi S 904 71 from by rw [eU18]; exact Xi_ne (by omega))
  have w531 : Xi U18 904 72 = Xi S 904 72 := (show Xi U18 904 72 = Xi S 904 72 from by rw [eU18]; exact Xi_ne (by omega))
  have w533 : Xi U18 904 75 = Xi S 904 75 := (show Xi U18 904 75 = Xi S 904 75 from by rw [eU18]; exact Xi_ne (by omega))
  have w535 : Xi U18 904 78 = Xi S 904 78 := (show Xi U18 904 78 = Xi S 904 78 from by rw [eU18]; exact Xi_ne (by omega))
  refine l_callV rfl rfl rfl (t_mo_typeOrPlural__2 hHU18 n v1 ⟨by omega, by omega⟩ (by first | assumption | exact (TK_FR hFU18 rfl (by assumption : TK S _))) (by first | assumption | exact (RNV_FR hFU18 rfl (by assumption : RNV S _))) (by first | assumption | omega) (by first | assumption | exact (LXM_FR hFU18 rfl (by assumption : LXM S))) _) ?_
  rintro _ _ ⟨rfl, z538, rfl, w538, w537⟩
  show Rl _ _ _ _ _ [iv z538, .ref 904] _ _
  have r170 : z538 = r2R S (Xi S 904 71) 2 3 := by have t := (by assumption : z538 = r2R U18 v1 2 3); unfold r2R at *; rw [rnR_FR hFU18 rfl rfl, rnR_FR hFU18 rfl rfl, show v1 = Xi S 904 71 by omega] at t; exact t
  refine l_iconst rfl ?_
  refine l_icmp_le rfl rfl (by unfold rg; omega) (by unfold rg; omega) (fun w539 => ?_) (fun w540 => ?_)
  · refine l_iconst rfl ?_
    refine l_iconst rfl ?_
    refine l_aload_n rfl rfl ?_
    refine l_gfr rfl rfl rfl rfl rfl (hHU18.r 904 67 950 rfl) ?_
    refine l_iload_n rfl rfl ?_
    refine l_iaload (n := 2600) rfl rfl (by omega) (by omega) (by unfold rg; omega) ?_
    have w541 : 0 ≤ (Xi U18 950 ((v1).toNat)) ∧ (Xi U18 950 ((v1).toNat)) ≤ 5010 := hHU18.c _ _
    have e188 : (Xi U18 950 ((v1).toNat)) = Xi S 950 (Xi S 904 71).toNat := by first | rfl | exact (hFU18.cx 950 rfl _).1 | (rw [(hFU18.cx 950 rfl _).1]; exact congrArg (fun t : Int => Xi S 950 t.toNat) (by omega))
    have f188 := hrf (Xi S 904 71) (by omega) (by omega)
    refine l_callV rfl rfl rfl (t_mo_need hHU18 0 4 (Xi U18 950 ((v1).toNat)) ⟨by omega, by omega⟩ ⟨by omega, by omega⟩ ⟨by omega, by omega⟩ _) ?_
    rintro _ T19 ⟨hHT19, w565, rfl, w562, w563⟩
    have hFT19 : FR md_mo_askFifteen S T19 := FR.tr hFU18 w565 rfl
    show Rl _ _ _ _ _ [] _ _
    have w566 : 0 ≤ Xi T19 904 106 ∧ Xi T19 904 106 ≤ 9 := hHT19.c _ _
    have w567 : Xi T19 904 108 = Xi S 904 108 := (show Xi T19 904 108 = Xi U18 904 108 from w565.x _ _ rfl).trans ((show Xi U18 904 108 = Xi S 904 108 from by rw [eU18]; exact Xi_ne (by omega)))
    have w569 : Xi T19 904 109 = Xi S 904 109 := (show Xi T19 904 109 = Xi U18 904 109 from w565.x _ _ rfl).trans ((show Xi U18 904 109 = Xi S 904 109 from by rw [eU18]; exact Xi_ne (by omega)))
    have w570 : Xi T19 904 113 = Xi S 904 113 := (show Xi T19 904 113 = Xi U18 904 113 from w565.x _ _ rfl).trans ((show Xi U18 904 113 = Xi S 904 113 from by rw [eU18]; exact Xi_ne (by omega)))
    have w572 : Xi T19 904 142 = Xi U18 904 142 := (show Xi T19 904 142 = Xi U18 904 142 from w565.x _ _ rfl)
    have w574 : Xi T19 904 69 = Xi S 904 69 := (show Xi T19 904 69 = Xi U18 904 69 from w565.x _ _ rfl).trans ((show Xi U18 904 69 = Xi S 904 69 from by rw [eU18]; exact Xi_ne (by omega)))
    have w576 : Xi T19 904 70 = Xi S 904 70 := (show Xi T19 904 70 = Xi U18 904 70 from w565.x _ _ rfl).trans ((show Xi U18 904 70 = Xi S 904 70 from by rw [eU18]; exact Xi_ne (by omega)))
    have w578 : Xi T19 904 71 = Xi S 904 71 := (show Xi T19 904 71 = Xi U18 904 71 from w565.x _ _ rfl).trans ((show Xi U18 904 71 = Xi S 904 71 from by rw [eU18]; exact Xi_ne (by omega)))
    have w580 : Xi T19 904 72 = Xi S 904 72 := (show Xi T19 904 72 = Xi U18 904 72 from w565.x _ _ rfl).trans ((show Xi U18 904 72 = Xi S 904 72 from by rw [eU18]; exact Xi_ne (by omega)))
    have w582 : Xi T19 904 75 = Xi S 904 75 := (show Xi T19 904 75 = Xi U18 904 75 from w565.x _ _ rfl).trans ((show Xi U18 904 75 = Xi S 904 75 from by rw [eU18]; exact Xi_ne (by omega)))
    have w584 : Xi T19 904 78 = Xi S 904 78 := (show Xi T19 904 78 = Xi U18 904 78 from w565.x _ _ rfl).trans ((show Xi U18 904 78 = Xi S 904 78 from by rw [eU18]; exact Xi_ne (by omega)))
    exact Rl_weak (C192 T19 hHT19 hFT19 (v1) (v3) (by omega) (by omega) (by omega) (by omega) (by omega) (by omega) (by omega) (by omega) (by omega) (by omega) (by omega) (by omega) (by omega) (by omega) (by first | assumption | exact (NWV_FR w565 rfl (NWV_FR (FR_e eU18) rfl (by assumption : NWV S))))) (And.intro rfl (And.intro rfl (And.intro rfl (True.intro))))
  · refine l_iconst rfl ?_
    refine l_goto rfl rfl ?_
    refine l_iconst rfl ?_
    refine l_aload_n rfl rfl ?_
    refine l_gfr rfl rfl rfl rfl rfl (hHU18.r 904 67 950 rfl) ?_
    refine l_iload_n rfl rfl ?_
    refine l_iaload (n := 2600) rfl rfl (by omega) (by omega) (by unfold rg; omega) ?_
    have w586 : 0 ≤ (Xi U18 950 ((v1).toNat)) ∧ (Xi U18 950 ((v1).toNat)) ≤ 5010 := hHU18.c _ _
    have e188 : (Xi U18 950 ((v1).toNat)) = Xi S 950 (Xi S 904 71).toNat := by first | rfl | exact (hFU18.cx 950 rfl _).1 | (rw [(hFU18.cx 950 rfl _).1]; exact congrArg (fun t : Int => Xi S 950 t.toNat) (by omega))
    have f188 := hrf (Xi S 904 71) (by omega) (by omega)
    refine l_callV rfl rfl rfl (t_mo_need hHU18 1 4 (Xi U18 950 ((v1).toNat)) ⟨by omega, by omega⟩ ⟨by omega, by omega⟩ ⟨by omega, by omega⟩ _) ?_
    rintro _ T20 ⟨hHT20, w610, rfl, w607, w608⟩
    have hFT20 : FR md_mo_askFifteen S T20 := FR.tr hFU18 w610 rfl
    show Rl _ _ _ _ _ [] _ _
    have w611 : 0 ≤ Xi T20 904 106 ∧ Xi T20 904 106 ≤ 9 := hHT20.c _ _
    have w612 : Xi T20 904 108 = Xi S 904 108 := (show Xi T20 904 108 = Xi U18 904 108 from w610.x _ _ rfl).trans ((show Xi U18 904 108 = Xi S 904 108 from by rw [eU18]; exact Xi_ne (by omega)))
    have w614 : Xi T20 904 109 = Xi S 904 109 := (show Xi T20 904 109 = Xi U18 904 109 from w610.x _ _ rfl).trans ((show Xi U18 904 109 = Xi S 904 109 from by rw [eU18]; exact Xi_ne (by omega)))
    have w615 : Xi T20 904 113 = Xi S 904 113 := (show Xi T20 904 113 = Xi U18 904 113 from w610.x _ _ rfl).trans ((show Xi U18 904 113 = Xi S 904 113 from by rw [eU18]; exact Xi_ne (by omega)))
    have w617 : Xi T20 904 142 = Xi U18 904 142 := (show Xi T20 904 142 = Xi U18 904 142 from w610.x _ _ rfl)
    have w619 : Xi T20 904 69 = Xi S 904 69 := (show Xi T20 904 69 = Xi U18 904 69 from w610.x _ _ rfl).trans ((show Xi U18 904 69 = Xi S 904 69 from by rw [eU18]; exact Xi_ne (by omega)))
    have w621 : Xi T20 904 70 = Xi S 904 70 := (show Xi T20 904 70 = Xi U18 904 70 from w610.x _ _ rfl).trans ((show Xi U18 904 70 = Xi S 904 70 from by rw [eU18]; exact Xi_ne (by omega)))
    have w623 : Xi T20 904 71 = Xi S 904 71 := (show Xi T20 904 71 = Xi U18 904 71 from w610.x _ _ rfl).trans ((show Xi U18 904 71 = Xi S 904 71 from by rw [eU18]; exact Xi_ne (by omega)))
    have w625 : Xi T20 904 72 = Xi S 904 72 := (show Xi T20 904 72 = Xi U18 904 72 from w610.x _ _ rfl).trans ((show Xi U18 904 72 = Xi S 904 72 from by rw [eU18]; exact Xi_ne (by omega)))
    have w627 : Xi T20 904 75 = Xi S 904 75 := (show Xi T20 904 75 = Xi U18 904 75 from w610.x _ _ rfl).trans ((show Xi U18 904 75 = Xi S 904 75 from by rw [eU18]; exact Xi_ne (by omega)))
    have w629 : Xi T20 904 78 = Xi S 904 78 := (show Xi T20 904 78 = Xi U18 904 78 from w610.x _ _ rfl).trans ((show Xi U18 904 78 = Xi S 904 78 from by rw [eU18]; exact Xi_ne (by omega)))
    exact Rl_weak (C192 T20 hHT20 hFT20 (v1) (v3) (by omega) (by omega) (by omega) (by omega) (by omega) (by omega) (by omega) (by omega) (by omega) (by omega) (by omega) (by omega) (by omega) (by omega) (by first | assumption | exact (NWV_FR w610 rfl (NWV_FR (FR_e eU18) rfl (by assumption : NWV S))))) (And.intro rfl (And.intro rfl (And.intro rfl (True.intro))))
set_option maxRecDepth 100000 in
set_option maxHeartbeats 4000000 in
theorem c432_mo_askFifteen {S : sS} (hH : HI S) (n : Nat) (hT : TK S n) (hv : RNV S n) (hM : LXM S) (hN : NWV S) (hB : ABV S) (hC : DCM S) (hl : Xi S 904 71 + Xi S 904 72 ≤ Xi S 904 69) (h1 : 1 ≤ Xi S 904 72) (h9 : Xi S 904 108 = 0) (hw : 0 ≤ Xi S 904 78 ∧ Xi S 904 78 < Xi S 904 69) (d : Nat) : ∀ (n432 : Nat) (T21 : sS) (_ : HI T21) (_ : FR md_mo_askFifteen S T21) (v1 : Int) (v2 : Int) (v5 : Int) (v7 : Int), (0 ≤ v1 ∧ v1 ≤ 2600) → (0 ≤ v2 ∧ v2 ≤ 5001) → (0 ≤ v5 ∧ v5 ≤ 1) → (0 ≤ v7 ∧ v7 ≤ 2600) → (Xi T21 904 69 = Xi S 904 69) → (Xi T21 904 70 = Xi S 904 70) → (Xi T21 904 71 = Xi S 904 71) → (Xi T21 904 72 = Xi S 904 72) → (Xi T21 904 75 = Xi S 904 75) → (Xi T21 904 78 = Xi S 904 78) → (v1 = Xi S 904 71) → (v2 = Xi S 950 (Xi S 904 78).toNat) → (Xi T21 904 142 ≠ 1) → (Xi T21 904 142 ≠ 2) → (Xi T21 904 142 ≠ 3) → (v7 ≤ Xi S 904 72) → (Xi T21 904 106 = 0 → v5 = 1) → (Xi T21 904 106 = 0 → ∀ i : Int, 0 ≤ i → i < Xi S 904 72 → rnR S (Xi S 904 71 + i) 4 ≠ -1) → (Xi T21 904 106 = 0 → ∀ i : Int, 0 ≤ i → i < v7 → 1 ≤ adR S (Xi S 950 (Xi S 904 78).toNat) (Xi S 951 (Xi S 904 78).toNat) (Xi S 918 (rnR S (Xi S 904 71 + i) 4).toNat) 0 (1 - Xi S 904 75)) → n432 = (2601 - v7).toNat → Rl lay0 (d + 10) m_mo_askFifteen 432 [(0, .ref 904), (1, iv v1), (2, iv v2), (5, iv v5), (7, iv v7)] [] T21 (Q_mo_askFifteen S n) := by
  have hF : FR md_mo_askFifteen S S := FR.rf
  have w1 : 0 ≤ Xi S 904 106 ∧ Xi S 904 106 ≤ 9 := hH.c _ _
  have w2 : 0 ≤ Xi S 904 108 ∧ Xi S 904 108 ≤ 2600 := hH.c _ _
  have w3 : -2147483648 ≤ Xi S 904 109 ∧ Xi S 904 109 ≤ 2147483647 := Xi_rgI
  have w4 : -1 ≤ Xi S 904 113 ∧ Xi S 904 113 ≤ 6411 := hH.c _ _
  have w5 : 0 ≤ Xi S 904 142 ∧ Xi S 904 142 ≤ 4 := hH.c _ _
  have w6 : 0 ≤ Xi S 904 16 ∧ Xi S 904 16 ≤ 16 := hH.c _ _
  have w7 : 0 ≤ Xi S 904 30 ∧ Xi S 904 30 ≤ 64 := hH.c _ _
  have w8 : 0 ≤ Xi S 904 69 ∧ Xi S 904 69 ≤ 2600 := hH.c _ _
  have w9 : 0 ≤ Xi S 904 70 ∧ Xi S 904 70 ≤ 20 := hH.c _ _
  have w10 : 0 ≤ Xi S 904 71 ∧ Xi S 904 71 ≤ 2600 := hH.c _ _
  have w11 : 0 ≤ Xi S 904 72 ∧ Xi S 904 72 ≤ 2600 := hH.c _ _
  have w12 : 0 ≤ Xi S 904 75 ∧ Xi S 904 75 ≤ 1 := hH.c _ _
  have w13 : -2 ≤ Xi S 904 78 ∧ Xi S 904 78 ≤ 5010 := hH.c _ _
  have hn5 := hT.1
  have hc69 : 0 ≤ Xi S 904 69 ∧ Xi S 904 69 ≤ 2600 := hH.c _ _
  have hc71 : 0 ≤ Xi S 904 71 ∧ Xi S 904 71 ≤ 2600 := hH.c _ _
  have hc72 : 0 ≤ Xi S 904 72 ∧ Xi S 904 72 ≤ 2600 := hH.c _ _
  have hrf : ∀ r : Int, 0 ≤ r → r < Xi S 904 69 → Xi S 950 r.toNat ≤ n := fun r a b => by have := hv r.toNat (by omega); omega
  have hc3 : 0 ≤ Xi S 904 23 ∧ Xi S 904 23 ≤ 24 := hH.c _ _
  have hc19 : 0 ≤ Xi S 904 19 ∧ Xi S 904 19 ≤ 24 := hH.c _ _
  have hc32 : 0 ≤ Xi S 904 32 ∧ Xi S 904 32 ≤ 12 := hH.c _ _
  have hqw : Xi S 950 (Xi S 904 78).toNat + Xi S 951 (Xi S 904 78).toNat ≤ n ∧ 1 ≤ Xi S 951 (Xi S 904 78).toNat := hv (Xi S 904 78).toNat (by omega)
  have hc16 : 0 ≤ Xi S 904 16 ∧ Xi S 904 16 ≤ 16 := hH.c _ _
  have hq7 : 0 ≤ Xi S 950 (Xi S 904 78).toNat := (hH.c 950 _).1
  intro n432
  induction n432 using Nat.strongRecOn with
  | ind n432 ih432 =>
    intro T21 hHT21 hFT21 v1 v2 v5 v7 w631 w632 w633 w634 w635 w636 w637 w638 w639 w640 w641 w642 w643 w644 w645 w646 w647 E432 F432 hm432
    have w648 : Xi T21 904 15 = Xi S 904 15 := hFT21.x _ _ rfl
    have w649 : Xi T21 904 16 = Xi S 904 16 := hFT21.x _ _ rfl
    have w650 : Xi T21 904 30 = Xi S 904 30 := hFT21.x _ _ rfl
    have w651 : Xi T21 904 69 = Xi S 904 69 := hFT21.x _ _ rfl
    have w652 : Xi T21 904 70 = Xi S 904 70 := hFT21.x _ _ rfl
    have w653 : Xi T21 904 71 = Xi S 904 71 := hFT21.x _ _ rfl
    have w654 : Xi T21 904 72 = Xi S 904 72 := hFT21.x _ _ rfl
    have w655 : Xi T21 904 75 = Xi S 904 75 := hFT21.x _ _ rfl
    have w656 : Xi T21 904 78 = Xi S 904 78 := hFT21.x _ _ rfl
    have w657 : 0 ≤ Xi T21 904 106 ∧ Xi T21 904 106 ≤ 9 := hHT21.c _ _
    have w658 : 0 ≤ Xi T21 904 142 ∧ Xi T21 904 142 ≤ 4 := hHT21.c _ _
    have w659 : 0 ≤ Xi T21 904 69 ∧ Xi T21 904 69 ≤ 2600 := hHT21.c _ _
    have w660 : 0 ≤ Xi T21 904 70 ∧ Xi T21 904 70 ≤ 20 := hHT21.c _ _
    have w661 : 0 ≤ Xi T21 904 71 ∧ Xi T21 904 71 ≤ 2600 := hHT21.c _ _
    have w662 : 0 ≤ Xi T21 904 72 ∧ Xi T21 904 72 ≤ 2600 := hHT21.c _ _
    have w663 : 0 ≤ Xi T21 904 75 ∧ Xi T21 904 75 ≤ 1 := hHT21.c _ _
    have w664 : -2 ≤ Xi T21 904 78 ∧ Xi T21 904 78 ≤ 5010 := hHT21.c _ _
    have C533 : ∀  (T22 : sS) (_ : HI T22) (_ : FR md_mo_askFifteen S T22) (v1 : Int) (v2 : Int) (v5 : Int) (v7 : Int), (0 ≤ v1 ∧ v1 ≤ 2600) → (0 ≤ v2 ∧ v2 ≤ 5001) → (1 ≤ v5 ∧ v5 ≤ 1) → (0 ≤ v7 ∧ v7 ≤ 2599) → (Xi T22 904 69 = Xi S 904 69) → (Xi T22 904 70 = Xi S 904 70) → (Xi T22 904 71 = Xi S 904 71) → (Xi T22 904 72 = Xi S 904 72) → (Xi T22 904 75 = Xi S 904 75) → (Xi T22 904 78 = Xi S 904 78) → (v1 = Xi S 904 71) → (v2 = Xi S 950 (Xi S 904 78).toNat) → (Xi T22 904 142 ≠ 1) → (Xi T22 904 142 ≠ 2) → (Xi T22 904 142 ≠ 3) → (v7 < Xi S 904 72) → (Xi T22 904 106 = 0 → v5 = 1) → (Xi T22 904 106 = 0 → ∀ i : Int, 0 ≤ i → i < Xi S 904 72 → rnR S (Xi S 904 71 + i) 4 ≠ -1) → (Xi T22 904 106 = 0 → ∀ i : Int, 0 ≤ i → i < v7 + 1 → 1 ≤ adR S (Xi S 950 (Xi S 904 78).toNat) (Xi S 951 (Xi S 904 78).toNat) (Xi S 918 (rnR S (Xi S 904 71 + i) 4).toNat) 0 (1 - Xi S 904 75)) → ((2601 - v7).toNat ≤ n432) → Rl lay0 (d + 10) m_mo_askFifteen 533 [(0, .ref 904), (1, iv v1), (2, iv v2), (5, iv v5), (7, iv v7)] [] T22 (Q_mo_askFifteen S n) := by
      intro T22 hHT22 hFT22 v1 v2 v5 v7 w665 w666 w667 w668 w669 w670 w671 w672 w673 w674 w675 w676 w677 w678 w679 w680 w681 E533 F533 w682
      have w683 : Xi T22 904 15 = Xi S 904 15 := hFT22.x _ _ rfl
      have w684 : Xi T22 904 16 = Xi S 904 16 := hFT22.x _ _ rfl
      have w685 : Xi T22 904 30 = Xi S 904 30 := hFT22.x _ _ rfl
      have w686 : Xi T22 904 69 = Xi S 904 69 := hFT22.x _ _ rfl
      have w687 : Xi T22 904 70 = Xi S 904 70 := hFT22.x _ _ rfl
      have w688 : Xi T22 904 71 = Xi S 904 71 := hFT22.x _ _ rfl
      have w689 : Xi T22 904 72 = Xi S 904 72 := hFT22.x _ _ rfl
      have w690 : Xi T22 904 75 = Xi S 904 75 := hFT22.x _ _ rfl
      have w691 : Xi T22 904 78 = Xi S 904 78 := hFT22.x _ _ rfl
      have w692 : 0 ≤ Xi T22 904 106 ∧ Xi T22 904 106 ≤ 9 := hHT22.c _ _
      have w693 : 0 ≤ Xi T22 904 142 ∧ Xi T22 904 142 ≤ 4 := hHT22.c _ _
      have w694 : 0 ≤ Xi T22 904 69 ∧ Xi T22 904 69 ≤ 2600 := hHT22.c _ _
      have w695 : 0 ≤ Xi T22 904 70 ∧ Xi T22 904 70 ≤ 20 := hHT22.c _ _
      have w696 : 0 ≤ Xi T22 904 71 ∧ Xi T22 904 71 ≤ 2600 := hHT22.c _ _
      have w697 : 0 ≤ Xi T22 904 72 ∧ Xi T22 904 72 ≤ 2600 := hHT22.c _ _
      have w698 : 0 ≤ Xi T22 904 75 ∧ Xi T22 904 75 ≤ 1 := hHT22.c _ _
      have w699 : -2 ≤ Xi T22 904 78 ∧ Xi T22 904 78 ≤ 5010 := hHT22.c _ _
      refine l_iinc rfl rfl rfl rfl ?_
      refine l_goto rfl rfl ?_
      have w701 : 0 ≤ Xi T22 904 108 ∧ Xi T22 904 108 ≤ 2600 := hHT22.c _ _
      have w702 : -1 ≤ Xi T22 904 113 ∧ Xi T22 904 113 ≤ 6411 := hHT22.c _ _
      exact Rl_weak (ih432 _ (by omega) T22 hHT22 hFT22 (v1) (v2) (v5) ((v7 + 1)) (by omega) (by omega) (by omega) (by omega) (by omega) (by omega) (by omega) (by omega) (by omega) (by omega) (by omega) (by omega) (by omega) (by omega) (by omega) (by omega) (by omega) (by first | exact fun q => E533 q | exact fun q => E432 (by omega) | exact fun q i a b => E361 (by omega) i a (by omega)) (by first | exact fun q i a b => absurd b (by omega) | exact F533) rfl) (And.intro rfl (And.intro rfl (And.intro rfl (And.intro rfl (And.intro rfl (True.intro))))))
    have C499 : ∀  (T23 : sS) (_ : HI T23) (_ : FR md_mo_askFifteen S T23) (v1 : Int) (v2 : Int) (v5 : Int) (v7 : Int) (v9 : Int), (0 ≤ v1 ∧ v1 ≤ 2600) → (0 ≤ v2 ∧ v2 ≤ 5001) → (1 ≤ v5 ∧ v5 ≤ 1) → (0 ≤ v7 ∧ v7 ≤ 2599) → (0 ≤ v9 ∧ v9 ≤ 12) → (Xi T23 904 69 = Xi S 904 69) → (Xi T23 904 70 = Xi S 904 70) → (Xi T23 904 71 = Xi S 904 71) → (Xi T23 904 72 = Xi S 904 72) → (Xi T23 904 75 = Xi S 904 75) → (Xi T23 904 78 = Xi S 904 78) → (v1 = Xi S 904 71) → (v2 = Xi S 950 (Xi S 904 78).toNat) → (Xi T23 904 142 ≠ 1) → (Xi T23 904 142 ≠ 2) → (Xi T23 904 142 ≠ 3) → (v7 < Xi S 904 72) → (Xi T23 904 106 = 0 → v5 = 1) → (Xi T23 904 106 = 0 → ∀ i : Int, 0 ≤ i → i < Xi S 904 72 → rnR S (Xi S 904 71 + i) 4 ≠ -1) → (Xi T23 904 106 = 0 → ∀ i : Int, 0 ≤ i → i < v7 → 1 ≤ adR S (Xi S 950 (Xi S 904 78).toNat) (Xi S 951 (Xi S 904 78).toNat) (Xi S 918 (rnR S (Xi S 904 71 + i) 4).toNat) 0 (1 - Xi S 904 75)) → (v9 = adR S (Xi S 950 (Xi S 904 78).toNat) (Xi S 951 (Xi S 904 78).toNat) (Xi S 918 (rnR S (Xi S 904 71 + v7) 4).toNat) 0 (1 - Xi S 904 75)) → ((2601 - v7).toNat ≤ n432) → Rl lay0 (d + 10) m_mo_askFifteen 499 [(0, .ref 904), (1, iv v1), (2, iv v2), (5, iv v5), (7, iv v7), (9, iv v9)] [] T23 (Q_mo_askFifteen S n) := by
      intro T23 hHT23 hFT23 v1 v2 v5 v7 v9 w710 w711 w712 w713 w714 w715 w716 w717 w718 w719 w720 w721 w722 w723 w724 w725 w726 w727 E499 F499 g499 w728
      have w729 : Xi T23 904 15 = Xi S 904 15 := hFT23.x _ _ rfl
      have w730 : Xi T23 904 16 = Xi S 904 16 := hFT23.x _ _ rfl
      have w731 : Xi T23 904 30 = Xi S 904 30 := hFT23.x _ _ rfl
      have w732 : Xi T23 904 69 = Xi S 904 69 := hFT23.x _ _ rfl
      have w733 : Xi T23 904 70 = Xi S 904 70 := hFT23.x _ _ rfl
      have w734 : Xi T23 904 71 = Xi S 904 71 := hFT23.x _ _ rfl
      have w735 : Xi T23 904 72 = Xi S 904 72 := hFT23.x _ _ rfl
      have w736 : Xi T23 904 75 = Xi S 904 75 := hFT23.x _ _ rfl
      have w737 : Xi T23 904 78 = Xi S 904 78 := hFT23.x _ _ rfl
      have w738 : 0 ≤ Xi T23 904 106 ∧ Xi T23 904 106 ≤ 9 := hHT23.c _ _
      have w739 : 0 ≤ Xi T23 904 142 ∧ Xi T23 904 142 ≤ 4 := hHT23.c _ _
      have w740 : 0 ≤ Xi T23 904 69 ∧ Xi T23 904 69 ≤ 2600 := hHT23.c _ _
      have w741 : 0 ≤ Xi T23 904 70 ∧ Xi T23 904 70 ≤ 20 := hHT23.c _ _
      have w742 : 0 ≤ Xi T23 904 71 ∧ Xi T23 904 71 ≤ 2600 := hHT23.c _ _
      have w743 : 0 ≤ Xi T23 904 72 ∧ Xi T23 904 72 ≤ 2600 := hHT23.c _ _
      have w744 : 0 ≤ Xi T23 904 75 ∧ Xi T23 904 75 ≤ 1 := hHT23.c _ _
      have w745 : -2 ≤ Xi T23 904 78 ∧ Xi T23 904 78 ≤ 5010 := hHT23.c _ _
      refine l_aload_n rfl rfl ?_
      refine l_iload rfl rfl ?_
      refine l_if_le rfl rfl (by unfold rg; omega) (fun w746 => ?_) (fun w747 => ?_)
      · refine l_iconst rfl ?_
        refine l_iconst rfl ?_
        refine l_iload_n rfl rfl ?_
        refine l_callV rfl rfl rfl (t_mo_need hHT23 0 4 v2 ⟨by omega, by omega⟩ ⟨by omega, by omega⟩ ⟨by omega, by omega⟩ _) ?_
        rintro _ T24 ⟨hHT24, w761, rfl, w758, w759⟩
        have hFT24 : FR md_mo_askFifteen S T24 := FR.tr hFT23 w761 rfl
        show Rl _ _ _ _ _ [] _ _
        refine l_aload_n rfl rfl ?_
        refine l_iload rfl rfl ?_
        refine l_iconst rfl ?_
        refine l_icmp_ge rfl rfl (by unfold rg; omega) (by unfold rg; omega) (fun w762 => ?_) (fun w763 => ?_)
        · refine l_iconst rfl ?_
          refine l_bipush rfl rfl ?_
          refine l_iload_n rfl rfl ?_
          have w764 : 0 ≤ Xi T24 904 106 ∧ Xi T24 904 106 ≤ 9 := hHT24.c _ _
          refine l_callV rfl rfl rfl (t_mo_need hHT24 0 7 v2 ⟨by omega, by omega⟩ ⟨by omega, by omega⟩ ⟨by omega, by omega⟩ _) ?_
          rintro _ T25 ⟨hHT25, w787, rfl, w784, w785⟩
          have hFT25 : FR md_mo_askFifteen S T25 := FR.tr hFT24 w787 rfl
          show Rl _ _ _ _ _ [] _ _
          have w788 : 0 ≤ Xi T25 904 106 ∧ Xi T25 904 106 ≤ 9 := hHT25.c _ _
          have w789 : Xi T25 904 108 = Xi T23 904 108 := (show Xi T25 904 108 = Xi T24 904 108 from w787.x _ _ rfl).trans ((show Xi T24 904 108 = Xi T23 904 108 from w761.x _ _ rfl))
          have w790 : 0 ≤ Xi T23 904 108 ∧ Xi T23 904 108 ≤ 2600 := hHT23.c _ _
          have w791 : Xi T25 904 109 = Xi T23 904 109 := (show Xi T25 904 109 = Xi T24 904 109 from w787.x _ _ rfl).trans ((show Xi T24 904 109 = Xi T23 904 109 from w761.x _ _ rfl))
          have w792 : Xi T25 904 113 = Xi T23 904 113 := (show Xi T25 904 113 = Xi T24 904 113 from w787.x _ _ rfl).trans ((show Xi T24 904 113 = Xi T23 904 113 from w761.x _ _ rfl))
          have w793 : -1 ≤ Xi T23 904 113 ∧ Xi T23 904 113 ≤ 6411 := hHT23.c _ _
          have w794 : Xi T25 904 142 = Xi T23 904 142 := (show Xi T25 904 142 = Xi T24 904 142 from w787.x _ _ rfl).trans ((show Xi T24 904 142 = Xi T23 904 142 from w761.x _ _ rfl))
          have w796 : Xi T25 904 69 = Xi T23 904 69 := (show Xi T25 904 69 = Xi T24 904 69 from w787.x _ _ rfl).trans ((show Xi T24 904 69 = Xi T23 904 69 from w761.x _ _ rfl))
          have w798 : Xi T25 904 70 = Xi T23 904 70 := (show Xi T25 904 70 = Xi T24 904 70 from w787.x _ _ rfl).trans ((show Xi T24 904 70 = Xi T23 904 70 from w761.x _ _ rfl))
          have w800 : Xi T25 904 71 = Xi T23 904 71 := (show Xi T25 904 71 = Xi T24 904 71 from w787.x _ _ rfl).trans ((show Xi T24 904 71 = Xi T23 904 71 from w761.x _ _ rfl))
          have w802 : Xi T25 904 72 = Xi T23 904 72 := (show Xi T25 904 72 = Xi T24 904 72 from w787.x _ _ rfl).trans ((show Xi T24 904 72 = Xi T23 904 72 from w761.x _ _ rfl))
          have w804 : Xi T25 904 75 = Xi T23 904 75 := (show Xi T25 904 75 = Xi T24 904 75 from w787.x _ _ rfl).trans ((show Xi T24 904 75 = Xi T23 904 75 from w761.x _ _ rfl))
          have w806 : Xi T25 904 78 = Xi T23 904 78 := (show Xi T25 904 78 = Xi T24 904 78 from w787.x _ _ rfl).trans ((show Xi T24 904 78 = Xi T23 904 78 from w761.x _ _ rfl))
          exact Rl_weak (C533 T25 hHT25 hFT25 (v1) (v2) (v5) (v7) (by omega) (by omega) (by omega) (by omega) (by omega) (by omega) (by omega) (by omega) (by omega) (by omega) (by omega) (by omega) (by omega) (by omega) (by omega) (by omega) (by omega) (by first | exact fun q => E499 (by omega) | exact fun q => E432 (by omega)) (by first | exact fun q i a b => (Int.lt_or_le i v7).elim (fun h => F499 (by omega) i a h) (fun h => by rw [show i = v7 by omega, ← g499]; omega) | exact fun q => absurd (E432 (by omega) v7 (by omega) (by omega)) (by rw [← r452]; omega)) (by omega)) (And.intro rfl (And.intro rfl (And.intro rfl (And.intro rfl (And.intro rfl (True.intro))))))
        · refine l_iconst rfl ?_
          refine l_goto rfl rfl ?_
          refine l_bipush rfl rfl ?_
          refine l_iload_n rfl rfl ?_
          have w808 : 0 ≤ Xi T24 904 106 ∧ Xi T24 904 106 ≤ 9 := hHT24.c _ _
          refine l_callV rfl rfl rfl (t_mo_need hHT24 1 7 v2 ⟨by omega, by omega⟩ ⟨by omega, by omega⟩ ⟨by omega, by omega⟩ _) ?_
          rintro _ T26 ⟨hHT26, w831, rfl, w828, w829⟩
          have hFT26 : FR md_mo_askFifteen S T26 := FR.tr hFT24 w831 rfl
          show Rl _ _ _ _ _ [] _ _
          have w832 : 0 ≤ Xi T26 904 106 ∧ Xi T26 904 106 ≤ 9 := hHT26.c _ _
          have w833 : Xi T26 904 108 = Xi T23 904 108 := (show Xi T26 904 108 = Xi T24 904 108 from w831.x _ _ rfl).trans ((show Xi T24 904 108 = Xi T23 904 108 from w761.x _ _ rfl))
          have w834 : 0 ≤ Xi T23 904 108 ∧ Xi T23 904 108 ≤ 2600 := hHT23.c _ _
          have w835 : Xi T26 904 109 = Xi T23 904 109 := (show Xi T26 904 109 = Xi T24 904 109 from w831.x _ _ rfl).trans ((show Xi T24 904 109 = Xi T23 904 109 from w761.x _ _ rfl))
          have w836 : Xi T26 904 113 = Xi T23 904 113 := (show Xi T26 904 113 = Xi T24 904 113 from w831.x _ _ rfl).trans ((show Xi T24 904 113 = Xi T23 904 113 from w761.x _ _ rfl))
          have w837 : -1 ≤ Xi T23 904 113 ∧ Xi T23 904 113 ≤ 6411 := hHT23.c _ _
          have w838 : Xi T26 904 142 = Xi T23 904 142 := (show Xi T26 904 142 = Xi T24 904 142 from w831.x _ _ rfl).trans ((show Xi T24 904 142 = Xi T23 904 142 from w761.x _ _ rfl))
          have w840 : Xi T26 904 69 = Xi T23 904 69 := (show Xi T26 904 69 = Xi T24 904 69 from w831.x _ _ rfl).trans ((show Xi T24 904 69 = Xi T23 904 69 from w761.x _ _ rfl))
          have w842 : Xi T26 904 70 = Xi T23 904 70 := (show Xi T26 904 70 = Xi T24 904 70 from w831.x _ _ rfl).trans ((show Xi T24 904 70 = Xi T23 904 70 from w761.x _ _ rfl))
          have w844 : Xi T26 904 71 = Xi T23 904 71 := (show Xi T26 904 71 = Xi T24 904 71 from w831.x _ _ rfl).trans ((show Xi T24 904 71 = Xi T23 904 71 from w761.x _ _ rfl))
          have w846 : Xi T26 904 72 = Xi T23 904 72 := (show Xi T26 904 72 = Xi T24 904 72 from w831.x _ _ rfl).trans ((show Xi T24 904 72 = Xi T23 904 72 from w761.x _ _ rfl))
          have w848 : Xi T26 904 75 = Xi T23 904 75 := (show Xi T26 904 75 = Xi T24 904 75 from w831.x _ _ rfl).trans ((show Xi T24 904 75 = Xi T23 904 75 from w761.x _ _ rfl))
          have w850 : Xi T26 904 78 = Xi T23 904 78 := (show Xi T26 904 78 = Xi T24 904 78 from w831.x _ _ rfl).trans ((show Xi T24 904 78 = Xi T23 904 78 from w761.x _ _ rfl))
          exact Rl_weak (C533 T26 hHT26 hFT26 (v1) (v2) (v5) (v7) (by omega) (by omega) (by omega) (by omega) (by omega) (by omega) (by omega) (by omega) (by omega) (by omega) (by omega) (by omega) (by omega) (by omega) (by omega) (by omega) (by omega) (by first | exact fun q => E499 (by omega) | exact fun q => E432 (by omega)) (by first | exact fun q i a b => (Int.lt_or_le i v7).elim (fun h => F499 (by omega) i a h) (fun h => by rw [show i = v7 by omega, ← g499]; omega) | exact fun q => absurd (E432 (by omega) v7 (by omega) (by omega)) (by rw [← r452]; omega)) (by omega)) (And.intro rfl (And.intro rfl (And.intro rfl (And.intro rfl (And.intro rfl (True.intro))))))
      · refine l_iconst rfl ?_
        refine l_goto rfl rfl ?_
        refine l_iconst rfl ?_
        refine l_iload_n rfl rfl ?_
        refine l_callV rfl rfl rfl (t_mo_need hHT23 1 4 v2 ⟨by omega, by omega⟩ ⟨by omega, by omega⟩ ⟨by omega, by omega⟩ _) ?_
        rintro _ T27 ⟨hHT27, w865, rfl, w862, w863⟩
        have hFT27 : FR md_mo_askFifteen S T27 := FR.tr hFT23 w865 rfl
        show Rl _ _ _ _ _ [] _ _
        refine l_aload_n rfl rfl ?_
        refine l_iload rfl rfl ?_
        refine l_iconst rfl ?_
        refine l_icmp_ge rfl rfl (by unfold rg; omega) (by unfold rg; omega) (fun w866 => ?_) (fun w867 => ?_)
        · refine l_iconst rfl ?_
          refine l_bipush rfl rfl ?_
          refine l_iload_n rfl rfl ?_
          have w868 : 0 ≤ Xi T27 904 106 ∧ Xi T27 904 106 ≤ 9 := hHT27.c _ _
          refine l_callV rfl rfl rfl (t_mo_need hHT27 0 7 v2 ⟨by omega, by omega⟩ ⟨by omega, by omega⟩ ⟨by omega, by omega⟩ _) ?_
          rintro _ T28 ⟨hHT28, w891, rfl, w888, w889⟩
          have hFT28 : FR md_mo_askFifteen S T28 := FR.tr hFT27 w891 rfl
          show Rl _ _ _ _ _ [] _ _
          have w892 : 0 ≤ Xi T28 904 106 ∧ Xi T28 904 106 ≤ 9 := hHT28.c _ _
          have w893 : Xi T28 904 108 = Xi T23 904 108 := (show Xi T28 904 108 = Xi T27 904 108 from w891.x _ _ rfl).trans ((show Xi T27 904 108 = Xi T23 904 108 from w865.x _ _ rfl))
          have w894 : 0 ≤ Xi T23 904 108 ∧ Xi T23 904 108 ≤ 2600 := hHT23.c _ _
          have w895 : Xi T28 904 109 = Xi T23 904 109 := (show Xi T28 904 109 = Xi T27 904 109 from w891.x _ _ rfl).trans ((show Xi T27 904 109 = Xi T23 904 109 from w865.x _ _ rfl))
          have w896 : Xi T28 904 113 = Xi T23 904 113 := (show Xi T28 904 113 = Xi T27 904 113 from w891.x _ _ rfl).trans ((show Xi T27 904 113 = Xi T23 904 113 from w865.x _ _ rfl))
          have w897 : -1 ≤ Xi T23 904 113 ∧ Xi T23 904 113 ≤ 6411 := hHT23.c _ _
          have w898 : Xi T28 904 142 = Xi T23 904 142 := (show Xi T28 904 142 = Xi T27 904 142 from w891.x _ _ rfl).trans ((show Xi T27 904 142 = Xi T23 904 142 from w865.x _ _ rfl))
          have w900 : Xi T28 904 69 = Xi T23 904 69 := (show Xi T28 904 69 = Xi T27 904 69 from w891.x _ _ rfl).trans ((show Xi T27 904 69 = Xi T23 904 69 from w865.x _ _ rfl))
          have w902 : Xi T28 904 70 = Xi T23 904 70 := (show Xi T28 904 70 = Xi T27 904 70 from w891.x _ _ rfl).trans ((show Xi T27 904 70 = Xi T23 904 70 from w865.x _ _ rfl))
          have w904 : Xi T28 904 71 = Xi T23 904 71 := (show Xi T28 904 71 = Xi T27 904 71 from w891.x _ _ rfl).trans ((show Xi T27 904 71 = Xi T23 904 71 from w865.x _ _ rfl))
          have w906 : Xi T28 904 72 = Xi T23 904 72 := (show Xi T28 904 72 = Xi T27 904 72 from w891.x _ _ rfl).trans ((show Xi T27 904 72 = Xi T23 904 72 from w865.x _ _ rfl))
          have w908 : Xi T28 904 75 = Xi T23 904 75 := (show Xi T28 904 75 = Xi T27 904 75 from w891.x _ _ rfl).trans ((show Xi T27 904 75 = Xi T23 904 75 from w865.x _ _ rfl))
          have w910 : Xi T28 904 78 = Xi T23 904 78 := (show Xi T28 904 78 = Xi T27 904 78 from w891.x _ _ rfl).trans ((show Xi T27 904 78 = Xi T23 904 78 from w865.x _ _ rfl))
          exact Rl_weak (C533 T28 hHT28 hFT28 (v1) (v2) (v5) (v7) (by omega) (by omega) (by omega) (by omega) (by omega) (by omega) (by omega) (by omega) (by omega) (by omega) (by omega) (by omega) (by omega) (by omega) (by omega) (by omega) (by omega) (by first | exact fun q => E499 (by omega) | exact fun q => E432 (by omega)) (by first | exact fun q i a b => (Int.lt_or_le i v7).elim (fun h => F499 (by omega) i a h) (fun h => by rw [show i = v7 by omega, ← g499]; omega) | exact fun q => absurd (E432 (by omega) v7 (by omega) (by omega)) (by rw [← r452]; omega)) (by omega)) (And.intro rfl (And.intro rfl (And.intro rfl (And.intro rfl (And.intro rfl (True.intro))))))
        · refine l_iconst rfl ?_
          refine l_goto rfl rfl ?_
          refine l_bipush rfl rfl ?_
          refine l_iload_n rfl rfl ?_
          have w912 : 0 ≤ Xi T27 904 106 ∧ Xi T27 904 106 ≤ 9 := hHT27.c _ _
          refine l_callV rfl rfl rfl (t_mo_need hHT27 1 7 v2 ⟨by omega, by omega⟩ ⟨by omega, by omega⟩ ⟨by omega, by omega⟩ _) ?_
          rintro _ T29 ⟨hHT29, w935, rfl, w932, w933⟩
          have hFT29 : FR md_mo_askFifteen S T29 := FR.tr hFT27 w935 rfl
          show Rl _ _ _ _ _ [] _ _
          have w936 : 0 ≤ Xi T29 904 106 ∧ Xi T29 904 106 ≤ 9 := hHT29.c _ _
          have w937 : Xi T29 904 108 = Xi T23 904 108 := (show Xi T29 904 108 = Xi T27 904 108 from w935.x _ _ rfl).trans ((show Xi T27 904 108 = Xi T23 904 108 from w865.x _ _ rfl))
          have w938 : 0 ≤ Xi T23 904 108 ∧ Xi T23 904 108 ≤ 2600 := hHT23.c _ _
          have w939 : Xi T29 904 109 = Xi T23 904 109 := (show Xi T29 904 109 = Xi T27 904 109 from w935.x _ _ rfl).trans ((show Xi T27 904 109 = Xi T23 904 109 from w865.x _ _ rfl))
          have w940 : Xi T29 904 113 = Xi T23 904 113 := (show Xi T29 904 113 = Xi T27 904 113 from w935.x _ _ rfl).trans ((show Xi T27 904 113 = Xi T23 904 113 from w865.x _ _ rfl))
          have w941 : -1 ≤ Xi T23 904 113 ∧ Xi T23 904 113 ≤ 6411 := hHT23.c _ _
          have w942 : Xi T29 904 142 = Xi T23 904 142 := (show Xi T29 904 142 = Xi T27 904 142 from w935.x _ _ rfl).trans ((show Xi T27 904 142 = Xi T23 904 142 from w865.x _ _ rfl))
          have w944 : Xi T29 904 69 = Xi T23 904 69 := (show Xi T29 904 69 = Xi T27 904 69 from w935.x _ _ rfl).trans ((show Xi T27 904 69 = Xi T23 904 69 from w865.x _ _ rfl))
          have w946 : Xi T29 904 70 = Xi T23 904 70 := (show Xi T29 904 70 = Xi T27 904 70 from w935.x _ _ rfl).trans ((show Xi T27 904 70 = Xi T23 904 70 from w865.x _ _ rfl))
          have w948 : Xi T29 904 71 = Xi T23 904 71 := (show Xi T29 904 71 = Xi T27 904 71 from w935.x _ _ rfl).trans ((show Xi T27 904 71 = Xi T23 904 71 from w865.x _ _ rfl))
          have w950 : Xi T29 904 72 = Xi T23 904 72 := (show Xi T29 904 72 = Xi T27 904 72 from w935.x _ _ rfl).trans ((show Xi T27 904 72 = Xi T23 904 72 from w865.x _ _ rfl))
          have w952 : Xi T29 904 75 = Xi T23 904 75 := (show Xi T29 904 75 = Xi T27 904 75 from w935.x _ _ rfl).trans ((show Xi T27 904 75 = Xi T23 904 75 from w865.x _ _ rfl))
          have w954 : Xi T29 904 78 = Xi T23 904 78 := (show Xi T29 904 78 = Xi T27 904 78 from w935.x _ _ rfl).trans ((show Xi T27 904 78 = Xi T23 904 78 from w865.x _ _ rfl))
          exact Rl_weak (C533 T29 hHT29 hFT29 (v1) (v2) (v5) (v7) (by omega) (by omega) (by omega) (by omega) (by omega) (by omega) (by omega) (by omega) (by omega) (by omega) (by omega) (by omega) (by omega) (by omega) (by omega) (by omega) (by omega) (by first | exact fun q => E499 (by omega) | exact fun q => E432 (by omega)) (by first | exact fun q i a b => (Int.lt_or_le i v7).elim (fun h => F499 (by omega) i a h) (fun h => by rw [show i = v7 by omega, ← g499]; omega) | exact fun q => absurd (E432 (by omega) v7 (by omega) (by omega)) (by rw [← r452]; omega)) (by omega)) (And.intro rfl (And.intro rfl (And.intro rfl (And.intro rfl (And.intro rfl (True.intro))))))
    refine l_iload rfl rfl ?_
    refine l_aload_n rfl rfl ?_
    refine l_gfi rfl rfl rfl rfl rfl ?_
    refine l_icmp_ge rfl rfl (by unfold rg; omega) (by unfold rg; omega) (fun w956 => ?_) (fun w957 => ?_)
    · refine l_return rfl rfl ?_
      have w959 : 0 ≤ Xi T21 904 108 ∧ Xi T21 904 108 ≤ 2600 := hHT21.c _ _
      have w960 : 0 ≤ Xi T21 904 110 ∧ Xi T21 904 110 ≤ 15 := hHT21.c _ _
      have w961 : 0 ≤ Xi T21 904 112 ∧ Xi T21 904 112 ≤ 6 := hHT21.c _ _
      have w962 : -1 ≤ Xi T21 904 113 ∧ Xi T21 904 113 ≤ 6411 := hHT21.c _ _
      have w970 : -1 ≤ Xi T21 967 0 ∧ Xi T21 967 0 ≤ 6411 := hHT21.c _ _
      exact ⟨hHT21, hFT21, rfl, (by first | exact fun q e => ⟨by omega, A121 (by omega)⟩ | exact fun q e => absurd e (by omega) | exact fun q => absurd q (by omega)), (by first | exact fun q e => absurd e (by omega) | exact fun q => absurd q (by omega) | exact (fun _ => fun q e => (by have t := F215 q; rw [show r2R S (Xi S 904 71) 2 3 = v3 by omega]; exact ⟨by omega, t.1 (by omega), t.2⟩)) F215), (by first | exact fun q e => absurd e (by omega) | exact fun q => absurd q (by omega) | exact (fun _ => fun q e => (by have t := (by assumption : RDV T21 _) (by omega); exact ⟨O349 (by omega), by rw [← hFT21.x 904 16 rfl]; exact t.1, fun i hi => (adx_s (t.2 i hi) (hFT21.x 904 23 rfl) (hFT21.x 904 32 rfl) (fun j => (hFT21.cx 922 rfl j).1)).1⟩)) O349), (by first | exact fun q a b c => absurd (by omega) a | exact fun q a b c => absurd (by omega) b | exact fun q a b c => absurd (by omega) c | exact fun q => absurd q (by omega) | exact fun q a b c i x y => ⟨E432 (by omega) i x (by omega), F432 (by omega) i x (by omega)⟩)⟩
    · refine l_iload rfl rfl ?_
      refine l_if_eq rfl rfl (by unfold rg; omega) (fun w971 => ?_) (fun w972 => ?_)
      · refine l_return rfl rfl ?_
        have w974 : 0 ≤ Xi T21 904 108 ∧ Xi T21 904 108 ≤ 2600 := hHT21.c _ _
        have w975 : 0 ≤ Xi T21 904 110 ∧ Xi T21 904 110 ≤ 15 := hHT21.c _ _
        have w976 : 0 ≤ Xi T21 904 112 ∧ Xi T21 904 112 ≤ 6 := hHT21.c _ _
        have w977 : -1 ≤ Xi T21 904 113 ∧ Xi T21 904 113 ≤ 6411 := hHT21.c _ _
        have w985 : -1 ≤ Xi T21 967 0 ∧ Xi T21 967 0 ≤ 6411 := hHT21.c _ _
        exact ⟨hHT21, hFT21, rfl, (by first | exact fun q e => ⟨by omega, A121 (by omega)⟩ | exact fun q e => absurd e (by omega) | exact fun q => absurd q (by omega)), (by first | exact fun q e => absurd e (by omega) | exact fun q => absurd q (by omega) | exact (fun _ => fun q e => (by have t := F215 q; rw [show r2R S (Xi S 904 71) 2 3 = v3 by omega]; exact ⟨by omega, t.1 (by omega), t.2⟩)) F215), (by first | exact fun q e => absurd e (by omega) | exact fun q => absurd q (by omega) | exact (fun _ => fun q e => (by have t := (by assumption : RDV T21 _) (by omega); exact ⟨O349 (by omega), by rw [← hFT21.x 904 16 rfl]; exact t.1, fun i hi => (adx_s (t.2 i hi) (hFT21.x 904 23 rfl) (hFT21.x 904 32 rfl) (fun j => (hFT21.cx 922 rfl j).1)).1⟩)) O349), (by first | exact fun q a b c => absurd (by omega) a | exact fun q a b c => absurd (by omega) b | exact fun q a b c => absurd (by omega) c | exact fun q => absurd q (by omega) | exact fun q a b c i x y => ⟨E432 (by omega) i x (by omega), F432 (by omega) i x (by omega)⟩)⟩
      · refine l_aload_n rfl rfl ?_
        refine l_iload_n rfl rfl ?_
        refine l_iload rfl rfl ?_
        refine l_iadd rfl ?_
        refine l_iconst rfl ?_
        have w987 : 0 ≤ Xi T21 904 108 ∧ Xi T21 904 108 ≤ 2600 := hHT21.c _ _
        have w988 : -1 ≤ Xi T21 904 113 ∧ Xi T21 904 113 ≤ 6411 := hHT21.c _ _
        refine l_callV rfl rfl rfl (t_mo_meansRun__2 hHT21 n (v1 + v7) 4 ⟨by omega, by omega⟩ ⟨by omega, by omega⟩ (by first | assumption | exact (TK_FR hFT21 rfl (by assumption : TK S _))) (by first | assumption | exact (RNV_FR hFT21 rfl (by assumption : RNV S _))) (by first | assumption | omega) (by first | assumption | exact (LXM_FR hFT21 rfl (by assumption : LXM S))) _) ?_
        rintro _ _ ⟨rfl, z998, rfl, w998, w996, w997⟩
        show Rl _ _ _ _ _ [iv z998] _ _
        have r452 : z998 = rnR S (Xi S 904 71 + v7) 4 := by have t := (by assumption : z998 = rnR T21 _ _).trans (rnR_FR hFT21 rfl rfl); first | exact t | (rw [t]; exact congrArg (fun x : Int => rnR S x 4) (by omega))
        have x452 : z998 ≠ -1 → z998 < 24 := fun q => by have t := (by assumption : z998 ≠ -1 → z998 < cM T21 4) q; rw [cM4] at t; have u : Xi T21 904 19 ≤ 24 := (hHT21.c 904 19).2; omega
        refine l_istore rfl rfl rfl ?_
        refine l_iload rfl rfl ?_
        refine l_iconst rfl ?_
        refine l_icmp_eq rfl rfl (by unfold rg; omega) (by unfold rg; omega) (fun w999 => ?_) (fun w1000 => ?_)
        · have w1001 : 0 ≤ Xi T21 904 106 ∧ Xi T21 904 106 ≤ 9 := hHT21.c _ _
          exact Rl_weak (C533 T21 hHT21 hFT21 (v1) (v2) (v5) (v7) (by omega) (by omega) (by omega) (by omega) (by omega) (by omega) (by omega) (by omega) (by omega) (by omega) (by omega) (by omega) (by omega) (by omega) (by omega) (by omega) (by omega) (by first | exact fun q => E499 (by omega) | exact fun q => E432 (by omega)) (by first | exact fun q i a b => (Int.lt_or_le i v7).elim (fun h => F499 (by omega) i a h) (fun h => by rw [show i = v7 by omega, ← g499]; omega) | exact fun q => absurd (E432 (by omega) v7 (by omega) (by omega)) (by rw [← r452]; omega)) (by omega)) (And.intro rfl (And.intro rfl (And.intro rfl (And.intro rfl (And.intro rfl (True.intro))))))
        · refine l_aload_n rfl rfl ?_
          refine l_iload_n rfl rfl ?_
          refine l_aload_n rfl rfl ?_
          refine l_gfr rfl rfl rfl rfl rfl (hHT21.r 904 68 951 rfl) ?_
          refine l_aload_n rfl rfl ?_
          refine l_gfi rfl rfl rfl rfl rfl ?_
          refine l_iaload (n := 2600) rfl rfl (by omega) (by omega) (by unfold rg; omega) ?_
          have w1011 : 0 ≤ (Xi T21 951 (((Xi T21 904 78)).toNat)) ∧ (Xi T21 951 (((Xi T21 904 78)).toNat)) ≤ 5010 := hHT21.c _ _
          have e473 : (Xi T21 951 (((Xi T21 904 78)).toNat)) = Xi S 951 (Xi S 904 78).toNat := by first | rfl | exact (hFT21.cx 951 rfl _).1 | (rw [(hFT21.cx 951 rfl _).1]; exact congrArg (fun t : Int => Xi S 951 t.toNat) (by omega))
          refine l_aload_n rfl rfl ?_
          refine l_gfr rfl rfl rfl rfl rfl (hHT21.r 904 20 918 rfl) ?_
          refine l_iload rfl rfl ?_
          refine l_iaload (n := 24) rfl rfl (by omega) (by omega) (by unfold rg; omega) ?_
          have w1012 : 0 ≤ (Xi T21 918 ((z998).toNat)) ∧ (Xi T21 918 ((z998).toNat)) ≤ 15 := hHT21.c _ _
          have e480 : (Xi T21 918 ((z998).toNat)) = Xi S 918 (rnR S (Xi S 904 71 + v7) 4).toNat := by rw [(hFT21.cx 918 rfl _).1, r452]
          refine l_iconst rfl ?_
          refine l_aload_n rfl rfl ?_
          refine l_gfi rfl rfl rfl rfl rfl ?_
          refine l_if_ne rfl rfl (by unfold rg; omega) (fun w1013 => ?_) (fun w1014 => ?_)
          · refine l_iconst rfl ?_
            refine l_callV rfl rfl rfl (t_mo_adjective__2 hHT21 v2 (Xi T21 951 (((Xi T21 904 78)).toNat)) (Xi T21 918 ((z998).toNat)) 0 0 ⟨by omega, by omega⟩ ⟨by omega, by omega⟩ ⟨by omega, by omega⟩ ⟨by omega, by omega⟩ ⟨by omega, by omega⟩ (by first | assumption | omega) (by first | assumption | exact (LXM_FR hFT21 rfl (by assumption : LXM S))) (by first | assumption | exact (ABV_FR hFT21 rfl (by assumption : ABV S))) (by first | assumption | exact (DCM_FR hFT21 rfl (by assumption : DCM S))) _) ?_
            rintro _ T30 ⟨hHT30, w1027, z1026, rfl, w1026, f494, w1025, f494⟩
            have hFT30 : FR md_mo_askFifteen S T30 := FR.tr hFT21 w1027 rfl
            show Rl _ _ _ _ _ [iv z1026] _ _
            have g494 : z1026 = adR S (Xi S 950 (Xi S 904 78).toNat) (Xi S 951 (Xi S 904 78).toNat) (Xi S 918 (rnR S (Xi S 904 71 + v7) 4).toNat) 0 (1 - Xi S 904 75) := by rw [f494, adR_FR hFT21 rfl rfl]; exact adr_c (by omega) e473 e480 (by omega)
            clear f494
            refine l_istore rfl rfl rfl ?_
            have w1028 : Xi T30 904 106 = Xi T21 904 106 := (show Xi T30 904 106 = Xi T21 904 106 from w1027.x _ _ rfl)
            have w1030 : Xi T30 904 108 = Xi T21 904 108 := (show Xi T30 904 108 = Xi T21 904 108 from w1027.x _ _ rfl)
            have w1032 : Xi T30 904 109 = Xi T21 904 109 := (show Xi T30 904 109 = Xi T21 904 109 from w1027.x _ _ rfl)
            have w1033 : -1 ≤ Xi T30 904 113 ∧ Xi T30 904 113 ≤ 6411 := hHT30.c _ _
            have w1034 : Xi T30 904 142 = Xi T21 904 142 := (show Xi T30 904 142 = Xi T21 904 142 from w1027.x _ _ rfl)
            have w1036 : Xi T30 904 69 = Xi T21 904 69 := (show Xi T30 904 69 = Xi T21 904 69 from w1027.x _ _ rfl)
            have w1038 : Xi T30 904 70 = Xi T21 904 70 := (show Xi T30 904 70 = Xi T21 904 70 from w1027.x _ _ rfl)
            have w1040 : Xi T30 904 71 = Xi T21 904 71 := (show Xi T30 904 71 = Xi T21 904 71 from w1027.x _ _ rfl)
            have w1042 : Xi T30 904 72 = Xi T21 904 72 := (show Xi T30 904 72 = Xi T21 904 72 from w1027.x _ _ rfl)
            have w1044 : Xi T30 904 75 = Xi T21 904 75 := (show Xi T30 904 75 = Xi T21 904 75 from w1027.x _ _ rfl)
            have w1046 : Xi T30 904 78 = Xi T21 904 78 := (show Xi T30 904 78 = Xi T21 904 78 from w1027.x _ _ rfl)
            exact Rl_weak (C499 T30 hHT30 hFT30 (v1) (v2) (v5) (v7) (z1026) (by omega) (by omega) (by omega) (by omega) (by omega) (by omega) (by omega) (by omega) (by omega) (by omega) (by omega) (by omega) (by omega) (by omega) (by omega) (by omega) (by omega) (by omega) (fun q => E432 (by omega)) (fun q => F432 (by omega)) (g494) (by omega)) (And.intro rfl (And.intro rfl (And.intro rfl (And.intro rfl (And.intro rfl (And.intro rfl (True.intro)))))))
          · refine l_iconst rfl ?_
            refine l_goto rfl rfl ?_
            refine l_callV rfl rfl rfl (t_mo_adjective__2 hHT21 v2 (Xi T21 951 (((Xi T21 904 78)).toNat)) (Xi T21 918 ((z998).toNat)) 0 1 ⟨by omega, by omega⟩ ⟨by omega, by omega⟩ ⟨by omega, by omega⟩ ⟨by omega, by omega⟩ ⟨by omega, by omega⟩ (by first | assumption | omega) (by first | assumption | exact (LXM_FR hFT21 rfl (by assumption : LXM S))) (by first | assumption | exact (ABV_FR hFT21 rfl (by assumption : ABV S))) (by first | assumption | exact (DCM_FR hFT21 rfl (by assumption : DCM S))) _) ?_
            rintro _ T31 ⟨hHT31, w1060, z1059, rfl, w1059, f494, w1058, f494⟩
            have hFT31 : FR md_mo_askFifteen S T31 := FR.tr hFT21 w1060 rfl
            show Rl _ _ _ _ _ [iv z1059] _ _
            have g494 : z1059 = adR S (Xi S 950 (Xi S 904 78).toNat) (Xi S 951 (Xi S 904 78).toNat) (Xi S 918 (rnR S (Xi S 904 71 + v7) 4).toNat) 0 (1 - Xi S 904 75) := by rw [f494, adR_FR hFT21 rfl rfl]; exact adr_c (by omega) e473 e480 (by omega)
            clear f494
            refine l_istore rfl rfl rfl ?_
            have w1061 : Xi T31 904 106 = Xi T21 904 106 := (show Xi T31 904 106 = Xi T21 904 106 from w1060.x _ _ rfl)
            have w1063 : Xi T31 904 108 = Xi T21 904 108 := (show Xi T31 904 108 = Xi T21 904 108 from w1060.x _ _ rfl)
            have w1065 : Xi T31 904 109 = Xi T21 904 109 := (show Xi T31 904 109 = Xi T21 904 109 from w1060.x _ _ rfl)
            have w1066 : -1 ≤ Xi T31 904 113 ∧ Xi T31 904 113 ≤ 6411 := hHT31.c _ _
            have w1067 : Xi T31 904 142 = Xi T21 904 142 := (show Xi T31 904 142 = Xi T21 904 142 from w1060.x _ _ rfl)
            have w1069 : Xi T31 904 69 = Xi T21 904 69 := (show Xi T31 904 69 = Xi T21 904 69 from w1060.x _ _ rfl)
            have w1071 : Xi T31 904 70 = Xi T21 904 70 := (show Xi T31 904 70 = Xi T21 904 70 from w1060.x _ _ rfl)
            have w1073 : Xi T31 904 71 = Xi T21 904 71 := (show Xi T31 904 71 = Xi T21 904 71 from w1060.x _ _ rfl)
            have w1075 : Xi T31 904 72 = Xi T21 904 72 := (show Xi T31 904 72 = Xi T21 904 72 from w1060.x _ _ rfl)
            have w1077 : Xi T31 904 75 = Xi T21 904 75 := (show Xi T31 904 75 = Xi T21 904 75 from w1060.x _ _ rfl)
            have w1079 : Xi T31 904 78 = Xi T21 904 78 := (show Xi T31 904 78 = Xi T21 904 78 from w1060.x _ _ rfl)
            exact Rl_weak (C499 T31 hHT31 hFT31 (v1) (v2) (v5) (v7) (z1059) (by omega) (by omega) (by omega) (by omega) (by omega) (by omega) (by omega) (by omega) (by omega) (by omega) (by omega) (by omega) (by omega) (by omega) (by omega) (by omega) (by omega) (by omega) (fun q => E432 (by omega)) (fun q => F432 (by omega)) (g494) (by omega)) (And.intro rfl (And.intro rfl (And.intro rfl (And.intro rfl (And.intro rfl (And.intro rfl (True.intro)))))))



