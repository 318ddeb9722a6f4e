/-! SAFETY of methods: printed by wip/safe (vc.py, decl.py) -/
def kk0 (S : sS) (v : Int) : Int := if Xi S 904 70 = 11 then Xi S 904 49 else if v = 1 then Xi S 904 18 else Xi S 904 16
def kkm (S : sS) (v : Int) : Int := if Xi S 904 70 = 11 then 12 else if v = 1 then 8 else 16
def VKX (S : sS) (v : Int) : Prop := (v = 0 ∨ v = 1) ∧ (v = 1 → Xi S 904 70 = 10 ∧ Xi S 904 78 = -2) ∧ (v = 0 → Xi S 904 70 ≠ 10 ∨ Xi S 904 78 ≠ -2)
theorem kk_le {S : sS} {v : Int} (h1 : 0 ≤ Xi S 904 16 ∧ Xi S 904 16 ≤ 16) (h2 : 0 ≤ Xi S 904 18 ∧ Xi S 904 18 ≤ 8) (h3 : 0 ≤ Xi S 904 49 ∧ Xi S 904 49 ≤ 12) : kk0 S v ≤ kkm S v ∧ 0 ≤ kk0 S v ∧ kkm S v ≤ 16 := by
  unfold kk0 kkm
  split
  · omega
  · split <;> omega
theorem kk_end {S : sS} {v a b c : Int} (hx : VKX S v) (h1 : a = kk0 S v + c) (h3 : b = kkm S v) (h2 : a ≤ b) (h4 : c = Xi S 904 72) (hs : Xi S 904 70 = 10 ∨ Xi S 904 70 = 11) : (Xi S 904 70 = 11 → Xi S 904 49 + Xi S 904 72 ≤ 12) ∧ (Xi S 904 70 = 10 → Xi S 904 78 = -2 → Xi S 904 18 + Xi S 904 72 ≤ 8) ∧ (Xi S 904 70 = 10 → Xi S 904 78 ≠ -2 → Xi S 904 16 + Xi S 904 72 ≤ 16) := by
  unfold VKX at hx
  unfold kk0 at h1
  unfold kkm at h3
  split at h1
  · rw [if_pos (by assumption)] at h3
    refine ⟨fun _ => by omega, fun e => by omega, fun e => by omega⟩
  · rw [if_neg (by assumption)] at h3
    split at h1
    · rw [if_pos (by assumption)] at h3
      refine ⟨fun e => by omega, fun _ _ => by omega, fun _ _ => by omega⟩
    · rw [if_neg (by assumption)] at h3
      refine ⟨fun e => by omega, fun _ _ => by omega, fun _ _ => by omega⟩
def md_mo_askKinds : List rec := [(904, 905, 104, 105), (904, 905, 105, 106), (904, 905, 106, 107), (904, 905, 108, 109), (966, 967, 0, 100000)]
abbrev Q_mo_askKinds (S : sS) (n : Nat) : pst := fun r S1 => HI S1 ∧ FR md_mo_askKinds S S1 ∧ (r = none ∧ (Xi S1 904 106 = 0 → (Xi S 904 70 = 11 → Xi S 904 49 + Xi S 904 72 ≤ 12) ∧ (Xi S 904 70 = 10 → Xi S 904 78 = -2 → Xi S 904 18 + Xi S 904 72 ≤ 8) ∧ (Xi S 904 70 = 10 → Xi S 904 78 ≠ -2 → Xi S 904 16 + Xi S 904 72 ≤ 16)) ∧ (Xi S1 904 106 = 0 → 0 ≤ Xi S 904 78 → rnR S (Xi S 904 78) 0 ≠ -1) ∧ (Xi S1 904 106 = 0 → ∀ i : Int, 0 ≤ i → i < Xi S 904 72 → Xi S 951 (Xi S 904 71 + i).toNat ≤ 3))
set_option maxRecDepth 100000 in
set_option maxHeartbeats 4000000 in
theorem t_mo_askKinds {S : sS} (hH : HI S) (n : Nat) (hT : TK S n) (hv : RNV S n) (hM : LXM S) (hN : NWV S) (hl : Xi S 904 71 + Xi S 904 72 ≤ Xi S 904 69) (h9 : Xi S 904 108 = 0) (hw : Xi S 904 78 < Xi S 904 69) (hs : Xi S 904 70 = 10 ∨ Xi S 904 70 = 11) (hs2 : Xi S 904 70 = 11 → -1 ≤ Xi S 904 78) (d : Nat) : Mt lay0 (d + 6) m_mo_askKinds [.ref 904] S (Q_mo_askKinds S n) := by
  refine Mt_R rfl rfl ?_
  have hF : FR md_mo_askKinds S S := FR.rf
  have w1 : 0 ≤ Xi S 904 106 ∧ Xi S 904 106 ≤ 9 := hH.c _ _
  have w2 : 0 ≤ Xi S 904 108 ∧ Xi S 904 108 ≤ 2600 := hH.c _ _
  have w3 : 0 ≤ Xi S 904 16 ∧ Xi S 904 16 ≤ 16 := hH.c _ _
  have w4 : 0 ≤ Xi S 904 18 ∧ Xi S 904 18 ≤ 8 := hH.c _ _
  have w5 : 0 ≤ Xi S 904 49 ∧ Xi S 904 49 ≤ 12 := hH.c _ _
  have w6 : 0 ≤ Xi S 904 69 ∧ Xi S 904 69 ≤ 2600 := hH.c _ _
  have w7 : 0 ≤ Xi S 904 70 ∧ Xi S 904 70 ≤ 20 := hH.c _ _
  have w8 : 0 ≤ Xi S 904 71 ∧ Xi S 904 71 ≤ 2600 := hH.c _ _
  have w9 : 0 ≤ Xi S 904 72 ∧ Xi S 904 72 ≤ 2600 := hH.c _ _
  have w10 : -2 ≤ Xi S 904 78 ∧ Xi S 904 78 ≤ 5010 := hH.c _ _
  have hn5 := hT.1
  have hc69 : 0 ≤ Xi S 904 69 ∧ Xi S 904 69 ≤ 2600 := hH.c _ _
  have hc71 : 0 ≤ Xi S 904 71 ∧ Xi S 904 71 ≤ 2600 := hH.c _ _
  have hc72 : 0 ≤ Xi S 904 72 ∧ Xi S 904 72 ≤ 2600 := hH.c _ _
  have hrf : ∀ r : Int, 0 ≤ r → r < Xi S 904 69 → Xi S 950 r.toNat ≤ n := fun r a b => by have := hv r.toNat (by omega); omega
  have hc16 : 0 ≤ Xi S 904 16 ∧ Xi S 904 16 ≤ 16 := hH.c _ _
  have hc18 : 0 ≤ Xi S 904 18 ∧ Xi S 904 18 ≤ 8 := hH.c _ _
  have hc49 : 0 ≤ Xi S 904 49 ∧ Xi S 904 49 ≤ 12 := hH.c _ _
  have hs0 := hs
  have hs20 := hs2
  have hkl : ∀ v, kk0 S v ≤ kkm S v ∧ 0 ≤ kk0 S v ∧ kkm S v ≤ 16 := fun v => kk_le (by omega) (by omega) (by omega)
  have C24 : ∀  (v1 : Int), (0 ≤ v1 ∧ v1 ≤ 1) → (VKX S v1) → Rl lay0 (d + 5) m_mo_askKinds 24 [(0, .ref 904), (1, iv v1)] [] S (Q_mo_askKinds S n) := by
    intro v1 w11 q24
    have C56 : ∀  (v1 : Int) (v2 : Int), (0 ≤ v1 ∧ v1 ≤ 1) → (0 ≤ v2 ∧ v2 ≤ 16) → (VKX S v1) → (v2 = kk0 S v1) → Rl lay0 (d + 5) m_mo_askKinds 56 [(0, .ref 904), (1, iv v1), (2, iv v2)] [] S (Q_mo_askKinds S n) := by
      intro v1 v2 w12 w13 q56 k56
      have C82 : ∀  (v1 : Int) (v2 : Int) (v3 : Int), (0 ≤ v1 ∧ v1 ≤ 1) → (0 ≤ v2 ∧ v2 ≤ 16) → (8 ≤ v3 ∧ v3 ≤ 16) → (VKX S v1) → (v2 = kk0 S v1) → (v3 = kkm S v1) → Rl lay0 (d + 5) m_mo_askKinds 82 [(0, .ref 904), (1, iv v1), (2, iv v2), (3, iv v3)] [] S (Q_mo_askKinds S n) := by
        intro v1 v2 v3 w14 w15 w16 q82 k82 m82
        have C85 : ∀ (n85 : Nat) (T1 : sS) (_ : HI T1) (_ : FR md_mo_askKinds S T1) (v1 : Int) (v2 : Int) (v3 : Int) (v4 : Int), (0 ≤ v1 ∧ v1 ≤ 1) → (0 ≤ v2 ∧ v2 ≤ 2700) → (8 ≤ v3 ∧ v3 ≤ 16) → (0 ≤ v4 ∧ v4 ≤ 2600) → (VKX S v1) → (v3 = kkm S v1) → (Xi T1 904 69 = Xi S 904 69) → (Xi T1 904 71 = Xi S 904 71) → (Xi T1 904 72 = Xi S 904 72) → (Xi T1 904 78 = Xi S 904 78) → (Xi T1 904 108 ≤ v4) → (v4 ≤ Xi S 904 72) → (v2 ≤ 16 + v4) → (NWV T1) → (Xi T1 904 106 = 0 → v2 = kk0 S v1 + v4 ∧ v2 ≤ v3) → (Xi T1 904 106 = 0 → ∀ i : Int, 0 ≤ i → i < v4 → Xi S 951 (Xi S 904 71 + i).toNat ≤ 3) → n85 = (2601 - v4).toNat → Rl lay0 (d + 5) m_mo_askKinds 85 [(0, .ref 904), (1, iv v1), (2, iv v2), (3, iv v3), (4, iv v4)] [] T1 (Q_mo_askKinds S n) := by
          intro n85
          induction n85 using Nat.strongRecOn with
          | ind n85 ih85 =>
            intro T1 hHT1 hFT1 v1 v2 v3 v4 w17 w18 w19 w20 q85 m85 w21 w22 w23 w24 w25 w26 w27 N85 K85 E85 hm85
            have w28 : Xi T1 904 16 = Xi S 904 16 := hFT1.x _ _ rfl
            have w29 : Xi T1 904 18 = Xi S 904 18 := hFT1.x _ _ rfl
            have w30 : Xi T1 904 49 = Xi S 904 49 := hFT1.x _ _ rfl
            have w31 : Xi T1 904 69 = Xi S 904 69 := hFT1.x _ _ rfl
            have w32 : Xi T1 904 70 = Xi S 904 70 := hFT1.x _ _ rfl
            have w33 : Xi T1 904 71 = Xi S 904 71 := hFT1.x _ _ rfl
            have w34 : Xi T1 904 72 = Xi S 904 72 := hFT1.x _ _ rfl
            have w35 : Xi T1 904 78 = Xi S 904 78 := hFT1.x _ _ rfl
            have w36 : 0 ≤ Xi T1 904 106 ∧ Xi T1 904 106 ≤ 9 := hHT1.c _ _
            have w37 : 0 ≤ Xi T1 904 108 ∧ Xi T1 904 108 ≤ 2600 := hHT1.c _ _
            have w38 : 0 ≤ Xi T1 904 69 ∧ Xi T1 904 69 ≤ 2600 := hHT1.c _ _
            have w39 : 0 ≤ Xi T1 904 71 ∧ Xi T1 904 71 ≤ 2600 := hHT1.c _ _
            have w40 : 0 ≤ Xi T1 904 72 ∧ Xi T1 904 72 ≤ 2600 := hHT1.c _ _
            have w41 : -2 ≤ Xi T1 904 78 ∧ Xi T1 904 78 ≤ 5010 := hHT1.c _ _
            refine l_iload rfl rfl ?_
            refine l_aload_n rfl rfl ?_
            refine l_gfi rfl rfl rfl rfl rfl ?_
            refine l_icmp_ge rfl rfl (by unfold rg; omega) (by unfold rg; omega) (fun w42 => ?_) (fun w43 => ?_)
            · refine l_aload_n rfl rfl ?_
              refine l_gfi rfl rfl rfl rfl rfl ?_
              refine l_iconst rfl ?_
              refine l_icmp_eq rfl rfl (by unfold rg; omega) (by unfold rg; omega) (fun w44 => ?_) (fun w45 => ?_)
              · refine l_return rfl rfl ?_
                have w46 : 0 ≤ Xi T1 904 106 ∧ Xi T1 904 106 ≤ 9 := hHT1.c _ _
                have w47 : 0 ≤ Xi T1 904 108 ∧ Xi T1 904 108 ≤ 2600 := hHT1.c _ _
                have w48 : 0 ≤ Xi T1 904 69 ∧ Xi T1 904 69 ≤ 2600 := hHT1.c _ _
                have w49 : 0 ≤ Xi T1 904 71 ∧ Xi T1 904 71 ≤ 2600 := hHT1.c _ _
                have w50 : 0 ≤ Xi T1 904 72 ∧ Xi T1 904 72 ≤ 2600 := hHT1.c _ _
                have w51 : -2 ≤ Xi T1 904 78 ∧ Xi T1 904 78 ≤ 5010 := hHT1.c _ _
                exact ⟨hHT1, hFT1, rfl, (fun q => kk_end q85 (K85 (by omega)).1 m85 (K85 (by omega)).2 (by omega) hs), (fun q y => by first | (rw [← r156]; omega) | (exfalso; have t := q85; unfold VKX at t; omega)), (fun q i a b => E85 (by omega) i a (by omega))⟩
              · refine l_iload_n rfl rfl ?_
                refine l_if_ne rfl rfl (by unfold rg; omega) (fun w52 => ?_) (fun w53 => ?_)
                · refine l_return rfl rfl ?_
                  have w54 : 0 ≤ Xi T1 904 106 ∧ Xi T1 904 106 ≤ 9 := hHT1.c _ _
                  have w55 : 0 ≤ Xi T1 904 108 ∧ Xi T1 904 108 ≤ 2600 := hHT1.c _ _
                  have w56 : 0 ≤ Xi T1 904 69 ∧ Xi T1 904 69 ≤ 2600 := hHT1.c _ _
                  have w57 : 0 ≤ Xi T1 904 71 ∧ Xi T1 904 71 ≤ 2600 := hHT1.c _ _
                  have w58 : 0 ≤ Xi T1 904 72 ∧ Xi T1 904 72 ≤ 2600 := hHT1.c _ _
                  have w59 : -2 ≤ Xi T1 904 78 ∧ Xi T1 904 78 ≤ 5010 := hHT1.c _ _
                  exact ⟨hHT1, hFT1, rfl, (fun q => kk_end q85 (K85 (by omega)).1 m85 (K85 (by omega)).2 (by omega) hs), (fun q y => by first | (rw [← r156]; omega) | (exfalso; have t := q85; unfold VKX at t; omega)), (fun q i a b => E85 (by omega) i a (by omega))⟩
                · refine l_aload_n rfl rfl ?_
                  refine l_aload_n rfl rfl ?_
                  refine l_gfi rfl rfl rfl rfl rfl ?_
                  have y153 : 0 ≤ (Xi T1 904 78) := by have t := q85; unfold VKX at t; omega
                  have w60 : 0 ≤ Xi T1 904 106 ∧ Xi T1 904 106 ≤ 9 := hHT1.c _ _
                  have w61 : 0 ≤ Xi T1 904 108 ∧ Xi T1 904 108 ≤ 2600 := hHT1.c _ _
                  have w62 : 0 ≤ Xi T1 904 16 ∧ Xi T1 904 16 ≤ 16 := hHT1.c _ _
                  have w63 : 0 ≤ Xi T1 904 69 ∧ Xi T1 904 69 ≤ 2600 := hHT1.c _ _
                  have w64 : 0 ≤ Xi T1 904 71 ∧ Xi T1 904 71 ≤ 2600 := hHT1.c _ _
                  have w65 : 0 ≤ Xi T1 904 72 ∧ Xi T1 904 72 ≤ 2600 := hHT1.c _ _
                  have w66 : -2 ≤ Xi T1 904 78 ∧ Xi T1 904 78 ≤ 5010 := hHT1.c _ _
                  refine l_callV rfl rfl rfl (t_mo_kindOfRun__2 hHT1 n (Xi T1 904 78) ⟨by omega, by omega⟩ (by first | assumption | exact (TK_FR hFT1 rfl (by assumption : TK S _))) (by first | assumption | exact (RNV_FR hFT1 rfl (by assumption : RNV S _))) (by first | assumption | omega) (by first | assumption | exact (LXM_FR hFT1 rfl (by assumption : LXM S))) _) ?_
                  rintro _ T2 ⟨hHT2, w72, z71, rfl, w71, w67, w68, w69, w70⟩
                  have hFT2 : FR md_mo_askKinds S T2 := FR.tr hFT1 w72 rfl
                  show Rl _ _ _ _ _ [iv z71] _ _
                  have r156 : z71 = rnR S (Xi S 904 78) 0 := by have t := (by assumption : z71 = rnR T1 _ _).trans (rnR_FR hFT1 rfl rfl); rw [show Xi T1 904 78 = Xi S 904 78 by omega] at t; exact t
                  refine l_pop rfl rfl ?_
                  refine l_return rfl rfl ?_
                  have w73 : 0 ≤ Xi T2 904 106 ∧ Xi T2 904 106 ≤ 9 := hHT2.c _ _
                  have w74 : Xi T2 904 108 = Xi T1 904 108 := (show Xi T2 904 108 = Xi T1 904 108 from w72.x _ _ rfl)
                  have w75 : 0 ≤ Xi T1 904 108 ∧ Xi T1 904 108 ≤ 2600 := hHT1.c _ _
                  have w76 : Xi T2 904 69 = Xi T1 904 69 := (show Xi T2 904 69 = Xi T1 904 69 from w72.x _ _ rfl)
                  have w77 : 0 ≤ Xi T1 904 69 ∧ Xi T1 904 69 ≤ 2600 := hHT1.c _ _
                  have w78 : Xi T2 904 71 = Xi T1 904 71 := (show Xi T2 904 71 = Xi T1 904 71 from w72.x _ _ rfl)
                  have w79 : 0 ≤ Xi T1 904 71 ∧ Xi T1 904 71 ≤ 2600 := hHT1.c _ _
                  have w80 : Xi T2 904 72 = Xi T1 904 72 := (show Xi T2 904 72 = Xi T1 904 72 from w72.x _ _ rfl)
                  have w81 : 0 ≤ Xi T1 904 72 ∧ Xi T1 904 72 ≤ 2600 := hHT1.c _ _
                  have w82 : Xi T2 904 78 = Xi T1 904 78 := (show Xi T2 904 78 = Xi T1 904 78 from w72.x _ _ rfl)
                  have w83 : -2 ≤ Xi T1 904 78 ∧ Xi T1 904 78 ≤ 5010 := hHT1.c _ _
                  exact ⟨hHT2, hFT2, rfl, (fun q => kk_end q85 (K85 (by omega)).1 m85 (K85 (by omega)).2 (by omega) hs), (fun q y => by first | (rw [← r156]; omega) | (exfalso; have t := q85; unfold VKX at t; omega)), (fun q i a b => E85 (by omega) i a (by omega))⟩
            · refine l_aload_n rfl rfl ?_
              refine l_aload_n rfl rfl ?_
              refine l_gfi rfl rfl rfl rfl rfl ?_
              refine l_iload rfl rfl ?_
              refine l_iadd rfl ?_
              have w84 : 0 ≤ Xi T1 904 106 ∧ Xi T1 904 106 ≤ 9 := hHT1.c _ _
              have w85 : 0 ≤ Xi T1 904 108 ∧ Xi T1 904 108 ≤ 2600 := hHT1.c _ _
              have w86 : 0 ≤ Xi T1 904 69 ∧ Xi T1 904 69 ≤ 2600 := hHT1.c _ _
              have w87 : 0 ≤ Xi T1 904 71 ∧ Xi T1 904 71 ≤ 2600 := hHT1.c _ _
              have w88 : 0 ≤ Xi T1 904 72 ∧ Xi T1 904 72 ≤ 2600 := hHT1.c _ _
              have w89 : -2 ≤ Xi T1 904 78 ∧ Xi T1 904 78 ≤ 5010 := hHT1.c _ _
              refine l_callV rfl rfl rfl (t_mo_isNew hHT1 n ((Xi T1 904 71) + v4) ⟨by omega, by omega⟩ (by first | assumption | exact (TK_FR hFT1 rfl (by assumption : TK S _))) (by first | assumption | exact (RNV_FR hFT1 rfl (by assumption : RNV S _))) (by first | assumption | omega) (by first | assumption | exact (by assumption : NWV T1)) _) ?_
              rintro _ _ ⟨rfl, z90, rfl, w90, f102⟩
              show Rl _ _ _ _ _ [iv z90] _ _
              refine l_istore rfl rfl rfl ?_
              refine l_aload_n rfl rfl ?_
              refine l_aload_n rfl rfl ?_
              refine l_gfi rfl rfl rfl rfl rfl ?_
              refine l_iload rfl rfl ?_
              refine l_iadd rfl ?_
              refine l_iload_n rfl rfl ?_
              refine l_iload_n rfl rfl ?_
              have w91 : 0 ≤ Xi T1 904 106 ∧ Xi T1 904 106 ≤ 9 := hHT1.c _ _
              have w92 : 0 ≤ Xi T1 904 108 ∧ Xi T1 904 108 ≤ 2600 := hHT1.c _ _
              have w93 : 0 ≤ Xi T1 904 69 ∧ Xi T1 904 69 ≤ 2600 := hHT1.c _ _
              have w94 : 0 ≤ Xi T1 904 71 ∧ Xi T1 904 71 ≤ 2600 := hHT1.c _ _
              have w95 : 0 ≤ Xi T1 904 72 ∧ Xi T1 904 72 ≤ 2600 := hHT1.c _ _
              have w96 : -2 ≤ Xi T1 904 78 ∧ Xi T1 904 78 ≤ 5010 := hHT1.c _ _
              refine l_callV rfl rfl rfl (t_mo_mustBeNew hHT1 n ((Xi T1 904 71) + v4) v2 v3 ⟨by omega, by omega⟩ ⟨by omega, by omega⟩ ⟨by omega, by omega⟩ (by first | assumption | exact (TK_FR hFT1 rfl (by assumption : TK S _))) (by first | assumption | exact (RNV_FR hFT1 rfl (by assumption : RNV S _))) (by first | assumption | omega) (by first | assumption | exact (by assumption : NWV T1)) (by first | assumption | omega) _) ?_
              rintro _ T3 ⟨hHT3, w101, rfl, w97, g117, w98, w99⟩
              have hFT3 : FR md_mo_askKinds S T3 := FR.tr hFT1 w101 rfl
              show Rl _ _ _ _ _ [] _ _
              have z117 : Xi T3 904 106 = 0 → z90 = 1 := fun q => (Int.lt_or_le z90 1).elim (fun e => absurd (g117 q).2 (f102.2 (by omega))) (fun e => by omega)
              have s117 : Xi T3 904 106 = 0 → Xi S 951 (Xi S 904 71 + v4).toNat ≤ 3 := fun q => by have t := (g117 q).2.1; rw [(hFT1.cx 951 rfl _).1, show Xi T1 904 71 = Xi S 904 71 by omega] at t; exact t
              have m117 : Xi T3 904 106 = 0 → v2 < v3 := fun q => (g117 q).1
              clear g117
              refine l_iload_n rfl rfl ?_
              refine l_iload rfl rfl ?_
              refine l_if_eq rfl rfl (by unfold rg; omega) (fun w102 => ?_) (fun w103 => ?_)
              · refine l_iconst rfl ?_
                refine l_iadd rfl ?_
                refine l_istore_n rfl rfl rfl ?_
                refine l_iinc rfl rfl rfl rfl ?_
                refine l_goto rfl rfl ?_
                have w104 : 0 ≤ Xi T3 904 106 ∧ Xi T3 904 106 ≤ 9 := hHT3.c _ _
                have w105 : 0 ≤ Xi T3 904 108 ∧ Xi T3 904 108 ≤ 2600 := hHT3.c _ _
                have w106 : Xi T3 904 69 = Xi T1 904 69 := (show Xi T3 904 69 = Xi T1 904 69 from w101.x _ _ rfl)
                have w107 : 0 ≤ Xi T1 904 69 ∧ Xi T1 904 69 ≤ 2600 := hHT1.c _ _
                have w108 : Xi T3 904 71 = Xi T1 904 71 := (show Xi T3 904 71 = Xi T1 904 71 from w101.x _ _ rfl)
                have w109 : 0 ≤ Xi T1 904 71 ∧ Xi T1 904 71 ≤ 2600 := hHT1.c _ _
                have w110 : Xi T3 904 72 = Xi T1 904 72 := (show Xi T3 904 72 = Xi T1 904 72 from w101.x _ _ rfl)
                have w111 : 0 ≤ Xi T1 904 72 ∧ Xi T1 904 72 ≤ 2600 := hHT1.c _ _
                have w112 : Xi T3 904 78 = Xi T1 904 78 := (show Xi T3 904 78 = Xi T1 904 78 from w101.x _ _ rfl)
                have w113 : -2 ≤ Xi T1 904 78 ∧ Xi T1 904 78 ≤ 5010 := hHT1.c _ _
                exact Rl_weak (ih85 _ (by omega) T3 hHT3 hFT3 (v1) ((v2 + 0)) (v3) ((v4 + 1)) (by omega) (by omega) (by omega) (by omega) (by first | exact q85 | exact q82) (by first | exact m85 | exact m82) (by omega) (by omega) (by omega) (by omega) (by omega) (by omega) (by omega) (by first | assumption | exact hN) (by first | exact (fun q => by have t := hkl v1; omega) | omega) (by first | exact fun q i a b => absurd b (by omega) | exact fun q i a b => (Int.lt_or_le i v4).elim (fun h => E85 (by omega) i a h) (fun h => by rw [show i = v4 by omega]; exact s117 (by omega))) rfl) (And.intro rfl (And.intro rfl (And.intro rfl (And.intro rfl (And.intro rfl (True.intro))))))
              · refine l_iconst rfl ?_
                refine l_goto rfl rfl ?_
                refine l_iadd rfl ?_
                refine l_istore_n rfl rfl rfl ?_
                refine l_iinc rfl rfl rfl rfl ?_
                refine l_goto rfl rfl ?_
                have w114 : 0 ≤ Xi T3 904 106 ∧ Xi T3 904 106 ≤ 9 := hHT3.c _ _
                have w115 : 0 ≤ Xi T3 904 108 ∧ Xi T3 904 108 ≤ 2600 := hHT3.c _ _
                have w116 : Xi T3 904 69 = Xi T1 904 69 := (show Xi T3 904 69 = Xi T1 904 69 from w101.x _ _ rfl)
                have w117 : 0 ≤ Xi T1 904 69 ∧ Xi T1 904 69 ≤ 2600 := hHT1.c _ _
                have w118 : Xi T3 904 71 = Xi T1 904 71 := (show Xi T3 904 71 = Xi T1 904 71 from w101.x _ _ rfl)
                have w119 : 0 ≤ Xi T1 904 71 ∧ Xi T1 904 71 ≤ 2600 := hHT1.c _ _
                have w120 : Xi T3 904 72 = Xi T1 904 72 := (show Xi T3 904 72 = Xi T1 904 72 from w101.x _ _ rfl)
                have w121 : 0 ≤ Xi T1 904 72 ∧ Xi T1 904 72 ≤ 2600 := hHT1.c _ _
                have w122 : Xi T3 904 78 = Xi T1 904 78 := (show Xi T3 904 78 = Xi T1 904 78 from w101.x _ _ rfl)
                have w123 : -2 ≤ Xi T1 904 78 ∧ Xi T1 904 78 ≤ 5010 := hHT1.c _ _
                exact Rl_weak (ih85 _ (by omega) T3 hHT3 hFT3 (v1) ((v2 + 1)) (v3) ((v4 + 1)) (by omega) (by omega) (by omega) (by omega) (by first | exact q85 | exact q82) (by first | exact m85 | exact m82) (by omega) (by omega) (by omega) (by omega) (by omega) (by omega) (by omega) (by first | assumption | exact hN) (by first | exact (fun q => by have t := hkl v1; omega) | omega) (by first | exact fun q i a b => absurd b (by omega) | exact fun q i a b => (Int.lt_or_le i v4).elim (fun h => E85 (by omega) i a h) (fun h => by rw [show i = v4 by omega]; exact s117 (by omega))) rfl) (And.intro rfl (And.intro rfl (And.intro rfl (And.intro rfl (And.intro rfl (True.intro))))))
        refine l_iconst rfl ?_
        refine l_istore rfl rfl rfl ?_
        have w124 : 0 ≤ Xi S 904 106 ∧ Xi S 904 106 ≤ 9 := hH.c _ _
        have w125 : 0 ≤ Xi S 904 108 ∧ Xi S 904 108 ≤ 2600 := hH.c _ _
        have w126 : 0 ≤ Xi S 904 69 ∧ Xi S 904 69 ≤ 2600 := hH.c _ _
        have w127 : 0 ≤ Xi S 904 71 ∧ Xi S 904 71 ≤ 2600 := hH.c _ _
        have w128 : 0 ≤ Xi S 904 72 ∧ Xi S 904 72 ≤ 2600 := hH.c _ _
        have w129 : -2 ≤ Xi S 904 78 ∧ Xi S 904 78 ≤ 5010 := hH.c _ _
        exact Rl_weak (C85 _ S hH hF (v1) (v2) (v3) (0) (by omega) (by omega) (by omega) (by omega) (by first | exact q85 | exact q82) (by first | exact m85 | exact m82) (by omega) (by omega) (by omega) (by omega) (by omega) (by omega) (by omega) (by first | assumption | exact hN) (by first | exact (fun q => by have t := hkl v1; omega) | omega) (by first | exact fun q i a b => absurd b (by omega) | exact fun q i a b => (Int.lt_or_le i v4).elim (fun h => E85 (by omega) i a h) (fun h => by rw [show i = v4 by omega]; exact s117 (by omega))) rfl) (And.intro rfl (And.intro rfl (And.intro rfl (And.intro rfl (And.intro rfl (True.intro))))))
      refine l_aload_n rfl rfl ?_
      refine l_gfi rfl rfl rfl rfl rfl ?_
      refine l_bipush rfl rfl ?_
      refine l_icmp_ne rfl rfl (by unfold rg; omega) (by unfold rg; omega) (fun w130 => ?_) (fun w131 => ?_)
      · refine l_iload_n rfl rfl ?_
        refine l_if_eq rfl rfl (by unfold rg; omega) (fun w132 => ?_) (fun w133 => ?_)
        · refine l_bipush rfl rfl ?_
          refine l_istore_n rfl rfl rfl ?_
          have w134 : 0 ≤ Xi S 904 106 ∧ Xi S 904 106 ≤ 9 := hH.c _ _
          have w135 : 0 ≤ Xi S 904 108 ∧ Xi S 904 108 ≤ 2600 := hH.c _ _
          have w136 : 0 ≤ Xi S 904 69 ∧ Xi S 904 69 ≤ 2600 := hH.c _ _
          have w137 : 0 ≤ Xi S 904 71 ∧ Xi S 904 71 ≤ 2600 := hH.c _ _
          have w138 : 0 ≤ Xi S 904 72 ∧ Xi S 904 72 ≤ 2600 := hH.c _ _
          have w139 : -2 ≤ Xi S 904 78 ∧ Xi S 904 78 ≤ 5010 := hH.c _ _
          exact Rl_weak (C82 (v1) (v2) (16) (by omega) (by omega) (by omega) (q56) (k56) (by unfold kkm; first | rw [if_pos (by omega)] | rw [if_neg (by omega), if_pos (by omega)] | rw [if_neg (by omega), if_neg (by omega)])) (And.intro rfl (And.intro rfl (And.intro rfl (And.intro rfl (True.intro)))))
        · refine l_bipush rfl rfl ?_
          refine l_goto rfl rfl ?_
          refine l_istore_n rfl rfl rfl ?_
          have w140 : 0 ≤ Xi S 904 106 ∧ Xi S 904 106 ≤ 9 := hH.c _ _
          have w141 : 0 ≤ Xi S 904 108 ∧ Xi S 904 108 ≤ 2600 := hH.c _ _
          have w142 : 0 ≤ Xi S 904 69 ∧ Xi S 904 69 ≤ 2600 := hH.c _ _
          have w143 : 0 ≤ Xi S 904 71 ∧ Xi S 904 71 ≤ 2600 := hH.c _ _
          have w144 : 0 ≤ Xi S 904 72 ∧ Xi S 904 72 ≤ 2600 := hH.c _ _
          have w145 : -2 ≤ Xi S 904 78 ∧ Xi S 904 78 ≤ 5010 := hH.c _ _
          exact Rl_weak (C82 (v1) (v2) (8) (by omega) (by omega) (by omega) (q56) (k56) (by unfold kkm; first | rw [if_pos (by omega)] | rw [if_neg (by omega), if_pos (by omega)] | rw [if_neg (by omega), if_neg (by omega)])) (And.intro rfl (And.intro rfl (And.intro rfl (And.intro rfl (True.intro)))))
      · refine l_bipush rfl rfl ?_
        refine l_goto rfl rfl ?_
        refine l_istore_n rfl rfl rfl ?_
        have w146 : 0 ≤ Xi S 904 106 ∧ Xi S 904 106 ≤ 9 := hH.c _ _
        have w147 : 0 ≤ Xi S 904 108 ∧ Xi S 904 108 ≤ 2600 := hH.c _ _
        have w148 : 0 ≤ Xi S 904 69 ∧ Xi S 904 69 ≤ 2600 := hH.c _ _
        have w149 : 0 ≤ Xi S 904 71 ∧ Xi S 904 71 ≤ 2600 := hH.c _ _
        have w150 : 0 ≤ Xi S 904 72 ∧ Xi S 904 72 ≤ 2600 := hH.c _ _
        have w151 : -2 ≤ Xi S 904 78 ∧ Xi S 904 78 ≤ 5010 := hH.c _ _
        exact Rl_weak (C82 (v1) (v2) (12) (by omega) (by omega) (by omega) (q56) (k56) (by unfold kkm; first | rw [if_pos (by omega)] | rw [if_neg (by omega), if_pos (by omega)] | rw [if_neg (by omega), if_neg (by omega)])) (And.intro rfl (And.intro rfl (And.intro rfl (And.intro rfl (True.intro)))))
    refine l_aload_n rfl rfl ?_
    refine l_gfi rfl rfl rfl rfl rfl ?_
    refine l_bipush rfl rfl ?_
    refine l_icmp_ne rfl rfl (by unfold rg; omega) (by unfold rg; omega) (fun w152 => ?_) (fun w153 => ?_)
    · refine l_iload_n rfl rfl ?_
      refine l_if_eq rfl rfl (by unfold rg; omega) (fun w154 => ?_) (fun w155 => ?_)
      · refine l_aload_n rfl rfl ?_
        refine l_gfi rfl rfl rfl rfl rfl ?_
        refine l_istore_n rfl rfl rfl ?_
        have w156 : 0 ≤ Xi S 904 106 ∧ Xi S 904 106 ≤ 9 := hH.c _ _
        have w157 : 0 ≤ Xi S 904 108 ∧ Xi S 904 108 ≤ 2600 := hH.c _ _
        have w158 : 0 ≤ Xi S 904 69 ∧ Xi S 904 69 ≤ 2600 := hH.c _ _
        have w159 : 0 ≤ Xi S 904 71 ∧ Xi S 904 71 ≤ 2600 := hH.c _ _
        have w160 : 0 ≤ Xi S 904 72 ∧ Xi S 904 72 ≤ 2600 := hH.c _ _
        have w161 : -2 ≤ Xi S 904 78 ∧ Xi S 904 78 ≤ 5010 := hH.c _ _
        exact Rl_weak (C56 (v1) ((Xi S 904 16)) (by omega) (by omega) (q24) (by unfold kk0; first | rw [if_pos (by omega)] | rw [if_neg (by omega), if_pos (by omega)] | rw [if_neg (by omega), if_neg (by omega)])) (And.intro rfl (And.intro rfl (And.intro rfl (True.intro))))
      · refine l_aload_n rfl rfl ?_
        refine l_gfi rfl rfl rfl rfl rfl ?_
        refine l_goto rfl rfl ?_
        refine l_istore_n rfl rfl rfl ?_
        have w162 : 0 ≤ Xi S 904 106 ∧ Xi S 904 106 ≤ 9 := hH.c _ _
        have w163 : 0 ≤ Xi S 904 108 ∧ Xi S 904 108 ≤ 2600 := hH.c _ _
        have w164 : 0 ≤ Xi S 904 69 ∧ Xi S 904 69 ≤ 2600 := hH.c _ _
        have w165 : 0 ≤ Xi S 904 71 ∧ Xi S 904 71 ≤ 2600 := hH.c _ _
        have w166 : 0 ≤ Xi S 904 72 ∧ Xi S 904 72 ≤ 2600 := hH.c _ _
        have w167 : -2 ≤ Xi S 904 78 ∧ Xi S 904 78 ≤ 5010 := hH.c _ _
        exact Rl_weak (C56 (v1) ((Xi S 904 18)) (by omega) (by omega) (q24) (by unfold kk0; first | rw [if_pos (by omega)] | rw [if_neg (by omega), if_pos (by omega)] | rw [if_neg (by omega), if_neg (by omega)])) (And.intro rfl (And.intro rfl (And.intro rfl (True.intro))))
    · refine l_aload_n rfl rfl ?_
      refine l_gfi rfl rfl rfl rfl rfl ?_
      refine l_goto rfl rfl ?_
      refine l_istore_n rfl rfl rfl ?_
      have w168 : 0 ≤ Xi S 904 106 ∧ Xi S 904 106 ≤ 9 := hH.c _ _
      have w169 : 0 ≤ Xi S 904 108 ∧ Xi S 904 108 ≤ 2600 := hH.c _ _
      have w170 : 0 ≤ Xi S 904 69 ∧ Xi S 904 69 ≤ 2600 := hH.c _ _
      have w171 : 0 ≤ Xi S 904 71 ∧ Xi S 904 71 ≤ 2600 := hH.c _ _
      have w172 : 0 ≤ Xi S 904 72 ∧ Xi S 904 72 ≤ 2600 := hH.c _ _
      have w173 : -2 ≤ Xi S 904 78 ∧ Xi S 904 78 ≤ 5010 := hH.c _ _
      exact Rl_weak (C56 (v1) ((Xi S 904 49)) (by omega) (by omega) (q24) (by unfold kk0; first | rw [if_pos (by omega)] | rw [if_neg (by omega), if_pos (by omega)] | rw [if_neg (by omega), if_neg (by omega)])) (And.intro rfl (And.intro rfl (And.intro rfl (True.intro))))
  refine l_aload_n rfl rfl ?_
  refine l_gfi rfl rfl rfl rfl rfl ?_
  refine l_bipush rfl rfl ?_
  refine l_icmp_ne rfl rfl (by unfold rg; omega) (by unfold rg; omega) (fun w174 => ?_) (fun w175 => ?_)
  · refine l_iconst rfl ?_
    refine l_istore_n rfl rfl rfl ?_
    have w176 : 0 ≤ Xi S 904 106 ∧ Xi S 904 106 ≤ 9 := hH.c _ _
    have w177 : 0 ≤ Xi S 904 108 ∧ Xi S 904 108 ≤ 2600 := hH.c _ _
    have w178 : 0 ≤ Xi S 904 69 ∧ Xi S 904 69 ≤ 2600 := hH.c _ _
    have w179 : 0 ≤ Xi S 904 71 ∧ Xi S 904 71 ≤ 2600 := hH.c _ _
    have w180 : 0 ≤ Xi S 904 72 ∧ Xi S 904 72 ≤ 2600 := hH.c _ _
    have w181 : -2 ≤ Xi S 904 78 ∧ Xi S 904 78 ≤ 5010 := hH.c _ _
    exact Rl_weak (C24 (0) (by omega) (by unfold VKX; omega)) (And.intro rfl (And.intro rfl (True.intro)))
  · refine l_aload_n rfl rfl ?_
    refine l_gfi rfl rfl rfl rfl rfl ?_
    refine l_bipush rfl rfl ?_
    refine l_icmp_ne rfl rfl (by unfold rg; omega) (by unfold rg; omega) (fun w182 => ?_) (fun w183 => ?_)
    · refine l_iconst rfl ?_
      refine l_istore_n rfl rfl rfl ?_
      have w184 : 0 ≤ Xi S 904 106 ∧ Xi S 904 106 ≤ 9 := hH.c _ _
      have w185 : 0 ≤ Xi S 904 108 ∧ Xi S 904 108 ≤ 2600 := hH.c _ _
      have w186 : 0 ≤ Xi S 904 69 ∧ Xi S 904 69 ≤ 2600 := hH.c _ _
      have w187 : 0 ≤ Xi S 904 71 ∧ Xi S 904 71 ≤ 2600 := hH.c _ _
      have w188 : 0 ≤ Xi S 904 72 ∧ Xi S 904 72 ≤ 2600 := hH.c _ _
      have w189 : -2 ≤ Xi S 904 78 ∧ Xi S 904 78 ≤ 5010 := hH.c _ _
      exact Rl_weak (C24 (0) (by omega) (by unfold VKX; omega)) (And.intro rfl (And.intro rfl (True.intro)))
    · refine l_iconst rfl ?_
      refine l_goto rfl rfl ?_
      refine l_istore_n rfl rfl rfl ?_
      have w190 : 0 ≤ Xi S 904 106 ∧ Xi S 904 106 ≤ 9 := hH.c _ _
      have w191 : 0 ≤ Xi S 904 108 ∧ Xi S 904 108 ≤ 2600 := hH.c _ _
      have w192 : 0 ≤ Xi S 904 69 ∧ Xi S 904 69 ≤ 2600 := hH.c _ _
      have w193 : 0 ≤ Xi S 904 71 ∧ Xi S 904 71 ≤ 2600 := hH.c _ _
      have w194 : 0 ≤ Xi S 904 72 ∧ Xi S 904 72 ≤ 2600 := hH.c _ _
      have w195 : -2 ≤ Xi S 904 78 ∧ Xi S 904 78 ≤ 5010 := hH.c _ _
      exact Rl_weak (C24 (1) (by omega) (by unfold VKX; omega)) (And.intro rfl (And.intro rfl (True.intro)))

