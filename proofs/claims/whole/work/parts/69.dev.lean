/-! SAFETY of methods: printed by wip/safe (vc.py, decl.py) -/
def kk0 (S : sS) (v : Int) : Int := if Xi S 904 70 = 11 then Xi S 904 49 else if v = 1 then Xi S 904 18 else Xi S 904 16
def kkm (S : sS) (v : Int) : Int := if Xi S 904 70 = 11 then 12 else if v = 1 then 8 else 16
def VKX (S : sS) (v : Int) : Prop := (v = 0 ∨ v = 1) ∧ (v = 1 → Xi S 904 70 = 10 ∧ Xi S 904 78 = -2) ∧ (v = 0 → Xi S 904 70 ≠ 10 ∨ Xi S 904 78 ≠ -2)
theorem kk_le {S : sS} {v : Int} (h1 : 0 ≤ Xi S 904 16 ∧ Xi S 904 16 ≤ 16) (h2 : 0 ≤ Xi S 904 18 ∧ Xi S 904 18 ≤ 8) (h3 : 0 ≤ Xi S 904 49 ∧ Xi S 904 49 ≤ 12) : kk0 S v ≤ kkm S v ∧ 0 ≤ kk0 S v ∧ kkm S v ≤ 16 := by
  unfold kk0 kkm
  split
  · omega
  · split <;> omega
theorem kk_end {S : sS} {v a b c : Int} (hx : VKX S v) (h1 : a = kk0 S v + c) (h3 : b = kkm S v) (h2 : a ≤ b) (h4 : c = Xi S 904 72) (hs : Xi S 904 70 = 10 ∨ Xi S 904 70 = 11) : (Xi S 904 70 = 11 → Xi S 904 49 + Xi S 904 72 ≤ 12) ∧ (Xi S 904 70 = 10 → Xi S 904 78 = -2 → Xi S 904 18 + Xi S 904 72 ≤ 8) ∧ (Xi S 904 70 = 10 → Xi S 904 78 ≠ -2 → Xi S 904 16 + Xi S 904 72 ≤ 16) := by
  unfold VKX at hx
  unfold kk0 at h1
  unfold kkm at h3
  split at h1
  · rw [if_pos (by assumption)] at h3
    refine ⟨fun _ => by omega, fun e => by omega, fun e => by omega⟩
  · rw [if_neg (by assumption)] at h3
    split at h1
    · rw [if_pos (by assumption)] at h3
      refine ⟨fun e => by omega, fun _ _ => by omega, fun _ _ => by omega⟩
    · rw [if_neg (by assumption)] at h3
      refine ⟨fun e => by omega, fun _ _ => by omega, fun _ _ => by omega⟩
def md_mo_askKinds : List rec := [(904, 905, 104, 105), (904, 905, 105, 106), (904, 905, 106, 107), (904, 905, 108, 109), (966, 967, 0, 100000)]
abbrev Q_mo_askKinds (S : sS) (n : Nat) : pst := fun r S1 => HI S1 ∧ FR md_mo_askKinds S S1 ∧ (r = none ∧ (Xi S1 904 106 = 0 → (Xi S 904 70 = 11 → Xi S 904 49 + Xi S 904 72 ≤ 12) ∧ (Xi S 904 70 = 10 → Xi S 904 78 = -2 → Xi S 904 18 + Xi S 904 72 ≤ 8) ∧ (Xi S 904 70 = 10 → Xi S 904 78 ≠ -2 → Xi S 904 16 + Xi S 904 72 ≤ 16)) ∧ (Xi S1 904 106 = 0 → 0 ≤ Xi S 904 78 → rnR S (Xi S 904 78) 0 ≠ -1) ∧ (Xi S1 904 106 = 0 → ∀ i : Int, 0 ≤ i → i < Xi S 904 72 → Xi S 951 (Xi S 904 71 + i).toNat ≤ 3))
set_option maxRecDepth 100000 in
set_option maxHeartbeats 4000000 in
theorem t_mo_askKinds {S : sS} (hH : HI S) (n : Nat) (hT : TK S n) (hv : RNV S n) (hM : LXM S) (hN : NWV S) (hl : Xi S 904 71 + Xi S 904 72 ≤ Xi S 904 69) (h9 : Xi S 904 108 = 0) (hw : Xi S 904 78 < Xi S 904 69) (hs : Xi S 904 70 = 10 ∨ Xi S 904 70 = 11) (hs2 : Xi S 904 70 = 11 → -1 ≤ Xi S 904 78) (d : Nat) : Mt lay0 (d + 6) m_mo_askKinds [.ref 904] S (Q_mo_askKinds S n) := by
  refine Mt_R rfl rfl ?_
  have hF : FR md_mo_askKinds S S := FR.rf
  have w1 : 0 ≤ Xi S 904 106 ∧ Xi S 904 106 ≤ 9 := hH.c _ _
  have w2 : 0 ≤ Xi S 904 108 ∧ Xi S 904 108 ≤ 2600 := hH.c _ _
  have w3 : 0 ≤ Xi S 904 16 ∧ Xi S 904 16 ≤ 16 := hH.c _ _
  have w4 : 0 ≤ Xi S 904 18 ∧ Xi S 904 18 ≤ 8 := hH.c _ _
  have w5 : 0 ≤ Xi S 904 49 ∧ Xi S 904 49 ≤ 12 := hH.c _ _
  have w6 : 0 ≤ Xi S 904 69 ∧ Xi S 904 69 ≤ 2600 := hH.c _ _
  have w7 : 0 ≤ Xi S 904 70 ∧ Xi S 904 70 ≤ 20 := hH.c _ _
  have w8 : 0 ≤ Xi S 904 71 ∧ Xi S 904 71 ≤ 2600 := hH.c _ _
  have w9 : 0 ≤ Xi S 904 72 ∧ Xi S 904 72 ≤ 2600 := hH.c _ _
  have w10 : -2 ≤ Xi S 904 78 ∧ Xi S 904 78 ≤ 5010 := hH.c _ _
  have hn5 := hT.1
  have hc69 : 0 ≤ Xi S 904 69 ∧ Xi S 904 69 ≤ 2600 := hH.c _ _
  have hc71 : 0 ≤ Xi S 904 71 ∧ Xi S 904 71 ≤ 2600 := hH.c _ _
  have hc72 : 0 ≤ Xi S 904 72 ∧ Xi S 904 72 ≤ 2600 := hH.c _ _
  have hrf : ∀ r : Int, 0 ≤ r → r < Xi S 904 69 → Xi S 950 r.toNat ≤ n := fun r a b => by have := hv r.toNat (by omega); omega
  have hc16 : 0 ≤ Xi S 904 16 ∧ Xi S 904 16 ≤ 16 := hH.c _ _
  have hc18 : 0 ≤ Xi S 904 18 ∧ Xi S 904 18 ≤ 8 := hH.c _ _
  have hc49 : 0 ≤ Xi S 904 49 ∧ Xi S 904 49 ≤ 12 := hH.c _ _
  have hs0 := hs
  have hs20 := hs2
  have hkl : ∀ v, kk0 S v ≤ kkm S v ∧ 0 ≤ kk0 S v ∧ kkm S v ≤ 16 := fun v => kk_le (by omega) (by omega) (by omega)
  have C24 : ∀  (v1 : Int), (0 ≤ v1 ∧ v1 ≤ 1) → (VKX S v1) → Rl lay0 (d + 5) m_mo_askKinds 24 [(0, .ref 904), (1, iv v1)] [] S (Q_mo_askKinds S n) := by
    intro v1 w11 q24
    have C56 : ∀  (v1 : Int) (v2 : Int), (0 ≤ v1 ∧ v1 ≤ 1) → (0 ≤ v2 ∧ v2 ≤ 16) → (VKX S v1) → (v2 = kk0 S v1) → Rl lay0 (d + 5) m_mo_askKinds 56 [(0, .ref 904), (1, iv v1), (2, iv v2)] [] S (Q_mo_askKinds S n) := by
      intro v1 v2 w12 w13 q56 k56
      have C82 : ∀  (v1 : Int) (v2 : Int) (v3 : Int), (0 ≤ v1 ∧ v1 ≤ 1) → (0 ≤ v2 ∧ v2 ≤ 16) → (8 ≤ v3 ∧ v3 ≤ 16) → (VKX S v1) → (v2 = kk0 S v1) → (v3 = kkm S v1) → Rl lay0 (d + 5) m_mo_askKinds 82 [(0, .ref 904), (1, iv v1), (2, iv v2), (3, iv v3)] [] S (Q_mo_askKinds S n) := by
        intro v1 v2 v3 w14 w15 w16 q82 k82 m82
        have C85 : ∀ (n85 : Nat) (T1 : sS) (_ : HI T1) (_ : FR md_mo_askKinds S T1) (v1 : Int) (v2 : Int) (v3 : Int) (v4 : Int), (0 ≤ v1 ∧ v1 ≤ 1) → (0 ≤ v2 ∧ v2 ≤ 2700) → (8 ≤ v3 ∧ v3 ≤ 16) → (0 ≤ v4 ∧ v4 ≤ 2600) → (VKX S v1) → (v3 = kkm S v1) → (Xi T1 904 69 = Xi S 904 69) → (Xi T1 904 71 = Xi S 904 71) → (Xi T1 904 72 = Xi S 904 72) → (Xi T1 904 78 = Xi S 904 78) → (Xi T1 904 108 ≤ v4) → (v4 ≤ Xi S 904 72) → (v2 ≤ 16 + v4) → (NWV T1) → (Xi T1 904 106 = 0 → v2 = kk0 S v1 + v4 ∧ v2 ≤ v3) → (Xi T1 904 106 = 0 → ∀ i : Int, 0 ≤ i → i < v4 → Xi S 951 (Xi S 904 71 + i).toNat ≤ 3) → n85 = (2601 - v4).toNat → Rl lay0 (d + 5) m_mo_askKinds 85 [(0, .ref 904), (1, iv v1), (2, iv v2), (3, iv v3), (4, iv v4)] [] T1 (Q_mo_askKinds S n) := by
          intro n85
          induction n85 using Nat.strongRecOn with
          | ind n85 ih85 =>
            intro T1 hHT1 hFT1 v1 v2 v3 v4 w17 w18 w19 w20 q85 m85 w21 w22 w23 w24 w25 w26 w27 N85 K85 E85 hm85
            have w28 : Xi T1 904 16 = Xi S 904 16 := hFT1.x _ _ rfl
            have w29 : Xi T1 904 18 = Xi S 904 18 := hFT1.x _ _ rfl
            have w30 : Xi T1 904 49 = Xi S 904 49 := hFT1.x _ _ rfl
            have w31 : Xi T1 904 69 = Xi S 904 69 := hFT1.x _ _ rfl
            have w32 : Xi T1 904 70 = Xi S 904 70 := hFT1.x _ _ rfl
            have w33 : Xi T1 904 71 = Xi S 904 71 := hFT1.x _ _ rfl
            have w34 : Xi T1 904 72 = Xi S 904 72 := hFT1.x _ _ rfl
            have w35 : Xi T1 904 78 = Xi S 904 78 := hFT1.x _ _ rfl
            have w36 : 0 ≤ Xi T1 904 106 ∧ Xi T1 904 106 ≤ 9 := hHT1.c _ _
            have w37 : 0 ≤ Xi T1 904 108 ∧ Xi T1 904 108 ≤ 2600 := hHT1.c _ _
            have w38 : 0 ≤ Xi T1 904 69 ∧ Xi T1 904 69 ≤ 2600 := hHT1.c _ _
            have w39 : 0 ≤ Xi T1 904 71 ∧ Xi T1 904 71 ≤ 2600 := hHT1.c _ _
            have w40 : 0 ≤ Xi T1 904 72 ∧ Xi T1 904 72 ≤ 2600 := hHT1.c _ _
            have w41 : -2 ≤ Xi T1 904 78 ∧ Xi T1 904 78 ≤ 5010 := hHT1.c _ _
            refine l_iload rfl rfl ?_
            refine l_aload_n rfl rfl ?_
            refine l_gfi rfl rfl rfl rfl rfl ?_
            refine l_icmp_ge rfl rfl (by unfold rg; omega) (by unfold rg; omega) (fun w42 => ?_) (fun w43 => ?_)
            · refine l_aload_n rfl rfl ?_
              refine l_gfi rfl rfl rfl rfl rfl ?_
              refine l_iconst rfl ?_
              refine l_icmp_eq rfl rfl (by unfold rg; omega) (by unfold rg; omega) (fun w44 => ?_) (fun w45 => ?_)
              · refine l_return rfl rfl ?_
                have w46 : 0 ≤ Xi T1 904 106 ∧ Xi T1 904 106 ≤ 9 := hHT1.c _ _
                have w47 : 0 ≤ Xi T1 904 108 ∧ Xi T1 904 108 ≤ 2600 := hHT1.c _ _
                have w48 : 0 ≤ Xi T1 904 69 ∧ Xi T1 904 69 ≤ 2600 := hHT1.c _ _
                have w49 : 0 ≤ Xi T1 904 71 ∧ Xi T1 904 71 ≤ 2600 := hHT1.c _ _
                have w50 : 0 ≤ Xi T1 904 72 ∧ Xi T1 904 72 ≤ 2600 := hHT1.c _ _
                have w51 : -2 ≤ Xi T1 904 78 ∧ Xi T1 904 78 ≤ 5010 := hHT1.c _ _
                exact ⟨hHT1, hFT1, rfl, (fun q => kk_end q85 (K85 (by omega)).1 m85 (K85 (by omega)).2 (by omega) hs), (fun q y => by first | (rw [← r156]; omega) | (exfalso; have t := q85; unfold VKX at t; omega)), (fun q i a b => E85 (by omega) i a (by omega))⟩
              · refine l_iload_n rfl rfl ?_
                refine l_if_ne rfl rfl (by unfold rg; omega) (fun w52 => ?_) (fun w53 => ?_)
                · refine l_return rfl rfl ?_
                  have w54 : 0 ≤ Xi T1 904 106 ∧ Xi T1 904 106 ≤ 9 := hHT1.c _ _
                  have w55 : 0 ≤ Xi T1 904 108 ∧ Xi T1 904 108 ≤ 2600 := hHT1.c _ _
                  have w56 : 0 ≤ Xi T1 904 69 ∧ Xi T1 904 69 ≤ 2600 := hHT1.c _ _
                  have w57 : 0 ≤ Xi T1 904 71 ∧ Xi T1 904 71 ≤ 2600 := hHT1.c _ _
                  have w58 : 0 ≤ Xi T1 904 72 ∧ Xi T1 904 72 ≤ 2600 := hHT1.c _ _
                  have w59 : -2 ≤ Xi T1 904 78 ∧ Xi T1 904 78 ≤ 5010 := hHT1.c _ _
                  exact ⟨hHT1, hFT1, rfl, (fun q => kk_end q85 (K85 (by omega)).1 m85 (K85 (by omega)).2 (by omega) hs), (fun q y => by first | (rw [← r156]; omega) | (exfalso; have t := q85; unfold VKX at t; omega)), (fun q i a b => E85 (by omega) i a (by omega))⟩
                · refine l_aload_n rfl rfl ?_
                  refine l_aload_n rfl rfl ?_
                  refine l_gfi rfl rfl rfl rfl rfl ?_
                  have y153 : 0 ≤ (Xi T1 904 78) := by have t := q85; unfold VKX at t; omega
                  have w60 : 0 ≤ Xi T1 904 106 ∧ Xi T1 904 106 ≤ 9 := hHT1.c _ _
                  have w61 : 0 ≤ Xi T1 904 108 ∧ Xi T1 904 108 ≤ 2600 := hHT1.c _ _
                  have w62 : 0 ≤ Xi T1 904 16 ∧ Xi T1 904 16 ≤ 16 := hHT1.c _ _
                  have w63 : 0 ≤ Xi T1 904 69 ∧ Xi T1 904 69 ≤ 2600 := hHT1.c _ _
                  have w64 : 0 ≤ Xi T1 904 71 ∧ Xi T1 904 71 ≤ 2600 := hHT1.c _ _
                  have w65 : 0 ≤ Xi T1 904 72 ∧ Xi T1 904 72 ≤ 2600 := hHT1.c _ _
                  have w66 : -2 ≤ Xi T1 904 78 ∧ Xi T1 904 78 ≤ 5010 := hHT1.c _ _
                  refine l_callV rfl rfl rfl (t_mo_kindOfRun__2 hHT1 n (Xi T1 904 78) ⟨by omega, by omega⟩ (by first | assumption | exact (TK_FR hFT1 rfl (by assumption : TK S _))) (by first | assumption | exact (RNV_FR hFT1 rfl (by assumption : RNV S _))) (by first | assumption | omega) (by first | assumption | exact (LXM_FR hFT1 rfl (by assumption : LXM S))) _) ?_
                  rintro _ T2 ⟨hHT2, w72, z71, rfl, w71, w67, w68, w69, w70⟩
                  have hFT2 : FR md_mo_askKinds S T2 := FR.tr hFT1 w72 rfl
                  show Rl _ _ _ _ _ [iv z71] _ _
                  have r156 : z71 = rnR S (Xi S 904 78) 0 := by have t := (by assumption : z71 = rnR T1 _ _).trans (rnR_FR hFT1 rfl rfl); rw [show Xi T1 904 78 = Xi S 904 78 by omega] at t; exact t
                  refine l_pop rfl rfl ?_
                  refine l_return rfl rfl ?_
                  have w73 : 0 ≤ Xi T2 904 106 ∧ Xi T2 904 106 ≤ 9 := hHT2.c _ _
                  have w74 : Xi T2 904 108 = Xi T1 904 108 := (show Xi T2 904 108 = Xi T1 904 108 from w72.x _ _ rfl)
                  have w75 : 0 ≤ Xi T1 904 108 ∧ Xi T1 904 108 ≤ 2600 := hHT1.c _ _
                  have w76 : Xi T2 904 69 = Xi T1 904 69 := (show Xi T2 904 69 = Xi T1 904 69 from w72.x _ _ rfl)
                  have w77 : 0 ≤ Xi T1 904 69 ∧ Xi T1 904 69 ≤ 2600 := hHT1.c _ _
                  have w78 : Xi T2 904 71 = Xi T1 904 71 := (show Xi T2 904 71 = Xi T1 904 71 from w72.x _ _ rfl)
                  have w79 : 0 ≤ Xi T1 904 71 ∧ Xi T1 904 71 ≤ 2600 := hHT1.c _ _
                  have w80 : Xi T2 904 72 = Xi T1 904 72 := (show Xi T2 904 72 = Xi T1 904 72 from w72.x _ _ rfl)
                  have w81 : 0 ≤ Xi T1 904 72 ∧ Xi T1 904 72 ≤ 2600 := hHT1.c _ _
                  have w82 : Xi T2 904 78 = Xi T1 904 78 := (show Xi T2 904 78 = Xi T1 904 78 from w72.x _ _ rfl)
                  have w83 : -2 ≤ Xi T1 904 78 ∧ Xi T1 904 78 ≤ 5010 := hHT1.c _ _
                  exact ⟨hHT2, hFT2, rfl, (fun q => kk_end q85 (K85 (by omega)).1 m85 (K85 (by omega)).2 (by omega) hs), (fun q y => by first | (rw [← r156]; omega) | (exfalso; have t := q85; unfold VKX at t; omega)), (fun q i a b => E85 (by omega) i a (by omega))⟩
            · refine l_aload_n rfl rfl ?_
              refine l_aload_n rfl rfl ?_
              refine l_gfi rfl rfl rfl rfl rfl ?_
              refine l_iload rfl rfl ?_
              refine l_iadd rfl ?_
              have w84 : 0 ≤ Xi T1 904 106 ∧ Xi T1 904 106 ≤ 9 := hHT1.c _ _
              have w85 : 0 ≤ Xi T1 904 108 ∧ Xi T1 904 108 ≤ 2600 := hHT1.c _ _
              have w86 : 0 ≤ Xi T1 904 69 ∧ Xi T1 904 69 ≤ 2600 := hHT1.c _ _
              have w87 : 0 ≤ Xi T1 904 71 ∧ Xi T1 904 71 ≤ 2600 := hHT1.c _ _
              have w88 : 0 ≤ Xi T1 904 72 ∧ Xi T1 904 72 ≤ 2600 := hHT1.c _ _
              have w89 : -2 ≤ Xi T1 904 78 ∧ Xi T1 904 78 ≤ 5010 := hHT1.c _ _
              refine l_callV rfl rfl rfl (t_mo_isNew hHT1 n ((Xi T1 904 71) + v4) ⟨by omega, by omega⟩ (by first | assumption | exact (TK_FR hFT1 rfl (by assumption : TK S _))) (by first | assumption | exact (RNV_FR hFT1 rfl (by assumption : RNV S _))) (by first | assumption | omega) (by first | assumption | exact (by assumption : NWV T1)) _) ?_
              rintro _ _ ⟨rfl, z90, rfl, w90, f102⟩
              show Rl _ _ _ _ _ [iv z90] _ _
              refine l_istore rfl rfl rfl ?_
              refine l_aload_n rfl rfl ?_
              refine l_aload_n rfl rfl ?_
              refine l_gfi rfl rfl rfl rfl rfl ?_
              refine l_iload rfl rfl ?_
              refine l_iadd rfl ?_
              refine l_iload_n rfl rfl ?_
              refine l_iload_n rfl rfl ?_
              have w91 : 0 ≤ Xi T1 904 106 ∧ Xi T1 904 106 ≤ 9 := hHT1.c _ _
              have w92 : 0 ≤ Xi T1 904 108 ∧ Xi T1 904 108 ≤ 2600 := hHT1.c _ _
              have w93 : 0 ≤ Xi T1 904 69 ∧ Xi T1 904 69 ≤ 2600 := hHT1.c _ _
              have w94 : 0 ≤ Xi T1 904 71 ∧ Xi T1 904 71 ≤ 2600 := hHT1.c _ _
              have w95 : 0 ≤ Xi T1 904 72 ∧ Xi T1 904 72 ≤ 2600 := hHT1.c _ _
              have w96 : -2 ≤ Xi T1 904 78 ∧ Xi T1 904 78 ≤ 5010 := hHT1.c _ _
              refine l_callV rfl rfl rfl (t_mo_mustBeNew hHT1 n ((Xi T1 904 71) + v4) v2 v3 ⟨by omega, by omega⟩ ⟨by omega, by omega⟩ ⟨by omega, by omega⟩ (by first | assumption | exact (TK_FR hFT1 rfl (by assumption : TK S _))) (by first | assumption | exact (RNV_FR hFT1 rfl (by assumption : RNV S _))) (by first | assumption | omega) (by first | assumption | exact (by assumption : NWV T1)) (by first | assumption | omega) _) ?_
              rintro _ T3 ⟨hHT3, w101, rfl, w97, g117, w98, w99⟩
              have hFT3 : FR md_mo_askKinds S T3 := FR.tr hFT1 w101 rfl
              show Rl _ _ _ _ _ [] _ _
              have z117 : Xi T3 904 106 = 0 → z90 = 1 := fun q => (Int.lt_or_le z90 1).elim (fun e => absurd (g117 q).2 (f102.2 (by omega))) (fun e => by omega)
              have s117 : Xi T3 904 106 = 0 → Xi S 951 (Xi S 904 71 + v4).toNat ≤ 3 := fun q => by have t := (g117 q).2.1; rw [(hFT1.cx 951 rfl _).1, show Xi T1 904 71 = Xi S 904 71 by omega] at t; exact t
              have m117 : Xi T3 904 106 = 0 → v2 < v3 := fun q => (g117 q).1
              clear g117
              refine l_iload_n rfl rfl ?_
              refine l_iload rfl rfl ?_
              refine l_if_eq rfl rfl (by unfold rg; omega) (fun w102 => ?_) (fun w103 => ?_)
              · refine l_iconst rfl ?_
                refine l_iadd rfl ?_
                refine l_istore_n rfl rfl rfl ?_
                refine l_iinc rfl rfl rfl rfl ?_
                refine l_goto rfl rfl ?_
                have w104 : 0 ≤ Xi T3 904 106 ∧ Xi T3 904 106 ≤ 9 := hHT3.c _ _
                have w105 : 0 ≤ Xi T3 904 108 ∧ Xi T3 904 108 ≤ 2600 := hHT3.c _ _
                have w106 : Xi T3 904 69 = Xi T1 904 69 := (show Xi T3 904 69 = Xi T1 904 69 from w101.x _ _ rfl)
                have w107 : 0 ≤ Xi T1 904 69 ∧ Xi T1 904 69 ≤ 2600 := hHT1.c _ _
                have w108 : Xi T3 904 71 = Xi T1 904 71 := (show Xi T3 904 71 = Xi T1 904 71 from w101.x _ _ rfl)
                have w109 : 0 ≤ Xi T1 904 71 ∧ Xi T1 904 71 ≤ 2600 := hHT1.c _ _
                have w110 : Xi T3 904 72 = Xi T1 904 72 := (show Xi T3 904 72 = Xi T1 904 72 from w101.x _ _ rfl)
                have w111 : 0 ≤ Xi T1 904 72 ∧ Xi T1 904 72 ≤ 2600 := hHT1.c _ _
                have w112 : Xi T3 904 78 = Xi T1 904 78 := (show Xi T3 904 78 = Xi T1 904 78 from w101.x _ _ rfl)
                have w113 : -2 ≤ Xi T1 904 78 ∧ Xi T1 904 78 ≤ 5010 := hHT1.c _ _
                exact Rl_weak (ih85 _ (by omega) T3 hHT3 hFT3 (v1) ((v2 + 0)) (v3) ((v4 + 1)) (by omega) (by omega) (by omega) (by omega) (by first | exact q85 | exact q82) (by first | exact m85 | exact m82) (by omega) (by omega) (by omega) (by omega) (by omega) (by omega) (by omega) (by first | assumption | exact hN) (by first | exact (fun q => by have t := hkl v1; omega) | omega) (by first | exact fun q i a b => absurd b (by omega) | exact fun q i a b => (Int.lt_or_le i v4).elim (fun h => E85 (by omega) i a h) (fun h => by rw [show i = v4 by omega]; exact s117 (by omega))) rfl) (And.intro rfl (And.intro rfl (And.intro rfl (And.intro rfl (And.intro rfl (True.intro))))))
              · refine l_iconst rfl ?_
                refine l_goto rfl rfl ?_
                refine l_iadd rfl ?_
                refine l_istore_n rfl rfl rfl ?_
                refine l_iinc rfl rfl rfl rfl ?_
                refine l_goto rfl rfl ?_
                have w114 : 0 ≤ Xi T3 904 106 ∧ Xi T3 904 106 ≤ 9 := hHT3.c _ _
                have w115 : 0 ≤ Xi T3 904 108 ∧ Xi T3 904 108 ≤ 2600 := hHT3.c _ _
                have w116 : Xi T3 904 69 = Xi T1 904 69 := (show Xi T3 904 69 = Xi T1 904 69 from w101.x _ _ rfl)
                have w117 : 0 ≤ Xi T1 904 69 ∧ Xi T1 904 69 ≤ 2600 := hHT1.c _ _
                have w118 : Xi T3 904 71 = Xi T1 904 71 := (show Xi T3 904 71 = Xi T1 904 71 from w101.x _ _ rfl)
                have w119 : 0 ≤ Xi T1 904 71 ∧ Xi T1 904 71 ≤ 2600 := hHT1.c _ _
                have w120 : Xi T3 904 72 = Xi T1 904 72 := (show Xi T3 904 72 = Xi T1 904 72 from w101.x _ _ rfl)
                have w121 : 0 ≤ Xi T1 904 72 ∧ Xi T1 904 72 ≤ 2600 := hHT1.c _ _
                have w122 : Xi T3 904 78 = Xi T1 904 78 := (show Xi T3 904 78 = Xi T1 904 78 from w101.x _ _ rfl)
                have w123 : -2 ≤ Xi T1 904 78 ∧ Xi T1 904 78 ≤ 5010 := hHT1.c _ _
                exact Rl_weak (ih85 _ (by omega) T3 hHT3 hFT3 (v1) ((v2 + 1)) (v3) ((v4 + 1)) (by omega) (by omega) (by omega) (by omega) (by first | exact q85 | exact q82) (by first | exact m85 | exact m82) (by omega) (by omega) (by omega) (by omega) (by omega) (by omega) (by omega) (by first | assumption | exact hN) (by first | exact (fun q => by have t := hkl v1; omega) | omega) (by first | exact fun q i a b => absurd b (by omega) | exact fun q i a b => (Int.lt_or_le i v4).elim (fun h => E85 (by omega) i a h) (fun h => by rw [show i = v4 by omega]; exact s117 (by omega))) rfl) (And.intro rfl (And.intro rfl (And.intro rfl (And.intro rfl (And.intro rfl (True.intro))))))
        refine l_iconst rfl ?_
        refine l_istore rfl rfl rfl ?_
        have w124 : 0 ≤ Xi S 904 106 ∧ Xi S 904 106 ≤ 9 := hH.c _ _
        have w125 : 0 ≤ Xi S 904 108 ∧ Xi S 904 108 ≤ 2600 := hH.c _ _
        have w126 : 0 ≤ Xi S 904 69 ∧ Xi S 904 69 ≤ 2600 := hH.c _ _
        have w127 : 0 ≤ Xi S 904 71 ∧ Xi S 904 71 ≤ 2600 := hH.c _ _
        have w128 : 0 ≤ Xi S 904 72 ∧ Xi S 904 72 ≤ 2600 := hH.c _ _
        have w129 : -2 ≤ Xi S 904 78 ∧ Xi S 904 78 ≤ 5010 := hH.c _ _
        exact Rl_weak (C85 _ S hH hF (v1) (v2) (v3) (0) (by omega) (by omega) (by omega) (by omega) (by first | exact q85 | exact q82) (by first | exact m85 | exact m82) (by omega) (by omega) (by omega) (by omega) (by omega) (by omega) (by omega) (by first | assumption | exact hN) (by first | exact (fun q => by have t := hkl v1; omega) | omega) (by first | exact fun q i a b => absurd b (by omega) | exact fun q i a b => (Int.lt_or_le i v4).elim (fun h => E85 (by omega) i a h) (fun h => by rw [show i = v4 by omega]; exact s117 (by omega))) rfl) (And.intro rfl (And.intro rfl (And.intro rfl (And.intro rfl (And.intro rfl (True.intro))))))
      refine l_aload_n rfl rfl ?_
      refine l_gfi rfl rfl rfl rfl rfl ?_
      refine l_bipush rfl rfl ?_
      refine l_icmp_ne rfl rfl (by unfold rg; omega) (by unfold rg; omega) (fun w130 => ?_) (fun w131 => ?_)
      · refine l_iload_n rfl rfl ?_
        refine l_if_eq rfl rfl (by unfold rg; omega) (fun w132 => ?_) (fun w133 => ?_)
        · refine l_bipush rfl rfl ?_
          refine l_istore_n rfl rfl rfl ?_
          have w134 : 0 ≤ Xi S 904 106 ∧ Xi S 904 106 ≤ 9 := hH.c _ _
          have w135 : 0 ≤ Xi S 904 108 ∧ Xi S 904 108 ≤ 2600 := hH.c _ _
          have w136 : 0 ≤ Xi S 904 69 ∧ Xi S 904 69 ≤ 2600 := hH.c _ _
          have w137 : 0 ≤ Xi S 904 71 ∧ Xi S 904 71 ≤ 2600 := hH.c _ _
          have w138 : 0 ≤ Xi S 904 72 ∧ Xi S 904 72 ≤ 2600 := hH.c _ _
          have w139 : -2 ≤ Xi S 904 78 ∧ Xi S 904 78 ≤ 5010 := hH.c _ _
          exact Rl_weak (C82 (v1) (v2) (16) (by omega) (by omega) (by omega) (q56) (k56) (by unfold kkm; first | rw [if_pos (by omega)] | rw [if_neg (by omega), if_pos (by omega)] | rw [if_neg (by omega), if_neg (by omega)])) (And.intro rfl (And.intro rfl (And.intro rfl (And.intro rfl (True.intro)))))
        · refine l_bipush rfl rfl ?_
          refine l_goto rfl rfl ?_
          refine l_istore_n rfl rfl rfl ?_
          have w140 : 0 ≤ Xi S 904 106 ∧ Xi S 904 106 ≤ 9 := hH.c _ _
          have w141 : 0 ≤ Xi S 904 108 ∧ Xi S 904 108 ≤ 2600 := hH.c _ _
          have w142 : 0 ≤ Xi S 904 69 ∧ Xi S 904 69 ≤ 2600 := hH.c _ _
          have w143 : 0 ≤ Xi S 904 71 ∧ Xi S 904 71 ≤ 2600 := hH.c _ _
          have w144 : 0 ≤ Xi S 904 72 ∧ Xi S 904 72 ≤ 2600 := hH.c _ _
          have w145 : -2 ≤ Xi S 904 78 ∧ Xi S 904 78 ≤ 5010 := hH.c _ _
          exact Rl_weak (C82 (v1) (v2) (8) (by omega) (by omega) (by omega) (q56) (k56) (by unfold kkm; first | rw [if_pos (by omega)] | rw [if_neg (by omega), if_pos (by omega)] | rw [if_neg (by omega), if_neg (by omega)])) (And.intro rfl (And.intro rfl (And.intro rfl (And.intro rfl (True.intro)))))
      · refine l_bipush rfl rfl ?_
        refine l_goto rfl rfl ?_
        refine l_istore_n rfl rfl rfl ?_
        have w146 : 0 ≤ Xi S 904 106 ∧ Xi S 904 106 ≤ 9 := hH.c _ _
        have w147 : 0 ≤ Xi S 904 108 ∧ Xi S 904 108 ≤ 2600 := hH.c _ _
        have w148 : 0 ≤ Xi S 904 69 ∧ Xi S 904 69 ≤ 2600 := hH.c _ _
        have w149 : 0 ≤ Xi S 904 71 ∧ Xi S 904 71 ≤ 2600 := hH.c _ _
        have w150 : 0 ≤ Xi S 904 72 ∧ Xi S 904 72 ≤ 2600 := hH.c _ _
        have w151 : -2 ≤ Xi S 904 78 ∧ Xi S 904 78 ≤ 5010 := hH.c _ _
        exact Rl_weak (C82 (v1) (v2) (12) (by omega) (by omega) (by omega) (q56) (k56) (by unfold kkm; first | rw [if_pos (by omega)] | rw [if_neg (by omega), if_pos (by omega)] | rw [if_neg (by omega), if_neg (by omega)])) (And.intro rfl (And.intro rfl (And.intro rfl (And.intro rfl (True.intro)))))
    refine l_aload_n rfl rfl ?_
    refine l_gfi rfl rfl rfl rfl rfl ?_
    refine l_bipush rfl rfl ?_
    refine l_icmp_ne rfl rfl (by unfold rg; omega) (by unfold rg; omega) (fun w152 => ?_) (fun w153 => ?_)
    · refine l_iload_n rfl rfl ?_
      refine l_if_eq rfl rfl (by unfold rg; omega) (fun w154 => ?_) (fun w155 => ?_)
      · refine l_aload_n rfl rfl ?_
        refine l_gfi rfl rfl rfl rfl rfl ?_
        refine l_istore_n rfl rfl rfl ?_
        have w156 : 0 ≤ Xi S 904 106 ∧ Xi S 904 106 ≤ 9 := hH.c _ _
        have w157 : 0 ≤ Xi S 904 108 ∧ Xi S 904 108 ≤ 2600 := hH.c _ _
        have w158 : 0 ≤ Xi S 904 69 ∧ Xi S 904 69 ≤ 2600 := hH.c _ _
        have w159 : 0 ≤ Xi S 904 71 ∧ Xi S 904 71 ≤ 2600 := hH.c _ _
        have w160 : 0 ≤ Xi S 904 72 ∧ Xi S 904 72 ≤ 2600 := hH.c _ _
        have w161 : -2 ≤ Xi S 904 78 ∧ Xi S 904 78 ≤ 5010 := hH.c _ _
        exact Rl_weak (C56 (v1) ((Xi S 904 16)) (by omega) (by omega) (q24) (by unfold kk0; first | rw [if_pos (by omega)] | rw [if_neg (by omega), if_pos (by omega)] | rw [if_neg (by omega), if_neg (by omega)])) (And.intro rfl (And.intro rfl (And.intro rfl (True.intro))))
      · refine l_aload_n rfl rfl ?_
        refine l_gfi rfl rfl rfl rfl rfl ?_
        refine l_goto rfl rfl ?_
        refine l_istore_n rfl rfl rfl ?_
        have w162 : 0 ≤ Xi S 904 106 ∧ Xi S 904 106 ≤ 9 := hH.c _ _
        have w163 : 0 ≤ Xi S 904 108 ∧ Xi S 904 108 ≤ 2600 := hH.c _ _
        have w164 : 0 ≤ Xi S 904 69 ∧ Xi S 904 69 ≤ 2600 := hH.c _ _
        have w165 : 0 ≤ Xi S 904 71 ∧ Xi S 904 71 ≤ 2600 := hH.c _ _
        have w166 : 0 ≤ Xi S 904 72 ∧ Xi S 904 72 ≤ 2600 := hH.c _ _
        have w167 : -2 ≤ Xi S 904 78 ∧ Xi S 904 78 ≤ 5010 := hH.c _ _
        exact Rl_weak (C56 (v1) ((Xi S 904 18)) (by omega) (by omega) (q24) (by unfold kk0; first | rw [if_pos (by omega)] | rw [if_neg (by omega), if_pos (by omega)] | rw [if_neg (by omega), if_neg (by omega)])) (And.intro rfl (And.intro rfl (And.intro rfl (True.intro))))
    · refine l_aload_n rfl rfl ?_
      refine l_gfi rfl rfl rfl rfl rfl ?_
      refine l_goto rfl rfl ?_
      refine l_istore_n rfl rfl rfl ?_
      have w168 : 0 ≤ Xi S 904 106 ∧ Xi S 904 106 ≤ 9 := hH.c _ _
      have w169 : 0 ≤ Xi S 904 108 ∧ Xi S 904 108 ≤ 2600 := hH.c _ _
      have w170 : 0 ≤ Xi S 904 69 ∧ Xi S 904 69 ≤ 2600 := hH.c _ _
      have w171 : 0 ≤ Xi S 904 71 ∧ Xi S 904 71 ≤ 2600 := hH.c _ _
      have w172 : 0 ≤ Xi S 904 72 ∧ Xi S 904 72 ≤ 2600 := hH.c _ _
      have w173 : -2 ≤ Xi S 904 78 ∧ Xi S 904 78 ≤ 5010 := hH.c _ _
      exact Rl_weak (C56 (v1) ((Xi S 904 49)) (by omega) (by omega) (q24) (by unfold kk0; first | rw [if_pos (by omega)] | rw [if_neg (by omega), if_pos (by omega)] | rw [if_neg (by omega), if_neg (by omega)])) (And.intro rfl (And.intro rfl (And.intro rfl (True.intro))))
  refine l_aload_n rfl rfl ?_
  refine l_gfi rfl rfl rfl rfl rfl ?_
  refine l_bipush rfl rfl ?_
  refine l_icmp_ne rfl rfl (by unfold rg; omega) (by unfold rg; omega) (fun w174 => ?_) (fun w175 => ?_)
  · refine l_iconst rfl ?_
    refine l_istore_n rfl rfl rfl ?_
    have w176 : 0 ≤ Xi S 904 106 ∧ Xi S 904 106 ≤ 9 := hH.c _ _
    have w177 : 0 ≤ Xi S 904 108 ∧ Xi S 904 108 ≤ 2600 := hH.c _ _
    have w178 : 0 ≤ Xi S 904 69 ∧ Xi S 904 69 ≤ 2600 := hH.c _ _
    have w179 : 0 ≤ Xi S 904 71 ∧ Xi S 904 71 ≤ 2600 := hH.c _ _
    have w180 : 0 ≤ Xi S 904 72 ∧ Xi S 904 72 ≤ 2600 := hH.c _ _
    have w181 : -2 ≤ Xi S 904 78 ∧ Xi S 904 78 ≤ 5010 := hH.c _ _
    exact Rl_weak (C24 (0) (by omega) (by unfold VKX; omega)) (And.intro rfl (And.intro rfl (True.intro)))
  · refine l_aload_n rfl rfl ?_
    refine l_gfi rfl rfl rfl rfl rfl ?_
    refine l_bipush rfl rfl ?_
    refine l_icmp_ne rfl rfl (by unfold rg; omega) (by unfold rg; omega) (fun w182 => ?_) (fun w183 => ?_)
    · refine l_iconst rfl ?_
      refine l_istore_n rfl rfl rfl ?_
      have w184 : 0 ≤ Xi S 904 106 ∧ Xi S 904 106 ≤ 9 := hH.c _ _
      have w185 : 0 ≤ Xi S 904 108 ∧ Xi S 904 108 ≤ 2600 := hH.c _ _
      have w186 : 0 ≤ Xi S 904 69 ∧ Xi S 904 69 ≤ 2600 := hH.c _ _
      have w187 : 0 ≤ Xi S 904 71 ∧ Xi S 904 71 ≤ 2600 := hH.c _ _
      have w188 : 0 ≤ Xi S 904 72 ∧ Xi S 904 72 ≤ 2600 := hH.c _ _
      have w189 : -2 ≤ Xi S 904 78 ∧ Xi S 904 78 ≤ 5010 := hH.c _ _
      exact Rl_weak (C24 (0) (by omega) (by unfold VKX; omega)) (And.intro rfl (And.intro rfl (True.intro)))
    · refine l_iconst rfl ?_
      refine l_goto rfl rfl ?_
      refine l_istore_n rfl rfl rfl ?_
      have w190 : 0 ≤ Xi S 904 106 ∧ Xi S 904 106 ≤ 9 := hH.c _ _
      have w191 : 0 ≤ Xi S 904 108 ∧ Xi S 904 108 ≤ 2600 := hH.c _ _
      have w192 : 0 ≤ Xi S 904 69 ∧ Xi S 904 69 ≤ 2600 := hH.c _ _
      have w193 : 0 ≤ Xi S 904 71 ∧ Xi S 904 71 ≤ 2600 := hH.c _ _
      have w194 : 0 ≤ Xi S 904 72 ∧ Xi S 904 72 ≤ 2600 := hH.c _ _
      have w195 : -2 ≤ Xi S 904 78 ∧ Xi S 904 78 ≤ 5010 := hH.c _ _
      exact Rl_weak (C24 (1) (by omega) (by unfold VKX; omega)) (And.intro rfl (And.intro rfl (True.intro)))
def md_mo_askProperty : List rec := [(904, 905, 104, 105), (904, 905, 105, 106), (904, 905, 106, 107), (973, 974, 0, 100000), (974, 975, 0, 100000)]
abbrev Q_mo_askProperty (S : sS) (n : Nat) : pst := fun r S1 => HI S1 ∧ FR md_mo_askProperty S S1 ∧ (r = none ∧ (Xi S1 904 106 = 0 → rnR S 0 7 ≠ -1 ∧ (rnR S 1 4 ≠ -1 ∨ rnR S 1 0 ≠ -1) ∧ OKT (Xi S1 973 (Xi S 904 117).toNat) (Xi S1 974 (Xi S 904 117).toNat)) ∧ (KQ S1 S (Xi S 904 117)))
set_option maxRecDepth 100000 in
theorem t_mo_askProperty {S : sS} (hH : HI S) (n : Nat) (hT : TK S n) (hv : RNV S n) (hM : LXM S) (hB : ABV S) (hX : TXM S) (hK : TXK S n) (h2 : 2 ≤ Xi S 904 69) (hw : 0 ≤ Xi S 904 78 ∧ Xi S 904 78 ≤ n) (hw2 : Xi S 907 (Xi S 904 78).toNat ≠ 4 → Xi S 907 (Xi S 904 78).toNat ≠ 5 → 3 ≤ Xi S 904 69) (d : Nat) : Mt lay0 (d + 6) m_mo_askProperty [.ref 904] S (Q_mo_askProperty S n) := by
  refine Mt_R rfl rfl ?_
  have hF : FR md_mo_askProperty S S := FR.rf
  have w1 : 0 ≤ Xi S 904 106 ∧ Xi S 904 106 ≤ 9 := hH.c _ _
  have w2 : 0 ≤ Xi S 904 117 ∧ Xi S 904 117 ≤ 480 := hH.c _ _
  have w3 : 0 ≤ Xi S 904 32 ∧ Xi S 904 32 ≤ 12 := hH.c _ _
  have w4 : 0 ≤ Xi S 904 69 ∧ Xi S 904 69 ≤ 2600 := hH.c _ _
  have w5 : -2 ≤ Xi S 904 78 ∧ Xi S 904 78 ≤ 5010 := hH.c _ _
  have hn5 := hT.1
  have hc69 : 0 ≤ Xi S 904 69 ∧ Xi S 904 69 ≤ 2600 := hH.c _ _
  have q0 := hv 0 (by omega)
  have q1 := hv 1 (by omega)
  have g0 : 0 ≤ Xi S 950 0 ∧ Xi S 950 0 ≤ 5010 := hH.c 950 0
  have g1 : 0 ≤ Xi S 950 1 ∧ Xi S 950 1 ≤ 5010 := hH.c 950 1
  have hc32 : 0 ≤ Xi S 904 32 ∧ Xi S 904 32 ≤ 12 := hH.c _ _
  have hc16 : 0 ≤ Xi S 904 16 ∧ Xi S 904 16 ≤ 16 := hH.c _ _
  have hc19 : 0 ≤ Xi S 904 19 ∧ Xi S 904 19 ≤ 24 := hH.c _ _
  have C28 : ∀  (v2 : Int), (-1 ≤ v2 ∧ v2 ≤ 15) → (rnR S 1 4 ≠ -1 ∨ v2 = rnR S 1 0) → Rl lay0 (d + 5) m_mo_askProperty 28 [(0, .ref 904), (2, iv v2)] [] S (Q_mo_askProperty S n) := by
    intro v2 w6 w7
    have C83 : ∀  (T1 : sS) (_ : HI T1) (_ : FR md_mo_askProperty S T1) (v3 : Int) (v4 : Int), (-1 ≤ v3 ∧ v3 ≤ 11) → (0 ≤ v4 ∧ v4 ≤ 1) → (Xi T1 904 78 = Xi S 904 78) → (Xi T1 904 117 = Xi S 904 117) → (Xi T1 904 69 = Xi S 904 69) → (v3 = rnR S 0 7) → (v3 ≠ -1 → v3 < Xi S 904 32) → (Xi T1 904 106 = 0 → rnR S 1 4 ≠ -1 ∨ rnR S 1 0 ≠ -1) → (v4 = 1 → v3 ≠ -1) → (KQ T1 S (Xi S 904 117)) → Rl lay0 (d + 5) m_mo_askProperty 83 [(0, .ref 904), (3, iv v3), (4, iv v4)] [] T1 (Q_mo_askProperty S n) := by
      intro T1 hHT1 hFT1 v3 v4 w8 w9 w10 w11 w12 w13 w14 w15 w16 K83
      have w17 : Xi T1 904 117 = Xi S 904 117 := hFT1.x _ _ rfl
      have w18 : Xi T1 904 32 = Xi S 904 32 := hFT1.x _ _ rfl
      have w19 : Xi T1 904 69 = Xi S 904 69 := hFT1.x _ _ rfl
      have w20 : Xi T1 904 78 = Xi S 904 78 := hFT1.x _ _ rfl
      have w21 : 0 ≤ Xi T1 904 106 ∧ Xi T1 904 106 ≤ 9 := hHT1.c _ _
      have w22 : 0 ≤ Xi T1 904 117 ∧ Xi T1 904 117 ≤ 480 := hHT1.c _ _
      have w23 : 0 ≤ Xi T1 904 69 ∧ Xi T1 904 69 ≤ 2600 := hHT1.c _ _
      have w24 : -2 ≤ Xi T1 904 78 ∧ Xi T1 904 78 ≤ 5010 := hHT1.c _ _
      refine l_aload_n rfl rfl ?_
      refine l_iload rfl rfl ?_
      refine l_iconst rfl ?_
      refine l_aload_n rfl rfl ?_
      refine l_gfr rfl rfl rfl rfl rfl (hHT1.r 904 67 950 rfl) ?_
      refine l_iconst rfl ?_
      refine l_iaload (n := 2600) rfl rfl (by omega) (by omega) (by unfold rg; omega) ?_
      have w25 : 0 ≤ (Xi T1 950 ((0 : Int).toNat)) ∧ (Xi T1 950 ((0 : Int).toNat)) ≤ 5010 := hHT1.c _ _
      have w26 : (Xi T1 950 ((0 : Int).toNat)) = Xi T1 950 0 := rfl
      have e92 : (Xi T1 950 ((0 : Int).toNat)) = Xi S 950 0 := by first | rfl | exact (hFT1.cx 950 rfl _).1
      have w27 : 0 ≤ Xi T1 904 106 ∧ Xi T1 904 106 ≤ 9 := hHT1.c _ _
      have w28 : 0 ≤ Xi T1 904 108 ∧ Xi T1 904 108 ≤ 2600 := hHT1.c _ _
      have w29 : 0 ≤ Xi T1 904 117 ∧ Xi T1 904 117 ≤ 480 := hHT1.c _ _
      have w30 : 0 ≤ Xi T1 904 69 ∧ Xi T1 904 69 ≤ 2600 := hHT1.c _ _
      have w31 : -2 ≤ Xi T1 904 78 ∧ Xi T1 904 78 ≤ 5010 := hHT1.c _ _
      refine l_callV rfl rfl rfl (t_mo_need hHT1 v4 4 (Xi T1 950 ((0 : Int).toNat)) ⟨by omega, by omega⟩ ⟨by omega, by omega⟩ ⟨by omega, by omega⟩ _) ?_
      rintro _ T2 ⟨hHT2, w35, rfl, w32, w33⟩
      have hFT2 : FR md_mo_askProperty S T2 := FR.tr hFT1 w35 rfl
      show Rl _ _ _ _ _ [] _ _
      have K93 : KQ T2 S (Xi S 904 117) := KQ_FR (by assumption : FR md_mo_need T1 T2) rfl K83
      refine l_iload_n rfl rfl ?_
      refine l_iconst rfl ?_
      refine l_icmp_eq rfl rfl (by unfold rg; omega) (by unfold rg; omega) (fun w36 => ?_) (fun w37 => ?_)
      · refine l_return rfl rfl ?_
        have w38 : 0 ≤ Xi T2 904 106 ∧ Xi T2 904 106 ≤ 9 := hHT2.c _ _
        have w39 : Xi T2 904 108 = Xi T1 904 108 := (show Xi T2 904 108 = Xi T1 904 108 from w35.x _ _ rfl)
        have w40 : 0 ≤ Xi T1 904 108 ∧ Xi T1 904 108 ≤ 2600 := hHT1.c _ _
        have w41 : Xi T2 904 117 = Xi T1 904 117 := (show Xi T2 904 117 = Xi T1 904 117 from w35.x _ _ rfl)
        have w42 : 0 ≤ Xi T1 904 117 ∧ Xi T1 904 117 ≤ 480 := hHT1.c _ _
        have w43 : Xi T2 904 69 = Xi T1 904 69 := (show Xi T2 904 69 = Xi T1 904 69 from w35.x _ _ rfl)
        have w44 : 0 ≤ Xi T1 904 69 ∧ Xi T1 904 69 ≤ 2600 := hHT1.c _ _
        have w45 : Xi T2 904 78 = Xi T1 904 78 := (show Xi T2 904 78 = Xi T1 904 78 from w35.x _ _ rfl)
        have w46 : -2 ≤ Xi T1 904 78 ∧ Xi T1 904 78 ≤ 5010 := hHT1.c _ _
        exact ⟨hHT2, hFT2, rfl, (fun q => (by first | (refine ⟨by omega, by omega, ?_⟩; rw [show (Xi S 904 117).toNat = (Xi T1 904 117).toNat by omega]; exact o117) | (exfalso; omega))), (by first | exact KQ.tr K93 (by rw [show Xi S 904 117 = Xi T1 904 117 by omega]; assumption) | exact K93)⟩
      · refine l_aload_n rfl rfl ?_
        refine l_aload_n rfl rfl ?_
        refine l_gfi rfl rfl rfl rfl rfl ?_
        have w47 : (Xi T2 904 78) = (Xi T1 904 78) := (show Xi T2 904 78 = Xi T1 904 78 from w35.x _ _ rfl)
        rw [w47]
        refine l_iconst rfl ?_
        refine l_aload_n rfl rfl ?_
        refine l_gfr rfl rfl rfl rfl rfl (hHT2.r 904 33 928 rfl) ?_
        refine l_iload_n rfl rfl ?_
        refine l_iaload (n := 12) rfl rfl (by omega) (by omega) (by unfold rg; omega) ?_
        have w48 : 0 ≤ (Xi T2 928 ((v3).toNat)) ∧ (Xi T2 928 ((v3).toNat)) ≤ 7 := hHT2.c _ _
        have e112 : (Xi T2 928 ((v3).toNat)) = Xi S 928 (v3).toNat := by first | rfl | exact (hFT2.cx 928 rfl _).1
        refine l_aload_n rfl rfl ?_
        refine l_gfi rfl rfl rfl rfl rfl ?_
        have w49 : (Xi T2 904 117) = (Xi T1 904 117) := (show Xi T2 904 117 = Xi T1 904 117 from w35.x _ _ rfl)
        rw [w49]
        have w50 : 0 ≤ Xi T2 904 106 ∧ Xi T2 904 106 ≤ 9 := hHT2.c _ _
        have w51 : Xi T2 904 108 = Xi T1 904 108 := (show Xi T2 904 108 = Xi T1 904 108 from w35.x _ _ rfl)
        have w52 : 0 ≤ Xi T1 904 108 ∧ Xi T1 904 108 ≤ 2600 := hHT1.c _ _
        have w53 : Xi T2 904 117 = Xi T1 904 117 := (show Xi T2 904 117 = Xi T1 904 117 from w35.x _ _ rfl)
        have w54 : 0 ≤ Xi T1 904 117 ∧ Xi T1 904 117 ≤ 480 := hHT1.c _ _
        have w55 : Xi T2 904 69 = Xi T1 904 69 := (show Xi T2 904 69 = Xi T1 904 69 from w35.x _ _ rfl)
        have w56 : 0 ≤ Xi T1 904 69 ∧ Xi T1 904 69 ≤ 2600 := hHT1.c _ _
        have w57 : Xi T2 904 78 = Xi T1 904 78 := (show Xi T2 904 78 = Xi T1 904 78 from w35.x _ _ rfl)
        have w58 : -2 ≤ Xi T1 904 78 ∧ Xi T1 904 78 ≤ 5010 := hHT1.c _ _
        refine l_callV rfl rfl rfl (t_mo_whatMeant hHT2 n (Xi T1 904 78) 2 (Xi T2 928 ((v3).toNat)) (Xi T1 904 117) ⟨by omega, by omega⟩ ⟨by omega, by omega⟩ ⟨by omega, by omega⟩ ⟨by omega, by omega⟩ (by first | assumption | exact (TK_FR hFT2 rfl (by assumption : TK S _))) (by first | assumption | exact (RNV_FR hFT2 rfl (by assumption : RNV S _))) (by first | assumption | exact (LXM_FR hFT2 rfl (by assumption : LXM S))) (by first | assumption | exact (TXK_FR hFT2 rfl (by assumption : TXK S _))) (by first | assumption | omega) (fun a b => by rw [(hFT2.cx 907 rfl _).1, show Xi T1 904 78 = Xi S 904 78 by omega] at a b; have t := hw2 a b; omega) _) ?_
        rintro _ T3 ⟨hHT3, w62, rfl, w59, o117, w60⟩
        have hFT3 : FR md_mo_askProperty S T3 := FR.tr hFT2 w62 rfl
        show Rl _ _ _ _ _ [] _ _
        refine l_return rfl rfl ?_
        have w63 : 0 ≤ Xi T3 904 106 ∧ Xi T3 904 106 ≤ 9 := hHT3.c _ _
        have w64 : Xi T3 904 108 = Xi T1 904 108 := (show Xi T3 904 108 = Xi T2 904 108 from w62.x _ _ rfl).trans ((show Xi T2 904 108 = Xi T1 904 108 from w35.x _ _ rfl))
        have w65 : 0 ≤ Xi T1 904 108 ∧ Xi T1 904 108 ≤ 2600 := hHT1.c _ _
        have w66 : Xi T3 904 117 = Xi T1 904 117 := (show Xi T3 904 117 = Xi T2 904 117 from w62.x _ _ rfl).trans ((show Xi T2 904 117 = Xi T1 904 117 from w35.x _ _ rfl))
        have w67 : 0 ≤ Xi T1 904 117 ∧ Xi T1 904 117 ≤ 480 := hHT1.c _ _
        have w68 : Xi T3 904 69 = Xi T1 904 69 := (show Xi T3 904 69 = Xi T2 904 69 from w62.x _ _ rfl).trans ((show Xi T2 904 69 = Xi T1 904 69 from w35.x _ _ rfl))
        have w69 : 0 ≤ Xi T1 904 69 ∧ Xi T1 904 69 ≤ 2600 := hHT1.c _ _
        have w70 : Xi T3 904 78 = Xi T1 904 78 := (show Xi T3 904 78 = Xi T2 904 78 from w62.x _ _ rfl).trans ((show Xi T2 904 78 = Xi T1 904 78 from w35.x _ _ rfl))
        have w71 : -2 ≤ Xi T1 904 78 ∧ Xi T1 904 78 ≤ 5010 := hHT1.c _ _
        exact ⟨hHT3, hFT3, rfl, (fun q => (by first | (refine ⟨by omega, by omega, ?_⟩; rw [show (Xi S 904 117).toNat = (Xi T2 904 117).toNat by omega]; exact o117) | (exfalso; omega))), (by first | exact KQ.tr K93 (by rw [show Xi S 904 117 = Xi T2 904 117 by omega]; assumption) | exact K93)⟩
    refine l_aload_n rfl rfl ?_
    refine l_iconst rfl ?_
    refine l_bipush rfl rfl ?_
    have w72 : 0 ≤ Xi S 904 106 ∧ Xi S 904 106 ≤ 9 := hH.c _ _
    have w73 : 0 ≤ Xi S 904 108 ∧ Xi S 904 108 ≤ 2600 := hH.c _ _
    have w74 : 0 ≤ Xi S 904 117 ∧ Xi S 904 117 ≤ 480 := hH.c _ _
    have w75 : 0 ≤ Xi S 904 69 ∧ Xi S 904 69 ≤ 2600 := hH.c _ _
    have w76 : -2 ≤ Xi S 904 78 ∧ Xi S 904 78 ≤ 5010 := hH.c _ _
    refine l_callV rfl rfl rfl (t_mo_meansRun__2 hH n 0 7 ⟨by omega, by omega⟩ ⟨by omega, by omega⟩ (by first | assumption | exact (TK_FR hF rfl (by assumption : TK S _))) (by first | assumption | exact (RNV_FR hF rfl (by assumption : RNV S _))) (by first | assumption | omega) (by first | assumption | exact (LXM_FR hF rfl (by assumption : LXM S))) _) ?_
    rintro _ _ ⟨rfl, z79, rfl, w79, w77, w78⟩
    show Rl _ _ _ _ _ [iv z79] _ _
    have x32 : z79 ≠ -1 → z79 < Xi S 904 32 := fun q => by have t := (by assumption : z79 ≠ -1 → z79 < cM S 7) q; rw [cM7] at t; exact t
    have r32 : z79 = rnR S 0 7 := (by assumption : z79 = rnR S _ _).trans (rnR_FR hF rfl rfl)
    refine l_istore_n rfl rfl rfl ?_
    refine l_aload_n rfl rfl ?_
    refine l_iload_n rfl rfl ?_
    refine l_iconst rfl ?_
    refine l_icmp_eq rfl rfl (by unfold rg; omega) (by unfold rg; omega) (fun w80 => ?_) (fun w81 => ?_)
    · refine l_iconst rfl ?_
      refine l_iconst rfl ?_
      refine l_aload_n rfl rfl ?_
      refine l_gfr rfl rfl rfl rfl rfl (hH.r 904 67 950 rfl) ?_
      refine l_iconst rfl ?_
      refine l_iaload (n := 2600) rfl rfl (by omega) (by omega) (by unfold rg; omega) ?_
      have w82 : 0 ≤ (Xi S 950 ((1 : Int).toNat)) ∧ (Xi S 950 ((1 : Int).toNat)) ≤ 5010 := hH.c _ _
      have w83 : (Xi S 950 ((1 : Int).toNat)) = Xi S 950 1 := rfl
      have w84 : 0 ≤ Xi S 904 106 ∧ Xi S 904 106 ≤ 9 := hH.c _ _
      have w85 : 0 ≤ Xi S 904 108 ∧ Xi S 904 108 ≤ 2600 := hH.c _ _
      have w86 : 0 ≤ Xi S 904 117 ∧ Xi S 904 117 ≤ 480 := hH.c _ _
      have w87 : 0 ≤ Xi S 904 69 ∧ Xi S 904 69 ≤ 2600 := hH.c _ _
      have w88 : -2 ≤ Xi S 904 78 ∧ Xi S 904 78 ≤ 5010 := hH.c _ _
      refine l_callV rfl rfl rfl (t_mo_need hH 0 4 (Xi S 950 ((1 : Int).toNat)) ⟨by omega, by omega⟩ ⟨by omega, by omega⟩ ⟨by omega, by omega⟩ _) ?_
      rintro _ T4 ⟨hHT4, w92, rfl, w89, w90⟩
      have hFT4 : FR md_mo_askProperty S T4 := FR.tr hF w92 rfl
      show Rl _ _ _ _ _ [] _ _
      refine l_iload_n rfl rfl ?_
      refine l_iconst rfl ?_
      refine l_icmp_eq rfl rfl (by unfold rg; omega) (by unfold rg; omega) (fun w93 => ?_) (fun w94 => ?_)
      · refine l_iconst rfl ?_
        refine l_istore rfl rfl rfl ?_
        have w95 : 0 ≤ Xi T4 904 106 ∧ Xi T4 904 106 ≤ 9 := hHT4.c _ _
        have w96 : Xi T4 904 108 = Xi S 904 108 := (show Xi T4 904 108 = Xi S 904 108 from w92.x _ _ rfl)
        have w97 : 0 ≤ Xi S 904 108 ∧ Xi S 904 108 ≤ 2600 := hH.c _ _
        have w98 : Xi T4 904 117 = Xi S 904 117 := (show Xi T4 904 117 = Xi S 904 117 from w92.x _ _ rfl)
        have w99 : 0 ≤ Xi S 904 117 ∧ Xi S 904 117 ≤ 480 := hH.c _ _
        have w100 : Xi T4 904 69 = Xi S 904 69 := (show Xi T4 904 69 = Xi S 904 69 from w92.x _ _ rfl)
        have w101 : 0 ≤ Xi S 904 69 ∧ Xi S 904 69 ≤ 2600 := hH.c _ _
        have w102 : Xi T4 904 78 = Xi S 904 78 := (show Xi T4 904 78 = Xi S 904 78 from w92.x _ _ rfl)
        have w103 : -2 ≤ Xi S 904 78 ∧ Xi S 904 78 ≤ 5010 := hH.c _ _
        exact Rl_weak (C83 T4 hHT4 hFT4 (z79) (0) (by omega) (by omega) (by omega) (by omega) (by omega) (by omega) (by omega) (by omega) (by omega) (KQ_FR (by assumption : FR md_mo_need S T4) rfl KQ.rf)) (And.intro rfl (And.intro rfl (And.intro rfl (True.intro))))
      · refine l_iload_n rfl rfl ?_
        refine l_iconst rfl ?_
        refine l_icmp_eq rfl rfl (by unfold rg; omega) (by unfold rg; omega) (fun w104 => ?_) (fun w105 => ?_)
        · refine l_iconst rfl ?_
          refine l_goto rfl rfl ?_
          refine l_istore rfl rfl rfl ?_
          have w106 : 0 ≤ Xi T4 904 106 ∧ Xi T4 904 106 ≤ 9 := hHT4.c _ _
          have w107 : Xi T4 904 108 = Xi S 904 108 := (show Xi T4 904 108 = Xi S 904 108 from w92.x _ _ rfl)
          have w108 : 0 ≤ Xi S 904 108 ∧ Xi S 904 108 ≤ 2600 := hH.c _ _
          have w109 : Xi T4 904 117 = Xi S 904 117 := (show Xi T4 904 117 = Xi S 904 117 from w92.x _ _ rfl)
          have w110 : 0 ≤ Xi S 904 117 ∧ Xi S 904 117 ≤ 480 := hH.c _ _
          have w111 : Xi T4 904 69 = Xi S 904 69 := (show Xi T4 904 69 = Xi S 904 69 from w92.x _ _ rfl)
          have w112 : 0 ≤ Xi S 904 69 ∧ Xi S 904 69 ≤ 2600 := hH.c _ _
          have w113 : Xi T4 904 78 = Xi S 904 78 := (show Xi T4 904 78 = Xi S 904 78 from w92.x _ _ rfl)
          have w114 : -2 ≤ Xi S 904 78 ∧ Xi S 904 78 ≤ 5010 := hH.c _ _
          exact Rl_weak (C83 T4 hHT4 hFT4 (z79) (1) (by omega) (by omega) (by omega) (by omega) (by omega) (by omega) (by omega) (by omega) (by omega) (KQ_FR (by assumption : FR md_mo_need S T4) rfl KQ.rf)) (And.intro rfl (And.intro rfl (And.intro rfl (True.intro))))
        · refine l_aload_n rfl rfl ?_
          refine l_iload_n rfl rfl ?_
          refine l_iload_n rfl rfl ?_
          have w115 : 0 ≤ Xi T4 904 106 ∧ Xi T4 904 106 ≤ 9 := hHT4.c _ _
          have w116 : Xi T4 904 108 = Xi S 904 108 := (show Xi T4 904 108 = Xi S 904 108 from w92.x _ _ rfl)
          have w117 : 0 ≤ Xi S 904 108 ∧ Xi S 904 108 ≤ 2600 := hH.c _ _
          have w118 : Xi T4 904 117 = Xi S 904 117 := (show Xi T4 904 117 = Xi S 904 117 from w92.x _ _ rfl)
          have w119 : 0 ≤ Xi S 904 117 ∧ Xi S 904 117 ≤ 480 := hH.c _ _
          have w120 : Xi T4 904 69 = Xi S 904 69 := (show Xi T4 904 69 = Xi S 904 69 from w92.x _ _ rfl)
          have w121 : 0 ≤ Xi S 904 69 ∧ Xi S 904 69 ≤ 2600 := hH.c _ _
          have w122 : Xi T4 904 78 = Xi S 904 78 := (show Xi T4 904 78 = Xi S 904 78 from w92.x _ _ rfl)
          have w123 : -2 ≤ Xi S 904 78 ∧ Xi S 904 78 ≤ 5010 := hH.c _ _
          refine l_callV rfl rfl rfl (t_mo_has hHT4 v2 z79 ⟨by omega, by omega⟩ ⟨by omega, by omega⟩ (by first | assumption | exact (ABV_FR hFT4 rfl (by assumption : ABV S))) _) ?_
          rintro _ _ ⟨rfl, z125, rfl, w125, w124⟩
          show Rl _ _ _ _ _ [iv z125] _ _
          refine l_if_eq rfl rfl (by unfold rg; omega) (fun w126 => ?_) (fun w127 => ?_)
          · refine l_iconst rfl ?_
            refine l_istore rfl rfl rfl ?_
            have w128 : 0 ≤ Xi T4 904 106 ∧ Xi T4 904 106 ≤ 9 := hHT4.c _ _
            have w129 : Xi T4 904 108 = Xi S 904 108 := (show Xi T4 904 108 = Xi S 904 108 from w92.x _ _ rfl)
            have w130 : 0 ≤ Xi S 904 108 ∧ Xi S 904 108 ≤ 2600 := hH.c _ _
            have w131 : Xi T4 904 117 = Xi S 904 117 := (show Xi T4 904 117 = Xi S 904 117 from w92.x _ _ rfl)
            have w132 : 0 ≤ Xi S 904 117 ∧ Xi S 904 117 ≤ 480 := hH.c _ _
            have w133 : Xi T4 904 69 = Xi S 904 69 := (show Xi T4 904 69 = Xi S 904 69 from w92.x _ _ rfl)
            have w134 : 0 ≤ Xi S 904 69 ∧ Xi S 904 69 ≤ 2600 := hH.c _ _
            have w135 : Xi T4 904 78 = Xi S 904 78 := (show Xi T4 904 78 = Xi S 904 78 from w92.x _ _ rfl)
            have w136 : -2 ≤ Xi S 904 78 ∧ Xi S 904 78 ≤ 5010 := hH.c _ _
            exact Rl_weak (C83 T4 hHT4 hFT4 (z79) (0) (by omega) (by omega) (by omega) (by omega) (by omega) (by omega) (by omega) (by omega) (by omega) (KQ_FR (by assumption : FR md_mo_need S T4) rfl KQ.rf)) (And.intro rfl (And.intro rfl (And.intro rfl (True.intro))))
          · refine l_iconst rfl ?_
            refine l_goto rfl rfl ?_
            refine l_istore rfl rfl rfl ?_
            have w137 : 0 ≤ Xi T4 904 106 ∧ Xi T4 904 106 ≤ 9 := hHT4.c _ _
            have w138 : Xi T4 904 108 = Xi S 904 108 := (show Xi T4 904 108 = Xi S 904 108 from w92.x _ _ rfl)
            have w139 : 0 ≤ Xi S 904 108 ∧ Xi S 904 108 ≤ 2600 := hH.c _ _
            have w140 : Xi T4 904 117 = Xi S 904 117 := (show Xi T4 904 117 = Xi S 904 117 from w92.x _ _ rfl)
            have w141 : 0 ≤ Xi S 904 117 ∧ Xi S 904 117 ≤ 480 := hH.c _ _
            have w142 : Xi T4 904 69 = Xi S 904 69 := (show Xi T4 904 69 = Xi S 904 69 from w92.x _ _ rfl)
            have w143 : 0 ≤ Xi S 904 69 ∧ Xi S 904 69 ≤ 2600 := hH.c _ _
            have w144 : Xi T4 904 78 = Xi S 904 78 := (show Xi T4 904 78 = Xi S 904 78 from w92.x _ _ rfl)
            have w145 : -2 ≤ Xi S 904 78 ∧ Xi S 904 78 ≤ 5010 := hH.c _ _
            exact Rl_weak (C83 T4 hHT4 hFT4 (z79) (1) (by omega) (by omega) (by omega) (by omega) (by omega) (by omega) (by omega) (by omega) (by omega) (KQ_FR (by assumption : FR md_mo_need S T4) rfl KQ.rf)) (And.intro rfl (And.intro rfl (And.intro rfl (True.intro))))
    · refine l_iconst rfl ?_
      refine l_goto rfl rfl ?_
      refine l_iconst rfl ?_
      refine l_aload_n rfl rfl ?_
      refine l_gfr rfl rfl rfl rfl rfl (hH.r 904 67 950 rfl) ?_
      refine l_iconst rfl ?_
      refine l_iaload (n := 2600) rfl rfl (by omega) (by omega) (by unfold rg; omega) ?_
      have w146 : 0 ≤ (Xi S 950 ((1 : Int).toNat)) ∧ (Xi S 950 ((1 : Int).toNat)) ≤ 5010 := hH.c _ _
      have w147 : (Xi S 950 ((1 : Int).toNat)) = Xi S 950 1 := rfl
      have w148 : 0 ≤ Xi S 904 106 ∧ Xi S 904 106 ≤ 9 := hH.c _ _
      have w149 : 0 ≤ Xi S 904 108 ∧ Xi S 904 108 ≤ 2600 := hH.c _ _
      have w150 : 0 ≤ Xi S 904 117 ∧ Xi S 904 117 ≤ 480 := hH.c _ _
      have w151 : 0 ≤ Xi S 904 69 ∧ Xi S 904 69 ≤ 2600 := hH.c _ _
      have w152 : -2 ≤ Xi S 904 78 ∧ Xi S 904 78 ≤ 5010 := hH.c _ _
      refine l_callV rfl rfl rfl (t_mo_need hH 1 4 (Xi S 950 ((1 : Int).toNat)) ⟨by omega, by omega⟩ ⟨by omega, by omega⟩ ⟨by omega, by omega⟩ _) ?_
      rintro _ T5 ⟨hHT5, w156, rfl, w153, w154⟩
      have hFT5 : FR md_mo_askProperty S T5 := FR.tr hF w156 rfl
      show Rl _ _ _ _ _ [] _ _
      refine l_iload_n rfl rfl ?_
      refine l_iconst rfl ?_
      refine l_icmp_eq rfl rfl (by unfold rg; omega) (by unfold rg; omega) (fun w157 => ?_) (fun w158 => ?_)
      · refine l_iconst rfl ?_
        refine l_istore rfl rfl rfl ?_
        have w159 : 0 ≤ Xi T5 904 106 ∧ Xi T5 904 106 ≤ 9 := hHT5.c _ _
        have w160 : Xi T5 904 108 = Xi S 904 108 := (show Xi T5 904 108 = Xi S 904 108 from w156.x _ _ rfl)
        have w161 : 0 ≤ Xi S 904 108 ∧ Xi S 904 108 ≤ 2600 := hH.c _ _
        have w162 : Xi T5 904 117 = Xi S 904 117 := (show Xi T5 904 117 = Xi S 904 117 from w156.x _ _ rfl)
        have w163 : 0 ≤ Xi S 904 117 ∧ Xi S 904 117 ≤ 480 := hH.c _ _
        have w164 : Xi T5 904 69 = Xi S 904 69 := (show Xi T5 904 69 = Xi S 904 69 from w156.x _ _ rfl)
        have w165 : 0 ≤ Xi S 904 69 ∧ Xi S 904 69 ≤ 2600 := hH.c _ _
        have w166 : Xi T5 904 78 = Xi S 904 78 := (show Xi T5 904 78 = Xi S 904 78 from w156.x _ _ rfl)
        have w167 : -2 ≤ Xi S 904 78 ∧ Xi S 904 78 ≤ 5010 := hH.c _ _
        exact Rl_weak (C83 T5 hHT5 hFT5 (z79) (0) (by omega) (by omega) (by omega) (by omega) (by omega) (by omega) (by omega) (by omega) (by omega) (KQ_FR (by assumption : FR md_mo_need S T5) rfl KQ.rf)) (And.intro rfl (And.intro rfl (And.intro rfl (True.intro))))
      · refine l_iload_n rfl rfl ?_
        refine l_iconst rfl ?_
        refine l_icmp_eq rfl rfl (by unfold rg; omega) (by unfold rg; omega) (fun w168 => ?_) (fun w169 => ?_)
        · refine l_iconst rfl ?_
          refine l_goto rfl rfl ?_
          refine l_istore rfl rfl rfl ?_
          have w170 : 0 ≤ Xi T5 904 106 ∧ Xi T5 904 106 ≤ 9 := hHT5.c _ _
          have w171 : Xi T5 904 108 = Xi S 904 108 := (show Xi T5 904 108 = Xi S 904 108 from w156.x _ _ rfl)
          have w172 : 0 ≤ Xi S 904 108 ∧ Xi S 904 108 ≤ 2600 := hH.c _ _
          have w173 : Xi T5 904 117 = Xi S 904 117 := (show Xi T5 904 117 = Xi S 904 117 from w156.x _ _ rfl)
          have w174 : 0 ≤ Xi S 904 117 ∧ Xi S 904 117 ≤ 480 := hH.c _ _
          have w175 : Xi T5 904 69 = Xi S 904 69 := (show Xi T5 904 69 = Xi S 904 69 from w156.x _ _ rfl)
          have w176 : 0 ≤ Xi S 904 69 ∧ Xi S 904 69 ≤ 2600 := hH.c _ _
          have w177 : Xi T5 904 78 = Xi S 904 78 := (show Xi T5 904 78 = Xi S 904 78 from w156.x _ _ rfl)
          have w178 : -2 ≤ Xi S 904 78 ∧ Xi S 904 78 ≤ 5010 := hH.c _ _
          exact Rl_weak (C83 T5 hHT5 hFT5 (z79) (1) (by omega) (by omega) (by omega) (by omega) (by omega) (by omega) (by omega) (by omega) (by omega) (KQ_FR (by assumption : FR md_mo_need S T5) rfl KQ.rf)) (And.intro rfl (And.intro rfl (And.intro rfl (True.intro))))
        · refine l_aload_n rfl rfl ?_
          refine l_iload_n rfl rfl ?_
          refine l_iload_n rfl rfl ?_
          have w179 : 0 ≤ Xi T5 904 106 ∧ Xi T5 904 106 ≤ 9 := hHT5.c _ _
          have w180 : Xi T5 904 108 = Xi S 904 108 := (show Xi T5 904 108 = Xi S 904 108 from w156.x _ _ rfl)
          have w181 : 0 ≤ Xi S 904 108 ∧ Xi S 904 108 ≤ 2600 := hH.c _ _
          have w182 : Xi T5 904 117 = Xi S 904 117 := (show Xi T5 904 117 = Xi S 904 117 from w156.x _ _ rfl)
          have w183 : 0 ≤ Xi S 904 117 ∧ Xi S 904 117 ≤ 480 := hH.c _ _
          have w184 : Xi T5 904 69 = Xi S 904 69 := (show Xi T5 904 69 = Xi S 904 69 from w156.x _ _ rfl)
          have w185 : 0 ≤ Xi S 904 69 ∧ Xi S 904 69 ≤ 2600 := hH.c _ _
          have w186 : Xi T5 904 78 = Xi S 904 78 := (show Xi T5 904 78 = Xi S 904 78 from w156.x _ _ rfl)
          have w187 : -2 ≤ Xi S 904 78 ∧ Xi S 904 78 ≤ 5010 := hH.c _ _
          refine l_callV rfl rfl rfl (t_mo_has hHT5 v2 z79 ⟨by omega, by omega⟩ ⟨by omega, by omega⟩ (by first | assumption | exact (ABV_FR hFT5 rfl (by assumption : ABV S))) _) ?_
          rintro _ _ ⟨rfl, z189, rfl, w189, w188⟩
          show Rl _ _ _ _ _ [iv z189] _ _
          refine l_if_eq rfl rfl (by unfold rg; omega) (fun w190 => ?_) (fun w191 => ?_)
          · refine l_iconst rfl ?_
            refine l_istore rfl rfl rfl ?_
            have w192 : 0 ≤ Xi T5 904 106 ∧ Xi T5 904 106 ≤ 9 := hHT5.c _ _
            have w193 : Xi T5 904 108 = Xi S 904 108 := (show Xi T5 904 108 = Xi S 904 108 from w156.x _ _ rfl)
            have w194 : 0 ≤ Xi S 904 108 ∧ Xi S 904 108 ≤ 2600 := hH.c _ _
            have w195 : Xi T5 904 117 = Xi S 904 117 := (show Xi T5 904 117 = Xi S 904 117 from w156.x _ _ rfl)
            have w196 : 0 ≤ Xi S 904 117 ∧ Xi S 904 117 ≤ 480 := hH.c _ _
            have w197 : Xi T5 904 69 = Xi S 904 69 := (show Xi T5 904 69 = Xi S 904 69 from w156.x _ _ rfl)
            have w198 : 0 ≤ Xi S 904 69 ∧ Xi S 904 69 ≤ 2600 := hH.c _ _
            have w199 : Xi T5 904 78 = Xi S 904 78 := (show Xi T5 904 78 = Xi S 904 78 from w156.x _ _ rfl)
            have w200 : -2 ≤ Xi S 904 78 ∧ Xi S 904 78 ≤ 5010 := hH.c _ _
            exact Rl_weak (C83 T5 hHT5 hFT5 (z79) (0) (by omega) (by omega) (by omega) (by omega) (by omega) (by omega) (by omega) (by omega) (by omega) (KQ_FR (by assumption : FR md_mo_need S T5) rfl KQ.rf)) (And.intro rfl (And.intro rfl (And.intro rfl (True.intro))))
          · refine l_iconst rfl ?_
            refine l_goto rfl rfl ?_
            refine l_istore rfl rfl rfl ?_
            have w201 : 0 ≤ Xi T5 904 106 ∧ Xi T5 904 106 ≤ 9 := hHT5.c _ _
            have w202 : Xi T5 904 108 = Xi S 904 108 := (show Xi T5 904 108 = Xi S 904 108 from w156.x _ _ rfl)
            have w203 : 0 ≤ Xi S 904 108 ∧ Xi S 904 108 ≤ 2600 := hH.c _ _
            have w204 : Xi T5 904 117 = Xi S 904 117 := (show Xi T5 904 117 = Xi S 904 117 from w156.x _ _ rfl)
            have w205 : 0 ≤ Xi S 904 117 ∧ Xi S 904 117 ≤ 480 := hH.c _ _
            have w206 : Xi T5 904 69 = Xi S 904 69 := (show Xi T5 904 69 = Xi S 904 69 from w156.x _ _ rfl)
            have w207 : 0 ≤ Xi S 904 69 ∧ Xi S 904 69 ≤ 2600 := hH.c _ _
            have w208 : Xi T5 904 78 = Xi S 904 78 := (show Xi T5 904 78 = Xi S 904 78 from w156.x _ _ rfl)
            have w209 : -2 ≤ Xi S 904 78 ∧ Xi S 904 78 ≤ 5010 := hH.c _ _
            exact Rl_weak (C83 T5 hHT5 hFT5 (z79) (1) (by omega) (by omega) (by omega) (by omega) (by omega) (by omega) (by omega) (by omega) (by omega) (KQ_FR (by assumption : FR md_mo_need S T5) rfl KQ.rf)) (And.intro rfl (And.intro rfl (And.intro rfl (True.intro))))
  refine l_aload_n rfl rfl ?_
  refine l_iconst rfl ?_
  refine l_iconst rfl ?_
  have w210 : 0 ≤ Xi S 904 106 ∧ Xi S 904 106 ≤ 9 := hH.c _ _
  have w211 : 0 ≤ Xi S 904 108 ∧ Xi S 904 108 ≤ 2600 := hH.c _ _
  have w212 : 0 ≤ Xi S 904 117 ∧ Xi S 904 117 ≤ 480 := hH.c _ _
  have w213 : 0 ≤ Xi S 904 69 ∧ Xi S 904 69 ≤ 2600 := hH.c _ _
  have w214 : -2 ≤ Xi S 904 78 ∧ Xi S 904 78 ≤ 5010 := hH.c _ _
  refine l_callV rfl rfl rfl (t_mo_meansRun__2 hH n 1 4 ⟨by omega, by omega⟩ ⟨by omega, by omega⟩ (by first | assumption | exact (TK_FR hF rfl (by assumption : TK S _))) (by first | assumption | exact (RNV_FR hF rfl (by assumption : RNV S _))) (by first | assumption | omega) (by first | assumption | exact (LXM_FR hF rfl (by assumption : LXM S))) _) ?_
  rintro _ _ ⟨rfl, z217, rfl, w217, w215, w216⟩
  show Rl _ _ _ _ _ [iv z217] _ _
  have x3 : z217 ≠ -1 → z217 < Xi S 904 19 := fun q => by have t := (by assumption : z217 ≠ -1 → z217 < cM S 4) q; rw [cM4] at t; exact t
  have r3 : z217 = rnR S 1 4 := (by assumption : z217 = rnR S _ _).trans (rnR_FR hF rfl rfl)
  refine l_istore_n rfl rfl rfl ?_
  refine l_iload_n rfl rfl ?_
  refine l_iconst rfl ?_
  refine l_icmp_eq rfl rfl (by unfold rg; omega) (by unfold rg; omega) (fun w218 => ?_) (fun w219 => ?_)
  · refine l_aload_n rfl rfl ?_
    refine l_iconst rfl ?_
    refine l_iconst rfl ?_
    have w220 : 0 ≤ Xi S 904 106 ∧ Xi S 904 106 ≤ 9 := hH.c _ _
    have w221 : 0 ≤ Xi S 904 108 ∧ Xi S 904 108 ≤ 2600 := hH.c _ _
    have w222 : 0 ≤ Xi S 904 117 ∧ Xi S 904 117 ≤ 480 := hH.c _ _
    have w223 : 0 ≤ Xi S 904 69 ∧ Xi S 904 69 ≤ 2600 := hH.c _ _
    have w224 : -2 ≤ Xi S 904 78 ∧ Xi S 904 78 ≤ 5010 := hH.c _ _
    refine l_callV rfl rfl rfl (t_mo_meansRun__2 hH n 1 0 ⟨by omega, by omega⟩ ⟨by omega, by omega⟩ (by first | assumption | exact (TK_FR hF rfl (by assumption : TK S _))) (by first | assumption | exact (RNV_FR hF rfl (by assumption : RNV S _))) (by first | assumption | omega) (by first | assumption | exact (LXM_FR hF rfl (by assumption : LXM S))) _) ?_
    rintro _ _ ⟨rfl, z227, rfl, w227, w225, w226⟩
    show Rl _ _ _ _ _ [iv z227] _ _
    have x24 : z227 ≠ -1 → z227 < Xi S 904 16 := fun q => by have t := (by assumption : z227 ≠ -1 → z227 < cM S 0) q; rw [cM0] at t; exact t
    have r24 : z227 = rnR S 1 0 := (by assumption : z227 = rnR S _ _).trans (rnR_FR hF rfl rfl)
    refine l_istore_n rfl rfl rfl ?_
    have w228 : 0 ≤ Xi S 904 106 ∧ Xi S 904 106 ≤ 9 := hH.c _ _
    have w229 : 0 ≤ Xi S 904 108 ∧ Xi S 904 108 ≤ 2600 := hH.c _ _
    have w230 : 0 ≤ Xi S 904 117 ∧ Xi S 904 117 ≤ 480 := hH.c _ _
    have w231 : 0 ≤ Xi S 904 69 ∧ Xi S 904 69 ≤ 2600 := hH.c _ _
    have w232 : -2 ≤ Xi S 904 78 ∧ Xi S 904 78 ≤ 5010 := hH.c _ _
    exact Rl_weak (C28 (z227) (by omega) (by omega)) (And.intro rfl (And.intro rfl (True.intro)))
  · refine l_aload_n rfl rfl ?_
    refine l_gfr rfl rfl rfl rfl rfl (hH.r 904 20 918 rfl) ?_
    refine l_iload_n rfl rfl ?_
    refine l_iaload (n := 24) rfl rfl (by omega) (by omega) (by unfold rg; omega) ?_
    have w233 : 0 ≤ (Xi S 918 ((z217).toNat)) ∧ (Xi S 918 ((z217).toNat)) ≤ 15 := hH.c _ _
    refine l_goto rfl rfl ?_
    refine l_istore_n rfl rfl rfl ?_
    have w234 : 0 ≤ Xi S 904 106 ∧ Xi S 904 106 ≤ 9 := hH.c _ _
    have w235 : 0 ≤ Xi S 904 108 ∧ Xi S 904 108 ≤ 2600 := hH.c _ _
    have w236 : 0 ≤ Xi S 904 117 ∧ Xi S 904 117 ≤ 480 := hH.c _ _
    have w237 : 0 ≤ Xi S 904 69 ∧ Xi S 904 69 ≤ 2600 := hH.c _ _
    have w238 : -2 ≤ Xi S 904 78 ∧ Xi S 904 78 ≤ 5010 := hH.c _ _
    exact Rl_weak (C28 ((Xi S 918 ((z217).toNat))) (by omega) (by omega)) (And.intro rfl (And.intro rfl (True.intro)))
def md_mo_phrase : List rec := [(904, 905, 8, 9), (904, 905, 65, 66), (904, 905, 66, 67), (904, 905, 69, 70), (904, 905, 78, 79), (904, 905, 93, 94), (904, 905, 98, 99), (904, 905, 99, 100), (904, 905, 100, 101), (904, 905, 101, 102), (950, 951, 0, 100000), (951, 952, 0, 100000), (952, 953, 0, 100000), (953, 954, 0, 100000), (954, 955, 0, 100000), (955, 956, 0, 100000), (956, 957, 0, 100000), (957, 958, 0, 100000), (958, 959, 0, 100000), (959, 960, 0, 100000), (960, 961, 0, 100000), (961, 962, 0, 100000), (962, 963, 0, 100000), (963, 964, 0, 100000), (964, 965, 0, 100000), (965, 966, 0, 100000)]
abbrev Q_mo_phrase (S : sS) (n : Nat) (c : Nat) : pst := fun r S1 => HI S1 ∧ FR md_mo_phrase S S1 ∧ (r = none ∧ (AT S1 n c) ∧ (Xi S 904 8 ≤ Xi S1 904 8 ∧ (Xi S1 904 8 ≤ n ∨ Xi S1 904 8 = Xi S 904 8)) ∧ (RNV S1 n) ∧ (Xi S1 904 65 = 0 → Xi S 904 65 = 0) ∧ (Xi S 904 69 ≤ Xi S1 904 69) ∧ (KT S1 S (Xi S 904 93)) ∧ (KP S1 S (Xi S 904 98)) ∧ (Xi S1 904 98 = Xi S 904 98 + 1) ∧ (Xi S1 904 65 = 0 → Xi S1 904 93 = Xi S 904 93 + 1) ∧ (Xi S 904 93 ≤ Xi S1 904 93 ∧ Xi S1 904 93 ≤ Xi S 904 93 + 1) ∧ (Xi S1 904 65 = 0 → Xi S1 964 (Xi S 904 98).toNat < Xi S1 904 93 ∧ PV S1 n (Xi S 904 98).toNat))
set_option maxRecDepth 100000 in
set_option maxHeartbeats 12000000 in
theorem t_mo_phrase {S : sS} (hH : HI S) (n : Nat) (c : Nat) (hT : TK S n) (hA : AT S n c) (hv : RNV S n) (hx : Xi S 904 8 ≤ n) (tc : Xi S 904 93 ≤ 1690) (pc : Xi S 904 98 ≤ 1690) (d : Nat) : Mt lay0 (d + 7) m_mo_phrase [.ref 904] S (Q_mo_phrase S n c) := by
  refine Mt_R rfl rfl ?_
  have hF : FR md_mo_phrase S S := FR.rf
  have w1 : 0 ≤ Xi S 904 65 ∧ Xi S 904 65 ≤ 1 := hH.c _ _
  have w2 : 0 ≤ Xi S 904 69 ∧ Xi S 904 69 ≤ 2600 := hH.c _ _
  have w3 : 0 ≤ Xi S 904 8 ∧ Xi S 904 8 ≤ 5010 := hH.c _ _
  have w4 : 0 ≤ Xi S 904 93 ∧ Xi S 904 93 ≤ 1700 := hH.c _ _
  have w5 : 0 ≤ Xi S 904 98 ∧ Xi S 904 98 ≤ 1700 := hH.c _ _
  have hn5 := hT.1
  have hat := hA
  have h8 : 0 ≤ Xi S 904 8 ∧ Xi S 904 8 ≤ 5010 := hH.c _ _
  have h69 : 0 ≤ Xi S 904 69 ∧ Xi S 904 69 ≤ 2600 := hH.c _ _
  have ha0 : Xi S 904 65 = 0 → Xi S 904 8 ≤ n := fun q => (hA q).1
  have ha3 : Xi S 904 65 = 0 → 2 * Xi S 904 69 ≤ Xi S 904 8 + 1 := fun q => (hA q).2.1
  clear hat
  have h93 : 0 ≤ Xi S 904 93 := (hH.c 904 93).1
  have h98 : 0 ≤ Xi S 904 98 := (hH.c 904 98).1
  have C409 : ∀  (T1 : sS) (_ : HI T1) (_ : FR md_mo_phrase S T1), (AT T1 n c) → (RNV T1 n) → (Xi S 904 8 ≤ Xi T1 904 8) → (Xi T1 904 8 ≤ n) → (Xi S 904 93 ≤ Xi T1 904 93 ∧ Xi T1 904 93 ≤ Xi S 904 93 + 1) → (Xi T1 904 65 = 0 → Xi T1 904 93 = Xi S 904 93 + 1) → (Xi S 904 69 ≤ Xi T1 904 69) → (Xi T1 904 65 = 0 → Xi S 904 65 = 0) → (Xi T1 904 98 = Xi S 904 98) → (Xi T1 964 (Xi S 904 98).toNat = Xi S 904 93) → (KT T1 S (Xi S 904 93)) → (KP T1 S (Xi S 904 98)) → (Xi T1 904 65 = 0 → PV T1 n (Xi S 904 98).toNat) → Rl lay0 (d + 6) m_mo_phrase 409 [(0, .ref 904)] [] T1 (Q_mo_phrase S n c) := by
    intro T1 hHT1 hFT1 A409 V409 w6 w7 w8 w9 w10 w11 w12 w13 K409 P409 E409
    have w14 : 0 ≤ Xi T1 904 65 ∧ Xi T1 904 65 ≤ 1 := hHT1.c _ _
    have w15 : 0 ≤ Xi T1 904 69 ∧ Xi T1 904 69 ≤ 2600 := hHT1.c _ _
    have w16 : 0 ≤ Xi T1 904 8 ∧ Xi T1 904 8 ≤ 5010 := hHT1.c _ _
    have w17 : 0 ≤ Xi T1 904 93 ∧ Xi T1 904 93 ≤ 1700 := hHT1.c _ _
    have w18 : 0 ≤ Xi T1 904 98 ∧ Xi T1 904 98 ≤ 1700 := hHT1.c _ _
    refine l_aload_n rfl rfl ?_
    refine l_dup rfl rfl ?_
    refine l_gfi rfl rfl rfl rfl rfl ?_
    refine l_iconst rfl ?_
    refine l_iadd rfl ?_
    refine l_pfi rfl rfl rfl rfl ?_
    obtain ⟨U2, eU2⟩ : ∃ T : sS, T = uI T1 904 98 (Int32.ofInt ((Xi T1 904 98) + 1)) := ⟨_, rfl⟩
    rw [← eU2]
    have hHU2 : HI U2 := by rw [eU2]; exact HI_w hHT1 (show 0 ≤ ((Xi T1 904 98) + 1) by omega) (show ((Xi T1 904 98) + 1) ≤ 1700 by omega)
    have hFU2 : FR md_mo_phrase S U2 := by rw [eU2]; exact FR.wI hFT1 (mdf_i (r := (904, 905, 98, 99)) (List.mem_of_getElem? (i := 6) rfl) (inR_i (by omega) (by omega) (by omega) (by omega)))
    have w19 : Xi U2 904 98 = ((Xi T1 904 98) + 1) := by rw [eU2]; exact Xi_same (by unfold rg; omega)
    have E416 : Xi U2 904 65 = 0 → PV U2 n (Xi S 904 98).toNat := fun q => pv_w (E409 (by rw [eU2, Xi_ne (by omega)] at q; exact q)) eU2 (by omega)
    refine l_aload_n rfl rfl ?_
    refine l_gfi rfl rfl rfl rfl rfl ?_
    have w20 : (Xi U2 904 65) = (Xi T1 904 65) := (show Xi U2 904 65 = Xi T1 904 65 from by rw [eU2]; exact Xi_ne (by omega))
    rw [w20]
    refine l_if_ne rfl rfl (by unfold rg; omega) (fun w21 => ?_) (fun w22 => ?_)
    · refine l_return rfl rfl ?_
      have w23 : Xi U2 963 (Xi S 904 98).toNat = Xi T1 963 (Xi S 904 98).toNat := (show Xi U2 963 (Xi S 904 98).toNat = Xi T1 963 (Xi S 904 98).toNat from by rw [eU2]; exact Xi_ne (by omega))
      have w24 : Xi U2 964 (Xi S 904 98).toNat = Xi T1 964 (Xi S 904 98).toNat := (show Xi U2 964 (Xi S 904 98).toNat = Xi T1 964 (Xi S 904 98).toNat from by rw [eU2]; exact Xi_ne (by omega))
      have w25 : Xi U2 904 65 = Xi T1 904 65 := (show Xi U2 904 65 = Xi T1 904 65 from by rw [eU2]; exact Xi_ne (by omega))
      have w26 : 0 ≤ Xi T1 904 65 ∧ Xi T1 904 65 ≤ 1 := hHT1.c _ _
      have w27 : Xi U2 904 69 = Xi T1 904 69 := (show Xi U2 904 69 = Xi T1 904 69 from by rw [eU2]; exact Xi_ne (by omega))
      have w28 : 0 ≤ Xi T1 904 69 ∧ Xi T1 904 69 ≤ 2600 := hHT1.c _ _
      have w29 : Xi U2 904 8 = Xi T1 904 8 := (show Xi U2 904 8 = Xi T1 904 8 from by rw [eU2]; exact Xi_ne (by omega))
      have w30 : 0 ≤ Xi T1 904 8 ∧ Xi T1 904 8 ≤ 5010 := hHT1.c _ _
      have w31 : Xi U2 904 93 = Xi T1 904 93 := (show Xi U2 904 93 = Xi T1 904 93 from by rw [eU2]; exact Xi_ne (by omega))
      have w32 : 0 ≤ Xi T1 904 93 ∧ Xi T1 904 93 ≤ 1700 := hHT1.c _ _
      have w33 : 0 ≤ Xi U2 904 98 ∧ Xi U2 904 98 ≤ 1700 := hHU2.c _ _
      exact ⟨hHU2, hFU2, rfl, (by first | exact AT_FR (FR_e eU2) rfl A409 | exact AT_bad (by omega)), (by omega), (by first | assumption | exact (RNV_FR (FR_e eU2) rfl (by assumption : RNV T1 _))), (by omega), (by omega), ((KT_FR (FR_e eU2) rfl (by assumption : KT T1 S _))), ((KP.w (by assumption : KP T1 S _) eU2 (by omega))), (by omega), (by omega), (by omega), (by first | exact fun q => ⟨by omega, E416 (by omega)⟩ | exact fun q => absurd q (by omega))⟩
    · refine l_aload_n rfl rfl ?_
      refine l_gfr rfl rfl rfl rfl rfl (hHU2.r 904 4 907 rfl) ?_
      refine l_aload_n rfl rfl ?_
      refine l_gfi rfl rfl rfl rfl rfl ?_
      have w34 : (Xi U2 904 8) = (Xi T1 904 8) := (show Xi U2 904 8 = Xi T1 904 8 from by rw [eU2]; exact Xi_ne (by omega))
      rw [w34]
      refine l_iaload (n := 5002) rfl rfl (by omega) (by omega) (by unfold rg; omega) ?_
      have w35 : 0 ≤ (Xi U2 907 (((Xi T1 904 8)).toNat)) ∧ (Xi U2 907 (((Xi T1 904 8)).toNat)) ≤ 154 := hHU2.c _ _
      refine l_bipush rfl rfl ?_
      refine l_icmp_eq rfl rfl (by unfold rg; omega) (by unfold rg; omega) (fun w36 => ?_) (fun w37 => ?_)
      · refine l_return rfl rfl ?_
        have w38 : Xi U2 963 (Xi S 904 98).toNat = Xi T1 963 (Xi S 904 98).toNat := (show Xi U2 963 (Xi S 904 98).toNat = Xi T1 963 (Xi S 904 98).toNat from by rw [eU2]; exact Xi_ne (by omega))
        have w39 : Xi U2 964 (Xi S 904 98).toNat = Xi T1 964 (Xi S 904 98).toNat := (show Xi U2 964 (Xi S 904 98).toNat = Xi T1 964 (Xi S 904 98).toNat from by rw [eU2]; exact Xi_ne (by omega))
        have w40 : Xi U2 904 65 = Xi T1 904 65 := (show Xi U2 904 65 = Xi T1 904 65 from by rw [eU2]; exact Xi_ne (by omega))
        have w41 : 0 ≤ Xi T1 904 65 ∧ Xi T1 904 65 ≤ 1 := hHT1.c _ _
        have w42 : Xi U2 904 69 = Xi T1 904 69 := (show Xi U2 904 69 = Xi T1 904 69 from by rw [eU2]; exact Xi_ne (by omega))
        have w43 : 0 ≤ Xi T1 904 69 ∧ Xi T1 904 69 ≤ 2600 := hHT1.c _ _
        have w44 : Xi U2 904 8 = Xi T1 904 8 := (show Xi U2 904 8 = Xi T1 904 8 from by rw [eU2]; exact Xi_ne (by omega))
        have w45 : 0 ≤ Xi T1 904 8 ∧ Xi T1 904 8 ≤ 5010 := hHT1.c _ _
        have w46 : Xi U2 904 93 = Xi T1 904 93 := (show Xi U2 904 93 = Xi T1 904 93 from by rw [eU2]; exact Xi_ne (by omega))
        have w47 : 0 ≤ Xi T1 904 93 ∧ Xi T1 904 93 ≤ 1700 := hHT1.c _ _
        have w48 : 0 ≤ Xi U2 904 98 ∧ Xi U2 904 98 ≤ 1700 := hHU2.c _ _
        exact ⟨hHU2, hFU2, rfl, (by first | exact AT_FR (FR_e eU2) rfl A409 | exact AT_bad (by omega)), (by omega), (by first | assumption | exact (RNV_FR (FR_e eU2) rfl (by assumption : RNV T1 _))), (by omega), (by omega), ((KT_FR (FR_e eU2) rfl (by assumption : KT T1 S _))), ((KP.w (by assumption : KP T1 S _) eU2 (by omega))), (by omega), (by omega), (by omega), (by first | exact fun q => ⟨by omega, E416 (by omega)⟩ | exact fun q => absurd q (by omega))⟩
      · refine l_aload_n rfl rfl ?_
        refine l_gfr rfl rfl rfl rfl rfl (hHU2.r 904 4 907 rfl) ?_
        refine l_aload_n rfl rfl ?_
        refine l_gfi rfl rfl rfl rfl rfl ?_
        have w49 : (Xi U2 904 8) = (Xi T1 904 8) := (show Xi U2 904 8 = Xi T1 904 8 from by rw [eU2]; exact Xi_ne (by omega))
        rw [w49]
        refine l_iaload (n := 5002) rfl rfl (by omega) (by omega) (by unfold rg; omega) ?_
        refine l_bipush rfl rfl ?_
        refine l_icmp_eq rfl rfl (by unfold rg; omega) (by unfold rg; omega) (fun w50 => ?_) (fun w51 => ?_)
        · refine l_return rfl rfl ?_
          have w52 : Xi U2 963 (Xi S 904 98).toNat = Xi T1 963 (Xi S 904 98).toNat := (show Xi U2 963 (Xi S 904 98).toNat = Xi T1 963 (Xi S 904 98).toNat from by rw [eU2]; exact Xi_ne (by omega))
          have w53 : Xi U2 964 (Xi S 904 98).toNat = Xi T1 964 (Xi S 904 98).toNat := (show Xi U2 964 (Xi S 904 98).toNat = Xi T1 964 (Xi S 904 98).toNat from by rw [eU2]; exact Xi_ne (by omega))
          have w54 : Xi U2 904 65 = Xi T1 904 65 := (show Xi U2 904 65 = Xi T1 904 65 from by rw [eU2]; exact Xi_ne (by omega))
          have w55 : 0 ≤ Xi T1 904 65 ∧ Xi T1 904 65 ≤ 1 := hHT1.c _ _
          have w56 : Xi U2 904 69 = Xi T1 904 69 := (show Xi U2 904 69 = Xi T1 904 69 from by rw [eU2]; exact Xi_ne (by omega))
          have w57 : 0 ≤ Xi T1 904 69 ∧ Xi T1 904 69 ≤ 2600 := hHT1.c _ _
          have w58 : Xi U2 904 8 = Xi T1 904 8 := (show Xi U2 904 8 = Xi T1 904 8 from by rw [eU2]; exact Xi_ne (by omega))
          have w59 : 0 ≤ Xi T1 904 8 ∧ Xi T1 904 8 ≤ 5010 := hHT1.c _ _
          have w60 : Xi U2 904 93 = Xi T1 904 93 := (show Xi U2 904 93 = Xi T1 904 93 from by rw [eU2]; exact Xi_ne (by omega))
          have w61 : 0 ≤ Xi T1 904 93 ∧ Xi T1 904 93 ≤ 1700 := hHT1.c _ _
          have w62 : 0 ≤ Xi U2 904 98 ∧ Xi U2 904 98 ≤ 1700 := hHU2.c _ _
          exact ⟨hHU2, hFU2, rfl, (by first | exact AT_FR (FR_e eU2) rfl A409 | exact AT_bad (by omega)), (by omega), (by first | assumption | exact (RNV_FR (FR_e eU2) rfl (by assumption : RNV T1 _))), (by omega), (by omega), ((KT_FR (FR_e eU2) rfl (by assumption : KT T1 S _))), ((KP.w (by assumption : KP T1 S _) eU2 (by omega))), (by omega), (by omega), (by omega), (by first | exact fun q => ⟨by omega, E416 (by omega)⟩ | exact fun q => absurd q (by omega))⟩
        · refine l_aload_n rfl rfl ?_
          have w63 : Xi U2 904 65 = Xi T1 904 65 := (show Xi U2 904 65 = Xi T1 904 65 from by rw [eU2]; exact Xi_ne (by omega))
          have w64 : 0 ≤ Xi T1 904 65 ∧ Xi T1 904 65 ≤ 1 := hHT1.c _ _
          have w65 : Xi U2 904 69 = Xi T1 904 69 := (show Xi U2 904 69 = Xi T1 904 69 from by rw [eU2]; exact Xi_ne (by omega))
          have w66 : 0 ≤ Xi T1 904 69 ∧ Xi T1 904 69 ≤ 2600 := hHT1.c _ _
          have w67 : Xi U2 904 8 = Xi T1 904 8 := (show Xi U2 904 8 = Xi T1 904 8 from by rw [eU2]; exact Xi_ne (by omega))
          have w68 : 0 ≤ Xi T1 904 8 ∧ Xi T1 904 8 ≤ 5010 := hHT1.c _ _
          have w69 : Xi U2 904 93 = Xi T1 904 93 := (show Xi U2 904 93 = Xi T1 904 93 from by rw [eU2]; exact Xi_ne (by omega))
          have w70 : 0 ≤ Xi T1 904 93 ∧ Xi T1 904 93 ≤ 1700 := hHT1.c _ _
          have w71 : 0 ≤ Xi U2 904 98 ∧ Xi U2 904 98 ≤ 1700 := hHU2.c _ _
          refine l_callV rfl rfl rfl (t_mo_odd hHU2 _) ?_
          rintro _ T3 ⟨hHT3, w75, rfl, w72, w73⟩
          have hFT3 : FR md_mo_phrase S T3 := FR.tr hFU2 w75 rfl
          show Rl _ _ _ _ _ [] _ _
          have w77 : Xi T3 904 8 = Xi T1 904 8 := (show Xi T3 904 8 = Xi U2 904 8 from w75.x _ _ rfl).trans ((show Xi U2 904 8 = Xi T1 904 8 from by rw [eU2]; exact Xi_ne (by omega)))
          have w78 : 0 ≤ Xi T1 904 8 ∧ Xi T1 904 8 ≤ 5010 := hHT1.c _ _
          have w79 : 0 ≤ Xi T3 904 65 ∧ Xi T3 904 65 ≤ 1 := hHT3.c _ _
          have w80 : Xi T3 904 69 = Xi T1 904 69 := (show Xi T3 904 69 = Xi U2 904 69 from w75.x _ _ rfl).trans ((show Xi U2 904 69 = Xi T1 904 69 from by rw [eU2]; exact Xi_ne (by omega)))
          have w81 : 0 ≤ Xi T1 904 69 ∧ Xi T1 904 69 ≤ 2600 := hHT1.c _ _
          have w82 : Xi T3 904 93 = Xi T1 904 93 := (show Xi T3 904 93 = Xi U2 904 93 from w75.x _ _ rfl).trans ((show Xi U2 904 93 = Xi T1 904 93 from by rw [eU2]; exact Xi_ne (by omega)))
          have w83 : 0 ≤ Xi T1 904 93 ∧ Xi T1 904 93 ≤ 1700 := hHT1.c _ _
          have w76 : Xi S 904 8 ≤ Xi T3 904 8 ∧ Xi T3 904 8 ≤ n ∧ Xi S 904 69 ≤ Xi T3 904 69 ∧ (Xi T3 904 65 = 0 → Xi S 904 65 = 0) := by omega
          clear w73
          refine l_return rfl rfl ?_
          have w84 : Xi T3 963 (Xi S 904 98).toNat = Xi T1 963 (Xi S 904 98).toNat := (show Xi T3 963 (Xi S 904 98).toNat = Xi U2 963 (Xi S 904 98).toNat from (w75.cx 963 rfl _).1).trans ((show Xi U2 963 (Xi S 904 98).toNat = Xi T1 963 (Xi S 904 98).toNat from by rw [eU2]; exact Xi_ne (by omega)))
          have w85 : Xi T3 964 (Xi S 904 98).toNat = Xi T1 964 (Xi S 904 98).toNat := (show Xi T3 964 (Xi S 904 98).toNat = Xi U2 964 (Xi S 904 98).toNat from (w75.cx 964 rfl _).1).trans ((show Xi U2 964 (Xi S 904 98).toNat = Xi T1 964 (Xi S 904 98).toNat from by rw [eU2]; exact Xi_ne (by omega)))
          have w86 : 0 ≤ Xi T3 904 65 ∧ Xi T3 904 65 ≤ 1 := hHT3.c _ _
          have w87 : Xi T3 904 69 = Xi T1 904 69 := (show Xi T3 904 69 = Xi U2 904 69 from w75.x _ _ rfl).trans ((show Xi U2 904 69 = Xi T1 904 69 from by rw [eU2]; exact Xi_ne (by omega)))
          have w88 : 0 ≤ Xi T1 904 69 ∧ Xi T1 904 69 ≤ 2600 := hHT1.c _ _
          have w89 : Xi T3 904 8 = Xi T1 904 8 := (show Xi T3 904 8 = Xi U2 904 8 from w75.x _ _ rfl).trans ((show Xi U2 904 8 = Xi T1 904 8 from by rw [eU2]; exact Xi_ne (by omega)))
          have w90 : 0 ≤ Xi T1 904 8 ∧ Xi T1 904 8 ≤ 5010 := hHT1.c _ _
          have w91 : Xi T3 904 93 = Xi T1 904 93 := (show Xi T3 904 93 = Xi U2 904 93 from w75.x _ _ rfl).trans ((show Xi U2 904 93 = Xi T1 904 93 from by rw [eU2]; exact Xi_ne (by omega)))
          have w92 : 0 ≤ Xi T1 904 93 ∧ Xi T1 904 93 ≤ 1700 := hHT1.c _ _
          have w93 : Xi T3 904 98 = Xi U2 904 98 := (show Xi T3 904 98 = Xi U2 904 98 from w75.x _ _ rfl)
          have w94 : 0 ≤ Xi U2 904 98 ∧ Xi U2 904 98 ≤ 1700 := hHU2.c _ _
          exact ⟨hHT3, hFT3, rfl, (by first | exact AT_FR (FR_e rfl) rfl A409 | exact AT_bad (by omega)), (by omega), (by first | assumption | exact (RNV_FR w75 rfl (RNV_FR (FR_e eU2) rfl (by assumption : RNV T1 _)))), (by omega), (by omega), ((KT_FR w75 rfl (KT_FR (FR_e eU2) rfl (by assumption : KT T1 S _)))), ((KP_FR w75 rfl (KP.w (by assumption : KP T1 S _) eU2 (by omega)))), (by omega), (by omega), (by omega), (by first | exact fun q => ⟨by omega, E416 (by omega)⟩ | exact fun q => absurd q (by omega))⟩
  have C345 : ∀  (T4 : sS) (_ : HI T4) (_ : FR md_mo_phrase S T4), (AT T4 n (c + 1)) → (RNV T4 n) → (Xi S 904 8 ≤ Xi T4 904 8) → (Xi T4 904 8 ≤ n) → (Xi T4 904 93 = Xi S 904 93) → (Xi S 904 69 ≤ Xi T4 904 69) → (Xi T4 904 65 = 0 → Xi S 904 65 = 0) → (Xi T4 904 98 = Xi S 904 98) → (Xi T4 963 (Xi S 904 98).toNat = 5) → (Xi T4 964 (Xi S 904 98).toNat = Xi S 904 93) → (Xi T4 904 65 = 0 → Xi T4 956 (Xi S 904 93).toNat < Xi T4 904 69) → (KT T4 S (Xi S 904 93)) → (KP T4 S (Xi S 904 98)) → Rl lay0 (d + 6) m_mo_phrase 345 [(0, .ref 904)] [] T4 (Q_mo_phrase S n c) := by
    intro T4 hHT4 hFT4 A345 V345 w95 w96 w97 w98 w99 w100 w101 w102 p345 K345 P345
    have w103 : 0 ≤ Xi T4 904 65 ∧ Xi T4 904 65 ≤ 1 := hHT4.c _ _
    have w104 : 0 ≤ Xi T4 904 69 ∧ Xi T4 904 69 ≤ 2600 := hHT4.c _ _
    have w105 : 0 ≤ Xi T4 904 8 ∧ Xi T4 904 8 ≤ 5010 := hHT4.c _ _
    have w106 : 0 ≤ Xi T4 904 93 ∧ Xi T4 904 93 ≤ 1700 := hHT4.c _ _
    have w107 : 0 ≤ Xi T4 904 98 ∧ Xi T4 904 98 ≤ 1700 := hHT4.c _ _
    refine l_aload_n rfl rfl ?_
    refine l_gfr rfl rfl rfl rfl rfl (hHT4.r 904 83 953 rfl) ?_
    refine l_aload_n rfl rfl ?_
    refine l_gfi rfl rfl rfl rfl rfl ?_
    refine l_baload (n := 1700) rfl rfl rfl (by decide) (by omega) (by omega) (by unfold rg; omega) ?_
    have w108 : 0 ≤ (Xi T4 953 (((Xi T4 904 93)).toNat)) ∧ (Xi T4 953 (((Xi T4 904 93)).toNat)) ≤ 1 := hHT4.c _ _
    have e353 : (Xi T4 953 (((Xi T4 904 93)).toNat)) = Xi T4 953 (Xi S 904 93).toNat := by rw [show (Xi S 904 93).toNat = (Xi T4 904 93).toNat by omega]
    refine l_if_eq rfl rfl (by unfold rg; omega) (fun w109 => ?_) (fun w110 => ?_)
    · refine l_aload_n rfl rfl ?_
      refine l_dup rfl rfl ?_
      refine l_gfi rfl rfl rfl rfl rfl ?_
      refine l_iconst rfl ?_
      refine l_iadd rfl ?_
      refine l_pfi rfl rfl rfl rfl ?_
      obtain ⟨U5, eU5⟩ : ∃ T : sS, T = uI T4 904 93 (Int32.ofInt ((Xi T4 904 93) + 1)) := ⟨_, rfl⟩
      rw [← eU5]
      have hHU5 : HI U5 := by rw [eU5]; exact HI_w hHT4 (show 0 ≤ ((Xi T4 904 93) + 1) by omega) (show ((Xi T4 904 93) + 1) ≤ 1700 by omega)
      have hFU5 : FR md_mo_phrase S U5 := by rw [eU5]; exact FR.wI hFT4 (mdf_i (r := (904, 905, 93, 94)) (List.mem_of_getElem? (i := 5) rfl) (inR_i (by omega) (by omega) (by omega) (by omega)))
      have w111 : Xi U5 904 93 = ((Xi T4 904 93) + 1) := by rw [eU5]; exact Xi_same (by unfold rg; omega)
      have a368 : AT U5 n c := at_ct (c := c + 1) (by first | assumption | exact AT_FR (FR_e ) rfl (by assumption) | exact AT_FR (FR_e ) rfl (AT_FR (FR_e ) rfl (by assumption))) eU5 (by omega) (by omega) rfl
      have E368 : Xi U5 904 65 = 0 → PVt U5 n 5 (Xi S 904 93).toNat := by first | exact fun q => (by rw [eU5, Xi_ne (by omega)] at q; exact pvt_w (pvt_5 (p358 q) (fun _ => h358 q)) eU5 (by omega)) | exact fun q => (by rw [eU5, Xi_ne (by omega)] at q; exact pvt_w (pvt_5 (p345 q) (fun y => absurd (by omega) y)) eU5 (by omega))
      refine l_goto rfl rfl ?_
      have w112 : Xi U5 963 (Xi S 904 98).toNat = Xi T4 963 (Xi S 904 98).toNat := (show Xi U5 963 (Xi S 904 98).toNat = Xi T4 963 (Xi S 904 98).toNat from by rw [eU5]; exact Xi_ne (by omega))
      have w113 : Xi U5 964 (Xi S 904 98).toNat = Xi T4 964 (Xi S 904 98).toNat := (show Xi U5 964 (Xi S 904 98).toNat = Xi T4 964 (Xi S 904 98).toNat from by rw [eU5]; exact Xi_ne (by omega))
      have w114 : Xi U5 904 65 = Xi T4 904 65 := (show Xi U5 904 65 = Xi T4 904 65 from by rw [eU5]; exact Xi_ne (by omega))
      have w115 : 0 ≤ Xi T4 904 65 ∧ Xi T4 904 65 ≤ 1 := hHT4.c _ _
      have w116 : Xi U5 904 69 = Xi T4 904 69 := (show Xi U5 904 69 = Xi T4 904 69 from by rw [eU5]; exact Xi_ne (by omega))
      have w117 : 0 ≤ Xi T4 904 69 ∧ Xi T4 904 69 ≤ 2600 := hHT4.c _ _
      have w118 : Xi U5 904 8 = Xi T4 904 8 := (show Xi U5 904 8 = Xi T4 904 8 from by rw [eU5]; exact Xi_ne (by omega))
      have w119 : 0 ≤ Xi T4 904 8 ∧ Xi T4 904 8 ≤ 5010 := hHT4.c _ _
      have w120 : 0 ≤ Xi U5 904 93 ∧ Xi U5 904 93 ≤ 1700 := hHU5.c _ _
      have w121 : Xi U5 904 98 = Xi T4 904 98 := (show Xi U5 904 98 = Xi T4 904 98 from by rw [eU5]; exact Xi_ne (by omega))
      have w122 : 0 ≤ Xi T4 904 98 ∧ Xi T4 904 98 ≤ 1700 := hHT4.c _ _
      exact Rl_weak (C409 U5 hHU5 hFU5  (by first | assumption | exact AT_bad (by omega)) (by first | assumption | exact (RNV_FR (FR_e eU5) rfl (by assumption : RNV T4 _))) (by omega) (by omega) (by omega) (by omega) (by omega) (by omega) (by omega) (by omega) ((KT_FR (FR_e eU5) rfl (by assumption : KT T4 S _))) ((KP.w (by assumption : KP T4 S _) eU5 (by omega))) (by first | exact fun q => pv_i (t := (Xi S 904 93).toNat) (E128 q) (by omega) (by omega) | exact fun q => pv_i (t := (Xi S 904 93).toNat) (E143 q) (by omega) (by omega) | exact fun q => pv_i (t := (Xi S 904 93).toNat) (E212 q) (by omega) (by omega) | exact fun q => pv_i (t := (Xi S 904 93).toNat) (E368 q) (by omega) (by omega) | exact fun q => pv_i (t := (Xi S 904 93).toNat) (E389 q) (by omega) (by omega) | exact fun q => pv_i (t := (Xi S 904 93).toNat) (E275 _ (by omega) q) rfl (by omega) | exact fun q => absurd q (by omega))) (And.intro rfl (True.intro))
    · refine l_aload_n rfl rfl ?_
      have w123 : 0 ≤ Xi T4 904 65 ∧ Xi T4 904 65 ≤ 1 := hHT4.c _ _
      have w124 : 0 ≤ Xi T4 904 69 ∧ Xi T4 904 69 ≤ 2600 := hHT4.c _ _
      have w125 : 0 ≤ Xi T4 904 8 ∧ Xi T4 904 8 ≤ 5010 := hHT4.c _ _
      have w126 : 0 ≤ Xi T4 904 93 ∧ Xi T4 904 93 ≤ 1700 := hHT4.c _ _
      have w127 : 0 ≤ Xi T4 904 98 ∧ Xi T4 904 98 ≤ 1700 := hHT4.c _ _
      refine l_callV rfl rfl rfl (t_mo_thingOfTest hHT4 n (c + 1) (by first | assumption | exact (TK_FR hFT4 rfl (by assumption : TK S _))) (by first | assumption | exact (by assumption : AT T4 _ _)) (by first | assumption | exact (by assumption : RNV T4 _)) (by first | assumption | omega) _) ?_
      rintro _ T6 ⟨hHT6, w134, rfl, w128, w129, w130, kb358, w131, w132, h358_⟩
      have hFT6 : FR md_mo_phrase S T6 := FR.tr hFT4 w134 rfl
      show Rl _ _ _ _ _ [] _ _
      have w136 : 0 ≤ Xi T6 904 8 ∧ Xi T6 904 8 ≤ 5010 := hHT6.c _ _
      have w137 : 0 ≤ Xi T6 904 65 ∧ Xi T6 904 65 ≤ 1 := hHT6.c _ _
      have w138 : 0 ≤ Xi T6 904 69 ∧ Xi T6 904 69 ≤ 2600 := hHT6.c _ _
      have w139 : Xi T6 904 93 = Xi T4 904 93 := (show Xi T6 904 93 = Xi T4 904 93 from w134.x _ _ rfl)
      have w140 : 0 ≤ Xi T4 904 93 ∧ Xi T4 904 93 ≤ 1700 := hHT4.c _ _
      have h358 : Xi T6 904 65 = 0 → THV (Xi T6 904 69) n (Xi T6 954 (Xi S 904 93).toNat) (Xi T6 955 (Xi S 904 93).toNat) := by rw [show (Xi S 904 93).toNat = (Xi T4 904 93).toNat by omega]; exact h358_
      clear h358_
      have p358 : Xi T6 904 65 = 0 → Xi T6 956 (Xi S 904 93).toNat < Xi T6 904 69 := fun q => by have t := p345 (kb358 q); rw [((by assumption : FR md_mo_thingOfTest T4 T6).cx 956 rfl _).1]; omega
      have w135 : Xi S 904 8 ≤ Xi T6 904 8 ∧ Xi T6 904 8 ≤ n ∧ Xi S 904 69 ≤ Xi T6 904 69 ∧ (Xi T6 904 65 = 0 → Xi S 904 65 = 0) := by omega
      clear w129 kb358 w131
      refine l_aload_n rfl rfl ?_
      refine l_dup rfl rfl ?_
      refine l_gfi rfl rfl rfl rfl rfl ?_
      have w141 : (Xi T6 904 93) = (Xi T4 904 93) := (show Xi T6 904 93 = Xi T4 904 93 from w134.x _ _ rfl)
      rw [w141]
      refine l_iconst rfl ?_
      refine l_iadd rfl ?_
      refine l_pfi rfl rfl rfl rfl ?_
      obtain ⟨U7, eU7⟩ : ∃ T : sS, T = uI T6 904 93 (Int32.ofInt ((Xi T4 904 93) + 1)) := ⟨_, rfl⟩
      rw [← eU7]
      have hHU7 : HI U7 := by rw [eU7]; exact HI_w hHT6 (show 0 ≤ ((Xi T4 904 93) + 1) by omega) (show ((Xi T4 904 93) + 1) ≤ 1700 by omega)
      have hFU7 : FR md_mo_phrase S U7 := by rw [eU7]; exact FR.wI hFT6 (mdf_i (r := (904, 905, 93, 94)) (List.mem_of_getElem? (i := 5) rfl) (inR_i (by omega) (by omega) (by omega) (by omega)))
      have w142 : Xi U7 904 93 = ((Xi T4 904 93) + 1) := by rw [eU7]; exact Xi_same (by unfold rg; omega)
      have a368 : AT U7 n c := at_ct (c := c + 1) (by first | assumption | exact AT_FR (FR_e ) rfl (by assumption) | exact AT_FR (FR_e ) rfl (AT_FR (FR_e ) rfl (by assumption))) eU7 (by omega) (by omega) rfl
      have E368 : Xi U7 904 65 = 0 → PVt U7 n 5 (Xi S 904 93).toNat := by first | exact fun q => (by rw [eU7, Xi_ne (by omega)] at q; exact pvt_w (pvt_5 (p358 q) (fun _ => h358 q)) eU7 (by omega)) | exact fun q => (by rw [eU7, Xi_ne (by omega)] at q; exact pvt_w (pvt_5 (p345 q) (fun y => absurd (by omega) y)) eU7 (by omega))
      refine l_goto rfl rfl ?_
      have w143 : Xi U7 963 (Xi S 904 98).toNat = Xi T4 963 (Xi S 904 98).toNat := (show Xi U7 963 (Xi S 904 98).toNat = Xi T6 963 (Xi S 904 98).toNat from by rw [eU7]; exact Xi_ne (by omega)).trans ((show Xi T6 963 (Xi S 904 98).toNat = Xi T4 963 (Xi S 904 98).toNat from (w134.cx 963 rfl _).1))
      have w144 : Xi U7 964 (Xi S 904 98).toNat = Xi T4 964 (Xi S 904 98).toNat := (show Xi U7 964 (Xi S 904 98).toNat = Xi T6 964 (Xi S 904 98).toNat from by rw [eU7]; exact Xi_ne (by omega)).trans ((show Xi T6 964 (Xi S 904 98).toNat = Xi T4 964 (Xi S 904 98).toNat from (w134.cx 964 rfl _).1))
      have w145 : Xi U7 904 65 = Xi T6 904 65 := (show Xi U7 904 65 = Xi T6 904 65 from by rw [eU7]; exact Xi_ne (by omega))
      have w146 : 0 ≤ Xi T6 904 65 ∧ Xi T6 904 65 ≤ 1 := hHT6.c _ _
      have w147 : Xi U7 904 69 = Xi T6 904 69 := (show Xi U7 904 69 = Xi T6 904 69 from by rw [eU7]; exact Xi_ne (by omega))
      have w148 : 0 ≤ Xi T6 904 69 ∧ Xi T6 904 69 ≤ 2600 := hHT6.c _ _
      have w149 : Xi U7 904 8 = Xi T6 904 8 := (show Xi U7 904 8 = Xi T6 904 8 from by rw [eU7]; exact Xi_ne (by omega))
      have w150 : 0 ≤ Xi T6 904 8 ∧ Xi T6 904 8 ≤ 5010 := hHT6.c _ _
      have w151 : 0 ≤ Xi U7 904 93 ∧ Xi U7 904 93 ≤ 1700 := hHU7.c _ _
      have w152 : Xi U7 904 98 = Xi T4 904 98 := (show Xi U7 904 98 = Xi T6 904 98 from by rw [eU7]; exact Xi_ne (by omega)).trans ((show Xi T6 904 98 = Xi T4 904 98 from w134.x _ _ rfl))
      have w153 : 0 ≤ Xi T4 904 98 ∧ Xi T4 904 98 ≤ 1700 := hHT4.c _ _
      exact Rl_weak (C409 U7 hHU7 hFU7  (by first | assumption | exact AT_bad (by omega)) (by first | assumption | exact (RNV_FR (FR_e eU7) rfl (by assumption : RNV T6 _))) (by omega) (by omega) (by omega) (by omega) (by omega) (by omega) (by omega) (by omega) ((KT_FR (FR_e eU7) rfl (KT.tr (by assumption : KT T4 S _) (by assumption : KT T6 T4 _) (by omega)))) ((KP.w (KP_FR w134 rfl (by assumption : KP T4 S _)) eU7 (by omega))) (by first | exact fun q => pv_i (t := (Xi S 904 93).toNat) (E128 q) (by omega) (by omega) | exact fun q => pv_i (t := (Xi S 904 93).toNat) (E143 q) (by omega) (by omega) | exact fun q => pv_i (t := (Xi S 904 93).toNat) (E212 q) (by omega) (by omega) | exact fun q => pv_i (t := (Xi S 904 93).toNat) (E368 q) (by omega) (by omega) | exact fun q => pv_i (t := (Xi S 904 93).toNat) (E389 q) (by omega) (by omega) | exact fun q => pv_i (t := (Xi S 904 93).toNat) (E275 _ (by omega) q) rfl (by omega) | exact fun q => absurd q (by omega))) (And.intro rfl (True.intro))
  refine l_aload_n rfl rfl ?_
  refine l_gfi rfl rfl rfl rfl rfl ?_
  refine l_istore_n rfl rfl rfl ?_
  refine l_aload_n rfl rfl ?_
  refine l_gfr rfl rfl rfl rfl rfl (hH.r 904 97 965 rfl) ?_
  refine l_iload_n rfl rfl ?_
  refine l_aload_n rfl rfl ?_
  refine l_gfi rfl rfl rfl rfl rfl ?_
  refine l_iastore (n := 1700) rfl rfl (by omega) (by omega) (by unfold rg; omega) ?_
  obtain ⟨U8, eU8⟩ : ∃ T : sS, T = uI S 965 (((Xi S 904 98)).toNat) (Int32.ofInt (Xi S 904 8)) := ⟨_, rfl⟩
  rw [← eU8]
  have hHU8 : HI U8 := by rw [eU8]; exact HI_w hH (show 0 ≤ (Xi S 904 8) by omega) (show (Xi S 904 8) ≤ 5010 by omega)
  have hFU8 : FR md_mo_phrase S U8 := by rw [eU8]; exact FR.wI hF (mdf_i (r := (965, 966, 0, 100000)) (List.mem_of_getElem? (i := 25) rfl) (inR_i (by omega) (by omega) (by omega) (by omega)))
  have w154 : Xi U8 965 (((Xi S 904 98)).toNat) = (Xi S 904 8) := by rw [eU8]; exact Xi_same (by unfold rg; omega)
  refine l_aload_n rfl rfl ?_
  refine l_gfr rfl rfl rfl rfl rfl (hHU8.r 904 96 964 rfl) ?_
  refine l_iload_n rfl rfl ?_
  refine l_aload_n rfl rfl ?_
  refine l_gfi rfl rfl rfl rfl rfl ?_
  have w155 : (Xi U8 904 93) = (Xi S 904 93) := (show Xi U8 904 93 = Xi S 904 93 from by rw [eU8]; exact Xi_ne (by omega))
  rw [w155]
  refine l_iastore (n := 1700) rfl rfl (by omega) (by omega) (by unfold rg; omega) ?_
  obtain ⟨U9, eU9⟩ : ∃ T : sS, T = uI U8 964 (((Xi S 904 98)).toNat) (Int32.ofInt (Xi S 904 93)) := ⟨_, rfl⟩
  rw [← eU9]
  have hHU9 : HI U9 := by rw [eU9]; exact HI_w hHU8 (show 0 ≤ (Xi S 904 93) by omega) (show (Xi S 904 93) ≤ 1700 by omega)
  have hFU9 : FR md_mo_phrase S U9 := by rw [eU9]; exact FR.wI hFU8 (mdf_i (r := (964, 965, 0, 100000)) (List.mem_of_getElem? (i := 24) rfl) (inR_i (by omega) (by omega) (by omega) (by omega)))
  have w156 : Xi U9 964 (((Xi S 904 98)).toNat) = (Xi S 904 93) := by rw [eU9]; exact Xi_same (by unfold rg; omega)
  refine l_aload_n rfl rfl ?_
  refine l_gfr rfl rfl rfl rfl rfl (hHU9.r 904 91 961 rfl) ?_
  refine l_aload_n rfl rfl ?_
  refine l_gfi rfl rfl rfl rfl rfl ?_
  have w157 : (Xi U9 904 93) = (Xi S 904 93) := (show Xi U9 904 93 = Xi U8 904 93 from by rw [eU9]; exact Xi_ne (by omega)).trans ((show Xi U8 904 93 = Xi S 904 93 from by rw [eU8]; exact Xi_ne (by omega)))
  rw [w157]
  refine l_aload_n rfl rfl ?_
  refine l_gfi rfl rfl rfl rfl rfl ?_
  have w158 : (Xi U9 904 8) = (Xi S 904 8) := (show Xi U9 904 8 = Xi U8 904 8 from by rw [eU9]; exact Xi_ne (by omega)).trans ((show Xi U8 904 8 = Xi S 904 8 from by rw [eU8]; exact Xi_ne (by omega)))
  rw [w158]
  refine l_iastore (n := 1700) rfl rfl (by omega) (by omega) (by unfold rg; omega) ?_
  obtain ⟨U10, eU10⟩ : ∃ T : sS, T = uI U9 961 (((Xi S 904 93)).toNat) (Int32.ofInt (Xi S 904 8)) := ⟨_, rfl⟩
  rw [← eU10]
  have hHU10 : HI U10 := by rw [eU10]; exact HI_w hHU9 (show 0 ≤ (Xi S 904 8) by omega) (show (Xi S 904 8) ≤ 5010 by omega)
  have hFU10 : FR md_mo_phrase S U10 := by rw [eU10]; exact FR.wI hFU9 (mdf_i (r := (961, 962, 0, 100000)) (List.mem_of_getElem? (i := 21) rfl) (inR_i (by omega) (by omega) (by omega) (by omega)))
  have w159 : Xi U10 961 (((Xi S 904 93)).toNat) = (Xi S 904 8) := by rw [eU10]; exact Xi_same (by unfold rg; omega)
  refine l_aload_n rfl rfl ?_
  have w160 : Xi U10 904 65 = Xi S 904 65 := (show Xi U10 904 65 = Xi U9 904 65 from by rw [eU10]; exact Xi_ne (by omega)).trans ( (show Xi U9 904 65 = Xi U8 904 65 from by rw [eU9]; exact Xi_ne (by omega)).trans ((show Xi U8 904 65 = Xi S 904 65 from by rw [eU8]; exact Xi_ne (by omega))))
  have w161 : 0 ≤ Xi S 904 65 ∧ Xi S 904 65 ≤ 1 := hH.c _ _
  have w162 : Xi U10 904 69 = Xi S 904 69 := (show Xi U10 904 69 = Xi U9 904 69 from by rw [eU10]; exact Xi_ne (by omega)).trans ( (show Xi U9 904 69 = Xi U8 904 69 from by rw [eU9]; exact Xi_ne (by omega)).trans ((show Xi U8 904 69 = Xi S 904 69 from by rw [eU8]; exact Xi_ne (by omega))))
  have w163 : 0 ≤ Xi S 904 69 ∧ Xi S 904 69 ≤ 2600 := hH.c _ _
  have w164 : Xi U10 904 8 = Xi S 904 8 := (show Xi U10 904 8 = Xi U9 904 8 from by rw [eU10]; exact Xi_ne (by omega)).trans ( (show Xi U9 904 8 = Xi U8 904 8 from by rw [eU9]; exact Xi_ne (by omega)).trans ((show Xi U8 904 8 = Xi S 904 8 from by rw [eU8]; exact Xi_ne (by omega))))
  have w165 : 0 ≤ Xi S 904 8 ∧ Xi S 904 8 ≤ 5010 := hH.c _ _
  have w166 : Xi U10 904 93 = Xi S 904 93 := (show Xi U10 904 93 = Xi U9 904 93 from by rw [eU10]; exact Xi_ne (by omega)).trans ( (show Xi U9 904 93 = Xi U8 904 93 from by rw [eU9]; exact Xi_ne (by omega)).trans ((show Xi U8 904 93 = Xi S 904 93 from by rw [eU8]; exact Xi_ne (by omega))))
  have w167 : 0 ≤ Xi S 904 93 ∧ Xi S 904 93 ≤ 1700 := hH.c _ _
  have w168 : Xi U10 904 98 = Xi S 904 98 := (show Xi U10 904 98 = Xi U9 904 98 from by rw [eU10]; exact Xi_ne (by omega)).trans ( (show Xi U9 904 98 = Xi U8 904 98 from by rw [eU9]; exact Xi_ne (by omega)).trans ((show Xi U8 904 98 = Xi S 904 98 from by rw [eU8]; exact Xi_ne (by omega))))
  have w169 : 0 ≤ Xi S 904 98 ∧ Xi S 904 98 ≤ 1700 := hH.c _ _
  refine l_callV rfl rfl rfl (t_mo_look hHU10 n c (by first | assumption | exact (TK_FR hFU10 rfl (by assumption : TK S _))) (by first | assumption | exact (AT_FR (FR_e eU10) rfl (AT_FR (FR_e eU9) rfl (AT_FR (FR_e eU8) rfl (by assumption : AT S _ _))))) _) ?_
  rintro _ _ ⟨rfl, z171, rfl, w171, w170⟩
  show Rl _ _ _ _ _ [iv z171] _ _
  have l39 : z171 ≠ 1 → Xi S 904 65 = 0 ∧ Xi S 907 (Xi S 904 8).toNat = z171 := fun q => by have t := (by assumption : z171 ≠ 1 → Xi U10 904 65 = 0 ∧ Xi U10 907 (Xi U10 904 8).toNat = z171) q; rw [show Xi U10 904 8 = Xi S 904 8 by omega, (hFU10.cx 907 rfl _).1] at t; exact ⟨by omega, t.2⟩
  refine l_istore_n rfl rfl rfl ?_
  refine l_aload_n rfl rfl ?_
  refine l_dup rfl rfl ?_
  refine l_gfi rfl rfl rfl rfl rfl ?_
  have w172 : (Xi U10 904 8) = (Xi S 904 8) := (show Xi U10 904 8 = Xi U9 904 8 from by rw [eU10]; exact Xi_ne (by omega)).trans ( (show Xi U9 904 8 = Xi U8 904 8 from by rw [eU9]; exact Xi_ne (by omega)).trans ((show Xi U8 904 8 = Xi S 904 8 from by rw [eU8]; exact Xi_ne (by omega))))
  rw [w172]
  refine l_iconst rfl ?_
  refine l_iadd rfl ?_
  refine l_pfi rfl rfl rfl rfl ?_
  obtain ⟨U11, eU11⟩ : ∃ T : sS, T = uI U10 904 8 (Int32.ofInt ((Xi S 904 8) + 1)) := ⟨_, rfl⟩
  rw [← eU11]
  have hHU11 : HI U11 := by rw [eU11]; exact HI_w hHU10 (show 0 ≤ ((Xi S 904 8) + 1) by omega) (show ((Xi S 904 8) + 1) ≤ 5010 by omega)
  have hFU11 : FR md_mo_phrase S U11 := by rw [eU11]; exact FR.wI hFU10 (mdf_i (r := (904, 905, 8, 9)) (List.mem_of_getElem? (i := 0) rfl) (inR_i (by omega) (by omega) (by omega) (by omega)))
  have w173 : Xi U11 904 8 = ((Xi S 904 8) + 1) := by rw [eU11]; exact Xi_same (by unfold rg; omega)
  refine l_iload_n rfl rfl ?_
  refine l_tsw rfl rfl rfl rfl (by unfold rg; omega) (fun w174 => ?_) (fun ii tt hii w174 => ?_)
  · refine l_aload_n rfl rfl ?_
    refine l_dup rfl rfl ?_
    refine l_gfi rfl rfl rfl rfl rfl ?_
    refine l_iconst rfl ?_
    refine l_isub rfl ?_
    refine l_pfi rfl rfl rfl rfl ?_
    obtain ⟨U12, eU12⟩ : ∃ T : sS, T = uI U11 904 8 (Int32.ofInt ((Xi U11 904 8) - 1)) := ⟨_, rfl⟩
    rw [← eU12]
    have hHU12 : HI U12 := by rw [eU12]; exact HI_w hHU11 (show 0 ≤ ((Xi U11 904 8) - 1) by omega) (show ((Xi U11 904 8) - 1) ≤ 5010 by omega)
    have hFU12 : FR md_mo_phrase S U12 := by rw [eU12]; exact FR.wI hFU11 (mdf_i (r := (904, 905, 8, 9)) (List.mem_of_getElem? (i := 0) rfl) (inR_i (by omega) (by omega) (by omega) (by omega)))
    have w175 : Xi U12 904 8 = ((Xi U11 904 8) - 1) := by rw [eU12]; exact Xi_same (by unfold rg; omega)
    refine l_aload_n rfl rfl ?_
    have w176 : Xi U12 904 65 = Xi S 904 65 := (show Xi U12 904 65 = Xi U11 904 65 from by rw [eU12]; exact Xi_ne (by omega)).trans ( (show Xi U11 904 65 = Xi U10 904 65 from by rw [eU11]; exact Xi_ne (by omega)).trans ( (show Xi U10 904 65 = Xi U9 904 65 from by rw [eU10]; exact Xi_ne (by omega)).trans ( (show Xi U9 904 65 = Xi U8 904 65 from by rw [eU9]; exact Xi_ne (by omega)).trans ((show Xi U8 904 65 = Xi S 904 65 from by rw [eU8]; exact Xi_ne (by omega))))))
    have w177 : 0 ≤ Xi S 904 65 ∧ Xi S 904 65 ≤ 1 := hH.c _ _
    have w178 : Xi U12 904 69 = Xi S 904 69 := (show Xi U12 904 69 = Xi U11 904 69 from by rw [eU12]; exact Xi_ne (by omega)).trans ( (show Xi U11 904 69 = Xi U10 904 69 from by rw [eU11]; exact Xi_ne (by omega)).trans ( (show Xi U10 904 69 = Xi U9 904 69 from by rw [eU10]; exact Xi_ne (by omega)).trans ( (show Xi U9 904 69 = Xi U8 904 69 from by rw [eU9]; exact Xi_ne (by omega)).trans ((show Xi U8 904 69 = Xi S 904 69 from by rw [eU8]; exact Xi_ne (by omega))))))
    have w179 : 0 ≤ Xi S 904 69 ∧ Xi S 904 69 ≤ 2600 := hH.c _ _
    have w180 : 0 ≤ Xi U12 904 8 ∧ Xi U12 904 8 ≤ 5010 := hHU12.c _ _
    have w181 : Xi U12 904 93 = Xi S 904 93 := (show Xi U12 904 93 = Xi U11 904 93 from by rw [eU12]; exact Xi_ne (by omega)).trans ( (show Xi U11 904 93 = Xi U10 904 93 from by rw [eU11]; exact Xi_ne (by omega)).trans ( (show Xi U10 904 93 = Xi U9 904 93 from by rw [eU10]; exact Xi_ne (by omega)).trans ( (show Xi U9 904 93 = Xi U8 904 93 from by rw [eU9]; exact Xi_ne (by omega)).trans ((show Xi U8 904 93 = Xi S 904 93 from by rw [eU8]; exact Xi_ne (by omega))))))
    have w182 : 0 ≤ Xi S 904 93 ∧ Xi S 904 93 ≤ 1700 := hH.c _ _
    have w183 : Xi U12 904 98 = Xi S 904 98 := (show Xi U12 904 98 = Xi U11 904 98 from by rw [eU12]; exact Xi_ne (by omega)).trans ( (show Xi U11 904 98 = Xi U10 904 98 from by rw [eU11]; exact Xi_ne (by omega)).trans ( (show Xi U10 904 98 = Xi U9 904 98 from by rw [eU10]; exact Xi_ne (by omega)).trans ( (show Xi U9 904 98 = Xi U8 904 98 from by rw [eU9]; exact Xi_ne (by omega)).trans ((show Xi U8 904 98 = Xi S 904 98 from by rw [eU8]; exact Xi_ne (by omega))))))
    have w184 : 0 ≤ Xi S 904 98 ∧ Xi S 904 98 ≤ 1700 := hH.c _ _
    refine l_callV rfl rfl rfl (t_mo_odd hHU12 _) ?_
    rintro _ T13 ⟨hHT13, w188, rfl, w185, w186⟩
    have hFT13 : FR md_mo_phrase S T13 := FR.tr hFU12 w188 rfl
    show Rl _ _ _ _ _ [] _ _
    have w190 : Xi T13 904 8 = Xi U12 904 8 := (show Xi T13 904 8 = Xi U12 904 8 from w188.x _ _ rfl)
    have w191 : 0 ≤ Xi U12 904 8 ∧ Xi U12 904 8 ≤ 5010 := hHU12.c _ _
    have w192 : 0 ≤ Xi T13 904 65 ∧ Xi T13 904 65 ≤ 1 := hHT13.c _ _
    have w193 : Xi T13 904 69 = Xi S 904 69 := (show Xi T13 904 69 = Xi U12 904 69 from w188.x _ _ rfl).trans ( (show Xi U12 904 69 = Xi U11 904 69 from by rw [eU12]; exact Xi_ne (by omega)).trans ( (show Xi U11 904 69 = Xi U10 904 69 from by rw [eU11]; exact Xi_ne (by omega)).trans ( (show Xi U10 904 69 = Xi U9 904 69 from by rw [eU10]; exact Xi_ne (by omega)).trans ( (show Xi U9 904 69 = Xi U8 904 69 from by rw [eU9]; exact Xi_ne (by omega)).trans ((show Xi U8 904 69 = Xi S 904 69 from by rw [eU8]; exact Xi_ne (by omega)))))))
    have w194 : 0 ≤ Xi S 904 69 ∧ Xi S 904 69 ≤ 2600 := hH.c _ _
    have w195 : Xi T13 904 93 = Xi S 904 93 := (show Xi T13 904 93 = Xi U12 904 93 from w188.x _ _ rfl).trans ( (show Xi U12 904 93 = Xi U11 904 93 from by rw [eU12]; exact Xi_ne (by omega)).trans ( (show Xi U11 904 93 = Xi U10 904 93 from by rw [eU11]; exact Xi_ne (by omega)).trans ( (show Xi U10 904 93 = Xi U9 904 93 from by rw [eU10]; exact Xi_ne (by omega)).trans ( (show Xi U9 904 93 = Xi U8 904 93 from by rw [eU9]; exact Xi_ne (by omega)).trans ((show Xi U8 904 93 = Xi S 904 93 from by rw [eU8]; exact Xi_ne (by omega)))))))
    have w196 : 0 ≤ Xi S 904 93 ∧ Xi S 904 93 ≤ 1700 := hH.c _ _
    have w189 : Xi S 904 8 ≤ Xi T13 904 8 ∧ Xi T13 904 8 ≤ n ∧ Xi S 904 69 ≤ Xi T13 904 69 ∧ (Xi T13 904 65 = 0 → Xi S 904 65 = 0) := by omega
    clear w186
    have w197 : Xi T13 963 (Xi S 904 98).toNat = Xi S 963 (Xi S 904 98).toNat := (show Xi T13 963 (Xi S 904 98).toNat = Xi U12 963 (Xi S 904 98).toNat from (w188.cx 963 rfl _).1).trans ( (show Xi U12 963 (Xi S 904 98).toNat = Xi U11 963 (Xi S 904 98).toNat from by rw [eU12]; exact Xi_ne (by omega)).trans ( (show Xi U11 963 (Xi S 904 98).toNat = Xi U10 963 (Xi S 904 98).toNat from by rw [eU11]; exact Xi_ne (by omega)).trans ( (show Xi U10 963 (Xi S 904 98).toNat = Xi U9 963 (Xi S 904 98).toNat from by rw [eU10]; exact Xi_ne (by omega)).trans ( (show Xi U9 963 (Xi S 904 98).toNat = Xi U8 963 (Xi S 904 98).toNat from by rw [eU9]; exact Xi_ne (by omega)).trans ((show Xi U8 963 (Xi S 904 98).toNat = Xi S 963 (Xi S 904 98).toNat from by rw [eU8]; exact Xi_ne (by omega)))))))
    have w198 : Xi T13 964 (Xi S 904 98).toNat = Xi U9 964 (Xi S 904 98).toNat := (show Xi T13 964 (Xi S 904 98).toNat = Xi U12 964 (Xi S 904 98).toNat from (w188.cx 964 rfl _).1).trans ( (show Xi U12 964 (Xi S 904 98).toNat = Xi U11 964 (Xi S 904 98).toNat from by rw [eU12]; exact Xi_ne (by omega)).trans ( (show Xi U11 964 (Xi S 904 98).toNat = Xi U10 964 (Xi S 904 98).toNat from by rw [eU11]; exact Xi_ne (by omega)).trans ((show Xi U10 964 (Xi S 904 98).toNat = Xi U9 964 (Xi S 904 98).toNat from by rw [eU10]; exact Xi_ne (by omega)))))
    have w199 : 0 ≤ Xi T13 904 65 ∧ Xi T13 904 65 ≤ 1 := hHT13.c _ _
    have w200 : Xi T13 904 69 = Xi S 904 69 := (show Xi T13 904 69 = Xi U12 904 69 from w188.x _ _ rfl).trans ( (show Xi U12 904 69 = Xi U11 904 69 from by rw [eU12]; exact Xi_ne (by omega)).trans ( (show Xi U11 904 69 = Xi U10 904 69 from by rw [eU11]; exact Xi_ne (by omega)).trans ( (show Xi U10 904 69 = Xi U9 904 69 from by rw [eU10]; exact Xi_ne (by omega)).trans ( (show Xi U9 904 69 = Xi U8 904 69 from by rw [eU9]; exact Xi_ne (by omega)).trans ((show Xi U8 904 69 = Xi S 904 69 from by rw [eU8]; exact Xi_ne (by omega)))))))
    have w201 : 0 ≤ Xi S 904 69 ∧ Xi S 904 69 ≤ 2600 := hH.c _ _
    have w202 : Xi T13 904 8 = Xi U12 904 8 := (show Xi T13 904 8 = Xi U12 904 8 from w188.x _ _ rfl)
    have w203 : 0 ≤ Xi U12 904 8 ∧ Xi U12 904 8 ≤ 5010 := hHU12.c _ _
    have w204 : Xi T13 904 93 = Xi S 904 93 := (show Xi T13 904 93 = Xi U12 904 93 from w188.x _ _ rfl).trans ( (show Xi U12 904 93 = Xi U11 904 93 from by rw [eU12]; exact Xi_ne (by omega)).trans ( (show Xi U11 904 93 = Xi U10 904 93 from by rw [eU11]; exact Xi_ne (by omega)).trans ( (show Xi U10 904 93 = Xi U9 904 93 from by rw [eU10]; exact Xi_ne (by omega)).trans ( (show Xi U9 904 93 = Xi U8 904 93 from by rw [eU9]; exact Xi_ne (by omega)).trans ((show Xi U8 904 93 = Xi S 904 93 from by rw [eU8]; exact Xi_ne (by omega)))))))
    have w205 : 0 ≤ Xi S 904 93 ∧ Xi S 904 93 ≤ 1700 := hH.c _ _
    have w206 : Xi T13 904 98 = Xi S 904 98 := (show Xi T13 904 98 = Xi U12 904 98 from w188.x _ _ rfl).trans ( (show Xi U12 904 98 = Xi U11 904 98 from by rw [eU12]; exact Xi_ne (by omega)).trans ( (show Xi U11 904 98 = Xi U10 904 98 from by rw [eU11]; exact Xi_ne (by omega)).trans ( (show Xi U10 904 98 = Xi U9 904 98 from by rw [eU10]; exact Xi_ne (by omega)).trans ( (show Xi U9 904 98 = Xi U8 904 98 from by rw [eU9]; exact Xi_ne (by omega)).trans ((show Xi U8 904 98 = Xi S 904 98 from by rw [eU8]; exact Xi_ne (by omega)))))))
    have w207 : 0 ≤ Xi S 904 98 ∧ Xi S 904 98 ≤ 1700 := hH.c _ _
    exact Rl_weak (C409 T13 hHT13 hFT13  (by first | assumption | exact AT_bad (by omega)) (by first | assumption | exact (RNV_FR w188 rfl (RNV_FR (FR_e eU12) rfl (RNV_FR (FR_e eU11) rfl (RNV_FR (FR_e eU10) rfl (RNV_FR (FR_e eU9) rfl (RNV_FR (FR_e eU8) rfl (by assumption : RNV S _)))))))) (by omega) (by omega) (by omega) (by omega) (by omega) (by omega) (by omega) (by omega) ((KT_FR w188 rfl (KT_FR (FR_e eU12) rfl (KT_FR (FR_e eU11) rfl (KT.w (KT_FR (FR_e eU9) rfl (KT_FR (FR_e eU8) rfl KT.rf)) eU10 (by omega)))))) ((KP_FR w188 rfl (KP.w (KP.w (KP.w (KP.w (KP.w KP.rf eU8 (by omega)) eU9 (by omega)) eU10 (by omega)) eU11 (by omega)) eU12 (by omega)))) (by first | exact fun q => pv_i (t := (Xi S 904 93).toNat) (E128 q) (by omega) (by omega) | exact fun q => pv_i (t := (Xi S 904 93).toNat) (E143 q) (by omega) (by omega) | exact fun q => pv_i (t := (Xi S 904 93).toNat) (E212 q) (by omega) (by omega) | exact fun q => pv_i (t := (Xi S 904 93).toNat) (E368 q) (by omega) (by omega) | exact fun q => pv_i (t := (Xi S 904 93).toNat) (E389 q) (by omega) (by omega) | exact fun q => pv_i (t := (Xi S 904 93).toNat) (E275 _ (by omega) q) rfl (by omega) | exact fun q => absurd q (by omega))) (And.intro rfl (True.intro))
  · match ii, hii with
    | 0, hii =>
      cases hii
      have w208 : z171 = 143 := by simpa using w174
      refine l_aload_n rfl rfl ?_
      have t96 : AT U11 n (c + 1) ∧ _ := at_mv (c2 := c + 1) hT hA (fun j => (hFU10.cx 907 rfl j).1) (fun j => (hFU10.cx 908 rfl j).1) (by omega) (by omega) (by omega) (by omega) eU11 (by omega) (by omega) (by omega) (by omega) (Or.inr ⟨rfl, by unfold K3; omega⟩)
      have a96 : AT U11 n (c + 1) := t96.1
      have l96 := t96.2
      clear t96 l39
      refine l_gfr rfl rfl rfl rfl rfl (hHU11.r 904 95 963 rfl) ?_
      refine l_iload_n rfl rfl ?_
      refine l_iconst rfl ?_
      refine l_iastore (n := 1700) rfl rfl (by omega) (by omega) (by unfold rg; omega) ?_
      obtain ⟨U14, eU14⟩ : ∃ T : sS, T = uI U11 963 (((Xi S 904 98)).toNat) (Int32.ofInt 0) := ⟨_, rfl⟩
      rw [← eU14]
      have hHU14 : HI U14 := by rw [eU14]; exact HI_w hHU11 (show 0 ≤ 0 by omega) (show 0 ≤ 6 by omega)
      have hFU14 : FR md_mo_phrase S U14 := by rw [eU14]; exact FR.wI hFU11 (mdf_i (r := (963, 964, 0, 100000)) (List.mem_of_getElem? (i := 23) rfl) (inR_i (by omega) (by omega) (by omega) (by omega)))
      have w209 : Xi U14 963 (((Xi S 904 98)).toNat) = 0 := by rw [eU14]; exact Xi_same (by unfold rg; omega)
      refine l_aload_n rfl rfl ?_
      refine l_gfr rfl rfl rfl rfl rfl (hHU14.r 904 87 957 rfl) ?_
      refine l_aload_n rfl rfl ?_
      refine l_gfi rfl rfl rfl rfl rfl ?_
      have w210 : (Xi U14 904 93) = (Xi S 904 93) := (show Xi U14 904 93 = Xi U11 904 93 from by rw [eU14]; exact Xi_ne (by omega)).trans ( (show Xi U11 904 93 = Xi U10 904 93 from by rw [eU11]; exact Xi_ne (by omega)).trans ( (show Xi U10 904 93 = Xi U9 904 93 from by rw [eU10]; exact Xi_ne (by omega)).trans ( (show Xi U9 904 93 = Xi U8 904 93 from by rw [eU9]; exact Xi_ne (by omega)).trans ((show Xi U8 904 93 = Xi S 904 93 from by rw [eU8]; exact Xi_ne (by omega))))))
      rw [w210]
      refine l_aload_n rfl rfl ?_
      refine l_gfi rfl rfl rfl rfl rfl ?_
      have w211 : (Xi U14 904 8) = (Xi U11 904 8) := (show Xi U14 904 8 = Xi U11 904 8 from by rw [eU14]; exact Xi_ne (by omega))
      rw [w211]
      refine l_iastore (n := 1700) rfl rfl (by omega) (by omega) (by unfold rg; omega) ?_
      obtain ⟨U15, eU15⟩ : ∃ T : sS, T = uI U14 957 (((Xi S 904 93)).toNat) (Int32.ofInt (Xi U11 904 8)) := ⟨_, rfl⟩
      rw [← eU15]
      have hHU15 : HI U15 := by rw [eU15]; exact HI_w hHU14 (show 0 ≤ (Xi U11 904 8) by omega) (show (Xi U11 904 8) ≤ 5010 by omega)
      have hFU15 : FR md_mo_phrase S U15 := by rw [eU15]; exact FR.wI hFU14 (mdf_i (r := (957, 958, 0, 100000)) (List.mem_of_getElem? (i := 17) rfl) (inR_i (by omega) (by omega) (by omega) (by omega)))
      have w212 : Xi U15 957 (((Xi S 904 93)).toNat) = (Xi U11 904 8) := by rw [eU15]; exact Xi_same (by unfold rg; omega)
      have m115 : Xi U15 957 (Xi S 904 93).toNat = Xi U15 904 8 := by have t : Xi U15 904 8 = Xi U14 904 8 := (by rw [eU15, Xi_ne (by omega)]); omega
      refine l_aload_n rfl rfl ?_
      refine l_iconst rfl ?_
      have w213 : Xi U15 904 65 = Xi S 904 65 := (show Xi U15 904 65 = Xi U14 904 65 from by rw [eU15]; exact Xi_ne (by omega)).trans ( (show Xi U14 904 65 = Xi U11 904 65 from by rw [eU14]; exact Xi_ne (by omega)).trans ( (show Xi U11 904 65 = Xi U10 904 65 from by rw [eU11]; exact Xi_ne (by omega)).trans ( (show Xi U10 904 65 = Xi U9 904 65 from by rw [eU10]; exact Xi_ne (by omega)).trans ( (show Xi U9 904 65 = Xi U8 904 65 from by rw [eU9]; exact Xi_ne (by omega)).trans ((show Xi U8 904 65 = Xi S 904 65 from by rw [eU8]; exact Xi_ne (by omega)))))))
      have w214 : 0 ≤ Xi S 904 65 ∧ Xi S 904 65 ≤ 1 := hH.c _ _
      have w215 : Xi U15 904 69 = Xi S 904 69 := (show Xi U15 904 69 = Xi U14 904 69 from by rw [eU15]; exact Xi_ne (by omega)).trans ( (show Xi U14 904 69 = Xi U11 904 69 from by rw [eU14]; exact Xi_ne (by omega)).trans ( (show Xi U11 904 69 = Xi U10 904 69 from by rw [eU11]; exact Xi_ne (by omega)).trans ( (show Xi U10 904 69 = Xi U9 904 69 from by rw [eU10]; exact Xi_ne (by omega)).trans ( (show Xi U9 904 69 = Xi U8 904 69 from by rw [eU9]; exact Xi_ne (by omega)).trans ((show Xi U8 904 69 = Xi S 904 69 from by rw [eU8]; exact Xi_ne (by omega)))))))
      have w216 : 0 ≤ Xi S 904 69 ∧ Xi S 904 69 ≤ 2600 := hH.c _ _
      have w217 : Xi U15 904 8 = Xi U11 904 8 := (show Xi U15 904 8 = Xi U14 904 8 from by rw [eU15]; exact Xi_ne (by omega)).trans ((show Xi U14 904 8 = Xi U11 904 8 from by rw [eU14]; exact Xi_ne (by omega)))
      have w218 : 0 ≤ Xi U11 904 8 ∧ Xi U11 904 8 ≤ 5010 := hHU11.c _ _
      have w219 : Xi U15 904 93 = Xi S 904 93 := (show Xi U15 904 93 = Xi U14 904 93 from by rw [eU15]; exact Xi_ne (by omega)).trans ( (show Xi U14 904 93 = Xi U11 904 93 from by rw [eU14]; exact Xi_ne (by omega)).trans ( (show Xi U11 904 93 = Xi U10 904 93 from by rw [eU11]; exact Xi_ne (by omega)).trans ( (show Xi U10 904 93 = Xi U9 904 93 from by rw [eU10]; exact Xi_ne (by omega)).trans ( (show Xi U9 904 93 = Xi U8 904 93 from by rw [eU9]; exact Xi_ne (by omega)).trans ((show Xi U8 904 93 = Xi S 904 93 from by rw [eU8]; exact Xi_ne (by omega)))))))
      have w220 : 0 ≤ Xi S 904 93 ∧ Xi S 904 93 ≤ 1700 := hH.c _ _
      have w221 : Xi U15 904 98 = Xi S 904 98 := (show Xi U15 904 98 = Xi U14 904 98 from by rw [eU15]; exact Xi_ne (by omega)).trans ( (show Xi U14 904 98 = Xi U11 904 98 from by rw [eU14]; exact Xi_ne (by omega)).trans ( (show Xi U11 904 98 = Xi U10 904 98 from by rw [eU11]; exact Xi_ne (by omega)).trans ( (show Xi U10 904 98 = Xi U9 904 98 from by rw [eU10]; exact Xi_ne (by omega)).trans ( (show Xi U9 904 98 = Xi U8 904 98 from by rw [eU9]; exact Xi_ne (by omega)).trans ((show Xi U8 904 98 = Xi S 904 98 from by rw [eU8]; exact Xi_ne (by omega)))))))
      have w222 : 0 ≤ Xi S 904 98 ∧ Xi S 904 98 ≤ 1700 := hH.c _ _
      refine l_callV rfl rfl rfl (t_mo_take__2 hHU15 n (c + 1) 5 ⟨by omega, by omega⟩ (by first | assumption | exact (TK_FR hFU15 rfl (by assumption : TK S _))) (by first | assumption | exact (AT_FR (FR_e eU15) rfl (AT_FR (FR_e eU14) rfl (by assumption : AT U11 _ _)))) (by first | assumption | omega) _) ?_
      rintro _ T16 ⟨hHT16, w228, rfl, w223, w224, w225, w226⟩
      have hFT16 : FR md_mo_phrase S T16 := FR.tr hFU15 w228 rfl
      show Rl _ _ _ _ _ [] _ _
      have w230 : 0 ≤ Xi T16 904 8 ∧ Xi T16 904 8 ≤ 5010 := hHT16.c _ _
      have w231 : 0 ≤ Xi T16 904 65 ∧ Xi T16 904 65 ≤ 1 := hHT16.c _ _
      have w232 : Xi T16 904 69 = Xi S 904 69 := (show Xi T16 904 69 = Xi U15 904 69 from w228.x _ _ rfl).trans ( (show Xi U15 904 69 = Xi U14 904 69 from by rw [eU15]; exact Xi_ne (by omega)).trans ( (show Xi U14 904 69 = Xi U11 904 69 from by rw [eU14]; exact Xi_ne (by omega)).trans ( (show Xi U11 904 69 = Xi U10 904 69 from by rw [eU11]; exact Xi_ne (by omega)).trans ( (show Xi U10 904 69 = Xi U9 904 69 from by rw [eU10]; exact Xi_ne (by omega)).trans ( (show Xi U9 904 69 = Xi U8 904 69 from by rw [eU9]; exact Xi_ne (by omega)).trans ((show Xi U8 904 69 = Xi S 904 69 from by rw [eU8]; exact Xi_ne (by omega))))))))
      have w233 : 0 ≤ Xi S 904 69 ∧ Xi S 904 69 ≤ 2600 := hH.c _ _
      have w234 : Xi T16 904 93 = Xi S 904 93 := (show Xi T16 904 93 = Xi U15 904 93 from w228.x _ _ rfl).trans ( (show Xi U15 904 93 = Xi U14 904 93 from by rw [eU15]; exact Xi_ne (by omega)).trans ( (show Xi U14 904 93 = Xi U11 904 93 from by rw [eU14]; exact Xi_ne (by omega)).trans ( (show Xi U11 904 93 = Xi U10 904 93 from by rw [eU11]; exact Xi_ne (by omega)).trans ( (show Xi U10 904 93 = Xi U9 904 93 from by rw [eU10]; exact Xi_ne (by omega)).trans ( (show Xi U9 904 93 = Xi U8 904 93 from by rw [eU9]; exact Xi_ne (by omega)).trans ((show Xi U8 904 93 = Xi S 904 93 from by rw [eU8]; exact Xi_ne (by omega))))))))
      have w235 : 0 ≤ Xi S 904 93 ∧ Xi S 904 93 ≤ 1700 := hH.c _ _
      have d118 : Xi T16 904 65 = 0 → Xi T16 907 (Xi T16 957 (Xi S 904 93).toNat).toNat = 5 := fun q => by have t := (by assumption : Xi T16 904 65 = 0 → Xi T16 904 8 = Xi U15 904 8 + 1 ∧ Xi U15 907 (Xi U15 904 8).toNat = 5) q; rw [((by assumption : FR md_mo_take U15 T16).cx 957 rfl _).1, m115, ((by assumption : FR md_mo_take U15 T16).cx 907 rfl _).1]; exact t.2
      have m118 : Xi T16 957 (Xi S 904 93).toNat ≤ n := by rw [((by assumption : FR md_mo_take U15 T16).cx 957 rfl _).1, m115]; omega
      have w229 : Xi S 904 8 ≤ Xi T16 904 8 ∧ Xi T16 904 8 ≤ n ∧ Xi S 904 69 ≤ Xi T16 904 69 ∧ (Xi T16 904 65 = 0 → Xi S 904 65 = 0) := by omega
      clear w224 w225 w226
      refine l_aload_n rfl rfl ?_
      refine l_dup rfl rfl ?_
      refine l_gfi rfl rfl rfl rfl rfl ?_
      have w236 : (Xi T16 904 93) = (Xi S 904 93) := (show Xi T16 904 93 = Xi U15 904 93 from w228.x _ _ rfl).trans ( (show Xi U15 904 93 = Xi U14 904 93 from by rw [eU15]; exact Xi_ne (by omega)).trans ( (show Xi U14 904 93 = Xi U11 904 93 from by rw [eU14]; exact Xi_ne (by omega)).trans ( (show Xi U11 904 93 = Xi U10 904 93 from by rw [eU11]; exact Xi_ne (by omega)).trans ( (show Xi U10 904 93 = Xi U9 904 93 from by rw [eU10]; exact Xi_ne (by omega)).trans ( (show Xi U9 904 93 = Xi U8 904 93 from by rw [eU9]; exact Xi_ne (by omega)).trans ((show Xi U8 904 93 = Xi S 904 93 from by rw [eU8]; exact Xi_ne (by omega))))))))
      rw [w236]
      refine l_iconst rfl ?_
      refine l_iadd rfl ?_
      refine l_pfi rfl rfl rfl rfl ?_
      obtain ⟨U17, eU17⟩ : ∃ T : sS, T = uI T16 904 93 (Int32.ofInt ((Xi S 904 93) + 1)) := ⟨_, rfl⟩
      rw [← eU17]
      have hHU17 : HI U17 := by rw [eU17]; exact HI_w hHT16 (show 0 ≤ ((Xi S 904 93) + 1) by omega) (show ((Xi S 904 93) + 1) ≤ 1700 by omega)
      have hFU17 : FR md_mo_phrase S U17 := by rw [eU17]; exact FR.wI hFT16 (mdf_i (r := (904, 905, 93, 94)) (List.mem_of_getElem? (i := 5) rfl) (inR_i (by omega) (by omega) (by omega) (by omega)))
      have w237 : Xi U17 904 93 = ((Xi S 904 93) + 1) := by rw [eU17]; exact Xi_same (by unfold rg; omega)
      have a128 : AT U17 n c := at_ct (c := c + 1) (by first | assumption | exact AT_FR (FR_e ) rfl (by assumption) | exact AT_FR (FR_e ) rfl (AT_FR (FR_e ) rfl (by assumption))) eU17 (by omega) (by omega) rfl
      have E128 : Xi U17 904 65 = 0 → PVt U17 n 0 (Xi S 904 93).toNat := fun q => (by rw [eU17, Xi_ne (by omega)] at q; exact pvt_w (pvt_0 m118 (d118 q)) eU17 (by omega))
      refine l_goto rfl rfl ?_
      have w238 : Xi U17 963 (Xi S 904 98).toNat = Xi U14 963 (Xi S 904 98).toNat := (show Xi U17 963 (Xi S 904 98).toNat = Xi T16 963 (Xi S 904 98).toNat from by rw [eU17]; exact Xi_ne (by omega)).trans ( (show Xi T16 963 (Xi S 904 98).toNat = Xi U15 963 (Xi S 904 98).toNat from (w228.cx 963 rfl _).1).trans ((show Xi U15 963 (Xi S 904 98).toNat = Xi U14 963 (Xi S 904 98).toNat from by rw [eU15]; exact Xi_ne (by omega))))
      have w239 : Xi U17 964 (Xi S 904 98).toNat = Xi U9 964 (Xi S 904 98).toNat := (show Xi U17 964 (Xi S 904 98).toNat = Xi T16 964 (Xi S 904 98).toNat from by rw [eU17]; exact Xi_ne (by omega)).trans ( (show Xi T16 964 (Xi S 904 98).toNat = Xi U15 964 (Xi S 904 98).toNat from (w228.cx 964 rfl _).1).trans ( (show Xi U15 964 (Xi S 904 98).toNat = Xi U14 964 (Xi S 904 98).toNat from by rw [eU15]; exact Xi_ne (by omega)).trans ( (show Xi U14 964 (Xi S 904 98).toNat = Xi U11 964 (Xi S 904 98).toNat from by rw [eU14]; exact Xi_ne (by omega)).trans ( (show Xi U11 964 (Xi S 904 98).toNat = Xi U10 964 (Xi S 904 98).toNat from by rw [eU11]; exact Xi_ne (by omega)).trans ((show Xi U10 964 (Xi S 904 98).toNat = Xi U9 964 (Xi S 904 98).toNat from by rw [eU10]; exact Xi_ne (by omega)))))))
      have w240 : Xi U17 904 65 = Xi T16 904 65 := (show Xi U17 904 65 = Xi T16 904 65 from by rw [eU17]; exact Xi_ne (by omega))
      have w241 : 0 ≤ Xi T16 904 65 ∧ Xi T16 904 65 ≤ 1 := hHT16.c _ _
      have w242 : Xi U17 904 69 = Xi S 904 69 := (show Xi U17 904 69 = Xi T16 904 69 from by rw [eU17]; exact Xi_ne (by omega)).trans ( (show Xi T16 904 69 = Xi U15 904 69 from w228.x _ _ rfl).trans ( (show Xi U15 904 69 = Xi U14 904 69 from by rw [eU15]; exact Xi_ne (by omega)).trans ( (show Xi U14 904 69 = Xi U11 904 69 from by rw [eU14]; exact Xi_ne (by omega)).trans ( (show Xi U11 904 69 = Xi U10 904 69 from by rw [eU11]; exact Xi_ne (by omega)).trans ( (show Xi U10 904 69 = Xi U9 904 69 from by rw [eU10]; exact Xi_ne (by omega)).trans ( (show Xi U9 904 69 = Xi U8 904 69 from by rw [eU9]; exact Xi_ne (by omega)).trans ((show Xi U8 904 69 = Xi S 904 69 from by rw [eU8]; exact Xi_ne (by omega)))))))))
      have w243 : 0 ≤ Xi S 904 69 ∧ Xi S 904 69 ≤ 2600 := hH.c _ _
      have w244 : Xi U17 904 8 = Xi T16 904 8 := (show Xi U17 904 8 = Xi T16 904 8 from by rw [eU17]; exact Xi_ne (by omega))
      have w245 : 0 ≤ Xi T16 904 8 ∧ Xi T16 904 8 ≤ 5010 := hHT16.c _ _
      have w246 : 0 ≤ Xi U17 904 93 ∧ Xi U17 904 93 ≤ 1700 := hHU17.c _ _
      have w247 : Xi U17 904 98 = Xi S 904 98 := (show Xi U17 904 98 = Xi T16 904 98 from by rw [eU17]; exact Xi_ne (by omega)).trans ( (show Xi T16 904 98 = Xi U15 904 98 from w228.x _ _ rfl).trans ( (show Xi U15 904 98 = Xi U14 904 98 from by rw [eU15]; exact Xi_ne (by omega)).trans ( (show Xi U14 904 98 = Xi U11 904 98 from by rw [eU14]; exact Xi_ne (by omega)).trans ( (show Xi U11 904 98 = Xi U10 904 98 from by rw [eU11]; exact Xi_ne (by omega)).trans ( (show Xi U10 904 98 = Xi U9 904 98 from by rw [eU10]; exact Xi_ne (by omega)).trans ( (show Xi U9 904 98 = Xi U8 904 98 from by rw [eU9]; exact Xi_ne (by omega)).trans ((show Xi U8 904 98 = Xi S 904 98 from by rw [eU8]; exact Xi_ne (by omega)))))))))
      have w248 : 0 ≤ Xi S 904 98 ∧ Xi S 904 98 ≤ 1700 := hH.c _ _
      exact Rl_weak (C409 U17 hHU17 hFU17  (by first | assumption | exact AT_bad (by omega)) (by first | assumption | exact (RNV_FR (FR_e eU17) rfl (RNV_FR w228 rfl (RNV_FR (FR_e eU15) rfl (RNV_FR (FR_e eU14) rfl (RNV_FR (FR_e eU11) rfl (RNV_FR (FR_e eU10) rfl (RNV_FR (FR_e eU9) rfl (RNV_FR (FR_e eU8) rfl (by assumption : RNV S _)))))))))) (by omega) (by omega) (by omega) (by omega) (by omega) (by omega) (by omega) (by omega) ((KT_FR (FR_e eU17) rfl (KT_FR w228 rfl (KT.w (KT_FR (FR_e eU14) rfl (KT_FR (FR_e eU11) rfl (KT.w (KT_FR (FR_e eU9) rfl (KT_FR (FR_e eU8) rfl KT.rf)) eU10 (by omega)))) eU15 (by omega))))) ((KP.w (KP_FR w228 rfl (KP.w (KP.w (KP.w (KP.w (KP.w (KP.w KP.rf eU8 (by omega)) eU9 (by omega)) eU10 (by omega)) eU11 (by omega)) eU14 (by omega)) eU15 (by omega))) eU17 (by omega))) (by first | exact fun q => pv_i (t := (Xi S 904 93).toNat) (E128 q) (by omega) (by omega) | exact fun q => pv_i (t := (Xi S 904 93).toNat) (E143 q) (by omega) (by omega) | exact fun q => pv_i (t := (Xi S 904 93).toNat) (E212 q) (by omega) (by omega) | exact fun q => pv_i (t := (Xi S 904 93).toNat) (E368 q) (by omega) (by omega) | exact fun q => pv_i (t := (Xi S 904 93).toNat) (E389 q) (by omega) (by omega) | exact fun q => pv_i (t := (Xi S 904 93).toNat) (E275 _ (by omega) q) rfl (by omega) | exact fun q => absurd q (by omega))) (And.intro rfl (True.intro))
    | 1, hii =>
      cases hii
      have w249 : z171 = 144 := by simpa using w174
      refine l_aload_n rfl rfl ?_
      have t134 : AT U11 n (c + 1) ∧ _ := at_mv (c2 := c + 1) hT hA (fun j => (hFU10.cx 907 rfl j).1) (fun j => (hFU10.cx 908 rfl j).1) (by omega) (by omega) (by omega) (by omega) eU11 (by omega) (by omega) (by omega) (by omega) (Or.inr ⟨rfl, by unfold K3; omega⟩)
      have a134 : AT U11 n (c + 1) := t134.1
      have l134 := t134.2
      clear t134 l39
      refine l_gfr rfl rfl rfl rfl rfl (hHU11.r 904 95 963 rfl) ?_
      refine l_iload_n rfl rfl ?_
      refine l_iconst rfl ?_
      refine l_iastore (n := 1700) rfl rfl (by omega) (by omega) (by unfold rg; omega) ?_
      obtain ⟨U18, eU18⟩ : ∃ T : sS, T = uI U11 963 (((Xi S 904 98)).toNat) (Int32.ofInt 1) := ⟨_, rfl⟩
      rw [← eU18]
      have hHU18 : HI U18 := by rw [eU18]; exact HI_w hHU11 (show 0 ≤ 1 by omega) (show 1 ≤ 6 by omega)
      have hFU18 : FR md_mo_phrase S U18 := by rw [eU18]; exact FR.wI hFU11 (mdf_i (r := (963, 964, 0, 100000)) (List.mem_of_getElem? (i := 23) rfl) (inR_i (by omega) (by omega) (by omega) (by omega)))
      have w250 : Xi U18 963 (((Xi S 904 98)).toNat) = 1 := by rw [eU18]; exact Xi_same (by unfold rg; omega)
      refine l_aload_n rfl rfl ?_
      refine l_iconst rfl ?_
      have w251 : Xi U18 904 65 = Xi S 904 65 := (show Xi U18 904 65 = Xi U11 904 65 from by rw [eU18]; exact Xi_ne (by omega)).trans ( (show Xi U11 904 65 = Xi U10 904 65 from by rw [eU11]; exact Xi_ne (by omega)).trans ( (show Xi U10 904 65 = Xi U9 904 65 from by rw [eU10]; exact Xi_ne (by omega)).trans ( (show Xi U9 904 65 = Xi U8 904 65 from by rw [eU9]; exact Xi_ne (by omega)).trans ((show Xi U8 904 65 = Xi S 904 65 from by rw [eU8]; exact Xi_ne (by omega))))))
      have w252 : 0 ≤ Xi S 904 65 ∧ Xi S 904 65 ≤ 1 := hH.c _ _
      have w253 : Xi U18 904 69 = Xi S 904 69 := (show Xi U18 904 69 = Xi U11 904 69 from by rw [eU18]; exact Xi_ne (by omega)).trans ( (show Xi U11 904 69 = Xi U10 904 69 from by rw [eU11]; exact Xi_ne (by omega)).trans ( (show Xi U10 904 69 = Xi U9 904 69 from by rw [eU10]; exact Xi_ne (by omega)).trans ( (show Xi U9 904 69 = Xi U8 904 69 from by rw [eU9]; exact Xi_ne (by omega)).trans ((show Xi U8 904 69 = Xi S 904 69 from by rw [eU8]; exact Xi_ne (by omega))))))
      have w254 : 0 ≤ Xi S 904 69 ∧ Xi S 904 69 ≤ 2600 := hH.c _ _
      have w255 : Xi U18 904 8 = Xi U11 904 8 := (show Xi U18 904 8 = Xi U11 904 8 from by rw [eU18]; exact Xi_ne (by omega))
      have w256 : 0 ≤ Xi U11 904 8 ∧ Xi U11 904 8 ≤ 5010 := hHU11.c _ _
      have w257 : Xi U18 904 93 = Xi S 904 93 := (show Xi U18 904 93 = Xi U11 904 93 from by rw [eU18]; exact Xi_ne (by omega)).trans ( (show Xi U11 904 93 = Xi U10 904 93 from by rw [eU11]; exact Xi_ne (by omega)).trans ( (show Xi U10 904 93 = Xi U9 904 93 from by rw [eU10]; exact Xi_ne (by omega)).trans ( (show Xi U9 904 93 = Xi U8 904 93 from by rw [eU9]; exact Xi_ne (by omega)).trans ((show Xi U8 904 93 = Xi S 904 93 from by rw [eU8]; exact Xi_ne (by omega))))))
      have w258 : 0 ≤ Xi S 904 93 ∧ Xi S 904 93 ≤ 1700 := hH.c _ _
      have w259 : Xi U18 904 98 = Xi S 904 98 := (show Xi U18 904 98 = Xi U11 904 98 from by rw [eU18]; exact Xi_ne (by omega)).trans ( (show Xi U11 904 98 = Xi U10 904 98 from by rw [eU11]; exact Xi_ne (by omega)).trans ( (show Xi U10 904 98 = Xi U9 904 98 from by rw [eU10]; exact Xi_ne (by omega)).trans ( (show Xi U9 904 98 = Xi U8 904 98 from by rw [eU9]; exact Xi_ne (by omega)).trans ((show Xi U8 904 98 = Xi S 904 98 from by rw [eU8]; exact Xi_ne (by omega))))))
      have w260 : 0 ≤ Xi S 904 98 ∧ Xi S 904 98 ≤ 1700 := hH.c _ _
      refine l_callV rfl rfl rfl (t_mo_test hHU18 n (c + 1) 1 ⟨by omega, by omega⟩ (by first | assumption | exact (TK_FR hFU18 rfl (by assumption : TK S _))) (by first | assumption | exact (AT_FR (FR_e eU18) rfl (by assumption : AT U11 _ _))) (by first | assumption | exact (RNV_FR (FR_e eU18) rfl (RNV_FR (FR_e eU11) rfl (RNV_FR (FR_e eU10) rfl (RNV_FR (FR_e eU9) rfl (RNV_FR (FR_e eU8) rfl (by assumption : RNV S _))))))) (by first | assumption | omega) (by first | assumption | omega) (by first | assumption | omega) _) ?_
      rintro _ T19 ⟨hHT19, w269, rfl, w261, w262, w263, w264, w265, w266, w267, v143_, f143_⟩
      have hFT19 : FR md_mo_phrase S T19 := FR.tr hFU18 w269 rfl
      show Rl _ _ _ _ _ [] _ _
      have w271 : 0 ≤ Xi T19 904 8 ∧ Xi T19 904 8 ≤ 5010 := hHT19.c _ _
      have w272 : 0 ≤ Xi T19 904 65 ∧ Xi T19 904 65 ≤ 1 := hHT19.c _ _
      have w273 : 0 ≤ Xi T19 904 69 ∧ Xi T19 904 69 ≤ 2600 := hHT19.c _ _
      have w274 : 0 ≤ Xi T19 904 93 ∧ Xi T19 904 93 ≤ 1700 := hHT19.c _ _
      have a143 : AT T19 n c := (by assumption : AT T19 n (c + 1 - 1))
      have v143 : Xi T19 904 65 = 0 → TV T19 n (Xi S 904 93).toNat := by rw [show (Xi S 904 93).toNat = (Xi U18 904 93).toNat by omega]; exact v143_
      clear v143_
      have f143 : Xi T19 904 65 = 0 → (1 : Int) = 1 → Xi T19 952 (Xi S 904 93).toNat = 0 ∨ Xi T19 952 (Xi S 904 93).toNat = 3 ∨ Xi T19 952 (Xi S 904 93).toNat = 5 := by rw [show (Xi S 904 93).toNat = (Xi U18 904 93).toNat by omega]; exact f143_
      clear f143_
      have E143 : Xi T19 904 65 = 0 → PVt T19 n 1 (Xi S 904 93).toNat := fun q => pvt_1 (v143 q) (f143 q rfl)
      clear v143 f143
      have w270 : Xi S 904 8 ≤ Xi T19 904 8 ∧ Xi T19 904 8 ≤ n ∧ Xi S 904 69 ≤ Xi T19 904 69 ∧ (Xi T19 904 65 = 0 → Xi S 904 65 = 0) := by omega
      clear w262 w264 w265
      refine l_goto rfl rfl ?_
      have w275 : Xi T19 963 (Xi S 904 98).toNat = Xi U18 963 (Xi S 904 98).toNat := (show Xi T19 963 (Xi S 904 98).toNat = Xi U18 963 (Xi S 904 98).toNat from (w269.cx 963 rfl _).1)
      have w276 : Xi T19 964 (Xi S 904 98).toNat = Xi U9 964 (Xi S 904 98).toNat := (show Xi T19 964 (Xi S 904 98).toNat = Xi U18 964 (Xi S 904 98).toNat from (w269.cx 964 rfl _).1).trans ( (show Xi U18 964 (Xi S 904 98).toNat = Xi U11 964 (Xi S 904 98).toNat from by rw [eU18]; exact Xi_ne (by omega)).trans ( (show Xi U11 964 (Xi S 904 98).toNat = Xi U10 964 (Xi S 904 98).toNat from by rw [eU11]; exact Xi_ne (by omega)).trans ((show Xi U10 964 (Xi S 904 98).toNat = Xi U9 964 (Xi S 904 98).toNat from by rw [eU10]; exact Xi_ne (by omega)))))
      have w277 : 0 ≤ Xi T19 904 65 ∧ Xi T19 904 65 ≤ 1 := hHT19.c _ _
      have w278 : 0 ≤ Xi T19 904 69 ∧ Xi T19 904 69 ≤ 2600 := hHT19.c _ _
      have w279 : 0 ≤ Xi T19 904 8 ∧ Xi T19 904 8 ≤ 5010 := hHT19.c _ _
      have w280 : 0 ≤ Xi T19 904 93 ∧ Xi T19 904 93 ≤ 1700 := hHT19.c _ _
      have w281 : Xi T19 904 98 = Xi S 904 98 := (show Xi T19 904 98 = Xi U18 904 98 from w269.x _ _ rfl).trans ( (show Xi U18 904 98 = Xi U11 904 98 from by rw [eU18]; exact Xi_ne (by omega)).trans ( (show Xi U11 904 98 = Xi U10 904 98 from by rw [eU11]; exact Xi_ne (by omega)).trans ( (show Xi U10 904 98 = Xi U9 904 98 from by rw [eU10]; exact Xi_ne (by omega)).trans ( (show Xi U9 904 98 = Xi U8 904 98 from by rw [eU9]; exact Xi_ne (by omega)).trans ((show Xi U8 904 98 = Xi S 904 98 from by rw [eU8]; exact Xi_ne (by omega)))))))
      have w282 : 0 ≤ Xi S 904 98 ∧ Xi S 904 98 ≤ 1700 := hH.c _ _
      exact Rl_weak (C409 T19 hHT19 hFT19  (by first | assumption | exact AT_bad (by omega)) (by first | assumption | exact (by assumption : RNV T19 _)) (by omega) (by omega) (by omega) (by omega) (by omega) (by omega) (by omega) (by omega) ((KT.tr (KT_FR (FR_e eU18) rfl (KT_FR (FR_e eU11) rfl (KT.w (KT_FR (FR_e eU9) rfl (KT_FR (FR_e eU8) rfl KT.rf)) eU10 (by omega)))) (by assumption : KT T19 U18 _) (by omega))) ((KP_FR w269 rfl (KP.w (KP.w (KP.w (KP.w (KP.w KP.rf eU8 (by omega)) eU9 (by omega)) eU10 (by omega)) eU11 (by omega)) eU18 (by omega)))) (by first | exact fun q => pv_i (t := (Xi S 904 93).toNat) (E128 q) (by omega) (by omega) | exact fun q => pv_i (t := (Xi S 904 93).toNat) (E143 q) (by omega) (by omega) | exact fun q => pv_i (t := (Xi S 904 93).toNat) (E212 q) (by omega) (by omega) | exact fun q => pv_i (t := (Xi S 904 93).toNat) (E368 q) (by omega) (by omega) | exact fun q => pv_i (t := (Xi S 904 93).toNat) (E389 q) (by omega) (by omega) | exact fun q => pv_i (t := (Xi S 904 93).toNat) (E275 _ (by omega) q) rfl (by omega) | exact fun q => absurd q (by omega))) (And.intro rfl (True.intro))
    | 2, hii =>
      cases hii
      have w283 : z171 = 145 := by simpa using w174
      refine l_aload_n rfl rfl ?_
      have t149 : AT U11 n (c + 1) ∧ _ := at_mv (c2 := c + 1) hT hA (fun j => (hFU10.cx 907 rfl j).1) (fun j => (hFU10.cx 908 rfl j).1) (by omega) (by omega) (by omega) (by omega) eU11 (by omega) (by omega) (by omega) (by omega) (Or.inr ⟨rfl, by unfold K3; omega⟩)
      have a149 : AT U11 n (c + 1) := t149.1
      have l149 := t149.2
      clear t149 l39
      refine l_gfr rfl rfl rfl rfl rfl (hHU11.r 904 95 963 rfl) ?_
      refine l_iload_n rfl rfl ?_
      refine l_iconst rfl ?_
      refine l_iastore (n := 1700) rfl rfl (by omega) (by omega) (by unfold rg; omega) ?_
      obtain ⟨U20, eU20⟩ : ∃ T : sS, T = uI U11 963 (((Xi S 904 98)).toNat) (Int32.ofInt 2) := ⟨_, rfl⟩
      rw [← eU20]
      have hHU20 : HI U20 := by rw [eU20]; exact HI_w hHU11 (show 0 ≤ 2 by omega) (show 2 ≤ 6 by omega)
      have hFU20 : FR md_mo_phrase S U20 := by rw [eU20]; exact FR.wI hFU11 (mdf_i (r := (963, 964, 0, 100000)) (List.mem_of_getElem? (i := 23) rfl) (inR_i (by omega) (by omega) (by omega) (by omega)))
      have w284 : Xi U20 963 (((Xi S 904 98)).toNat) = 2 := by rw [eU20]; exact Xi_same (by unfold rg; omega)
      refine l_aload_n rfl rfl ?_
      have w285 : Xi U20 904 65 = Xi S 904 65 := (show Xi U20 904 65 = Xi U11 904 65 from by rw [eU20]; exact Xi_ne (by omega)).trans ( (show Xi U11 904 65 = Xi U10 904 65 from by rw [eU11]; exact Xi_ne (by omega)).trans ( (show Xi U10 904 65 = Xi U9 904 65 from by rw [eU10]; exact Xi_ne (by omega)).trans ( (show Xi U9 904 65 = Xi U8 904 65 from by rw [eU9]; exact Xi_ne (by omega)).trans ((show Xi U8 904 65 = Xi S 904 65 from by rw [eU8]; exact Xi_ne (by omega))))))
      have w286 : 0 ≤ Xi S 904 65 ∧ Xi S 904 65 ≤ 1 := hH.c _ _
      have w287 : Xi U20 904 69 = Xi S 904 69 := (show Xi U20 904 69 = Xi U11 904 69 from by rw [eU20]; exact Xi_ne (by omega)).trans ( (show Xi U11 904 69 = Xi U10 904 69 from by rw [eU11]; exact Xi_ne (by omega)).trans ( (show Xi U10 904 69 = Xi U9 904 69 from by rw [eU10]; exact Xi_ne (by omega)).trans ( (show Xi U9 904 69 = Xi U8 904 69 from by rw [eU9]; exact Xi_ne (by omega)).trans ((show Xi U8 904 69 = Xi S 904 69 from by rw [eU8]; exact Xi_ne (by omega))))))
      have w288 : 0 ≤ Xi S 904 69 ∧ Xi S 904 69 ≤ 2600 := hH.c _ _
      have w289 : Xi U20 904 8 = Xi U11 904 8 := (show Xi U20 904 8 = Xi U11 904 8 from by rw [eU20]; exact Xi_ne (by omega))
      have w290 : 0 ≤ Xi U11 904 8 ∧ Xi U11 904 8 ≤ 5010 := hHU11.c _ _
      have w291 : Xi U20 904 93 = Xi S 904 93 := (show Xi U20 904 93 = Xi U11 904 93 from by rw [eU20]; exact Xi_ne (by omega)).trans ( (show Xi U11 904 93 = Xi U10 904 93 from by rw [eU11]; exact Xi_ne (by omega)).trans ( (show Xi U10 904 93 = Xi U9 904 93 from by rw [eU10]; exact Xi_ne (by omega)).trans ( (show Xi U9 904 93 = Xi U8 904 93 from by rw [eU9]; exact Xi_ne (by omega)).trans ((show Xi U8 904 93 = Xi S 904 93 from by rw [eU8]; exact Xi_ne (by omega))))))
      have w292 : 0 ≤ Xi S 904 93 ∧ Xi S 904 93 ≤ 1700 := hH.c _ _
      have w293 : Xi U20 904 98 = Xi S 904 98 := (show Xi U20 904 98 = Xi U11 904 98 from by rw [eU20]; exact Xi_ne (by omega)).trans ( (show Xi U11 904 98 = Xi U10 904 98 from by rw [eU11]; exact Xi_ne (by omega)).trans ( (show Xi U10 904 98 = Xi U9 904 98 from by rw [eU10]; exact Xi_ne (by omega)).trans ( (show Xi U9 904 98 = Xi U8 904 98 from by rw [eU9]; exact Xi_ne (by omega)).trans ((show Xi U8 904 98 = Xi S 904 98 from by rw [eU8]; exact Xi_ne (by omega))))))
      have w294 : 0 ≤ Xi S 904 98 ∧ Xi S 904 98 ≤ 1700 := hH.c _ _
      refine l_callV rfl rfl rfl (t_mo_thingOfTest hHU20 n (c + 1) (by first | assumption | exact (TK_FR hFU20 rfl (by assumption : TK S _))) (by first | assumption | exact (AT_FR (FR_e eU20) rfl (by assumption : AT U11 _ _))) (by first | assumption | exact (RNV_FR (FR_e eU20) rfl (RNV_FR (FR_e eU11) rfl (RNV_FR (FR_e eU10) rfl (RNV_FR (FR_e eU9) rfl (RNV_FR (FR_e eU8) rfl (by assumption : RNV S _))))))) (by first | assumption | omega) _) ?_
      rintro _ T21 ⟨hHT21, w302, rfl, w295, w296, w297, w298, w299, w300, h157_⟩
      have hFT21 : FR md_mo_phrase S T21 := FR.tr hFU20 w302 rfl
      show Rl _ _ _ _ _ [] _ _
      have w304 : 0 ≤ Xi T21 904 8 ∧ Xi T21 904 8 ≤ 5010 := hHT21.c _ _
      have w305 : 0 ≤ Xi T21 904 65 ∧ Xi T21 904 65 ≤ 1 := hHT21.c _ _
      have w306 : 0 ≤ Xi T21 904 69 ∧ Xi T21 904 69 ≤ 2600 := hHT21.c _ _
      have w307 : Xi T21 904 93 = Xi S 904 93 := (show Xi T21 904 93 = Xi U20 904 93 from w302.x _ _ rfl).trans ( (show Xi U20 904 93 = Xi U11 904 93 from by rw [eU20]; exact Xi_ne (by omega)).trans ( (show Xi U11 904 93 = Xi U10 904 93 from by rw [eU11]; exact Xi_ne (by omega)).trans ( (show Xi U10 904 93 = Xi U9 904 93 from by rw [eU10]; exact Xi_ne (by omega)).trans ( (show Xi U9 904 93 = Xi U8 904 93 from by rw [eU9]; exact Xi_ne (by omega)).trans ((show Xi U8 904 93 = Xi S 904 93 from by rw [eU8]; exact Xi_ne (by omega)))))))
      have w308 : 0 ≤ Xi S 904 93 ∧ Xi S 904 93 ≤ 1700 := hH.c _ _
      have h157 : Xi T21 904 65 = 0 → THV (Xi T21 904 69) n (Xi T21 954 (Xi S 904 93).toNat) (Xi T21 955 (Xi S 904 93).toNat) := by rw [show (Xi S 904 93).toNat = (Xi U20 904 93).toNat by omega]; exact h157_
      clear h157_
      have w303 : Xi S 904 8 ≤ Xi T21 904 8 ∧ Xi T21 904 8 ≤ n ∧ Xi S 904 69 ≤ Xi T21 904 69 ∧ (Xi T21 904 65 = 0 → Xi S 904 65 = 0) := by omega
      clear w296 w298 w299
      refine l_aload_n rfl rfl ?_
      refine l_bipush rfl rfl ?_
      have w309 : 0 ≤ Xi T21 904 65 ∧ Xi T21 904 65 ≤ 1 := hHT21.c _ _
      have w310 : 0 ≤ Xi T21 904 69 ∧ Xi T21 904 69 ≤ 2600 := hHT21.c _ _
      have w311 : 0 ≤ Xi T21 904 8 ∧ Xi T21 904 8 ≤ 5010 := hHT21.c _ _
      have w312 : Xi T21 904 93 = Xi S 904 93 := (show Xi T21 904 93 = Xi U20 904 93 from w302.x _ _ rfl).trans ( (show Xi U20 904 93 = Xi U11 904 93 from by rw [eU20]; exact Xi_ne (by omega)).trans ( (show Xi U11 904 93 = Xi U10 904 93 from by rw [eU11]; exact Xi_ne (by omega)).trans ( (show Xi U10 904 93 = Xi U9 904 93 from by rw [eU10]; exact Xi_ne (by omega)).trans ( (show Xi U9 904 93 = Xi U8 904 93 from by rw [eU9]; exact Xi_ne (by omega)).trans ((show Xi U8 904 93 = Xi S 904 93 from by rw [eU8]; exact Xi_ne (by omega)))))))
      have w313 : 0 ≤ Xi S 904 93 ∧ Xi S 904 93 ≤ 1700 := hH.c _ _
      have w314 : Xi T21 904 98 = Xi S 904 98 := (show Xi T21 904 98 = Xi U20 904 98 from w302.x _ _ rfl).trans ( (show Xi U20 904 98 = Xi U11 904 98 from by rw [eU20]; exact Xi_ne (by omega)).trans ( (show Xi U11 904 98 = Xi U10 904 98 from by rw [eU11]; exact Xi_ne (by omega)).trans ( (show Xi U10 904 98 = Xi U9 904 98 from by rw [eU10]; exact Xi_ne (by omega)).trans ( (show Xi U9 904 98 = Xi U8 904 98 from by rw [eU9]; exact Xi_ne (by omega)).trans ((show Xi U8 904 98 = Xi S 904 98 from by rw [eU8]; exact Xi_ne (by omega)))))))
      have w315 : 0 ≤ Xi S 904 98 ∧ Xi S 904 98 ≤ 1700 := hH.c _ _
      refine l_callV rfl rfl rfl (t_mo_take__2 hHT21 n (c + 1) 111 ⟨by omega, by omega⟩ (by first | assumption | exact (TK_FR hFT21 rfl (by assumption : TK S _))) (by first | assumption | exact (by assumption : AT T21 _ _)) (by first | assumption | omega) _) ?_
      rintro _ T22 ⟨hHT22, w320, rfl, w316, w317, kb163, w318⟩
      have hFT22 : FR md_mo_phrase S T22 := FR.tr hFT21 w320 rfl
      show Rl _ _ _ _ _ [] _ _
      have w322 : 0 ≤ Xi T22 904 8 ∧ Xi T22 904 8 ≤ 5010 := hHT22.c _ _
      have w323 : 0 ≤ Xi T22 904 65 ∧ Xi T22 904 65 ≤ 1 := hHT22.c _ _
      have w324 : Xi T22 904 69 = Xi T21 904 69 := (show Xi T22 904 69 = Xi T21 904 69 from w320.x _ _ rfl)
      have w325 : 0 ≤ Xi T21 904 69 ∧ Xi T21 904 69 ≤ 2600 := hHT21.c _ _
      have w326 : Xi T22 904 93 = Xi S 904 93 := (show Xi T22 904 93 = Xi T21 904 93 from w320.x _ _ rfl).trans ( (show Xi T21 904 93 = Xi U20 904 93 from w302.x _ _ rfl).trans ( (show Xi U20 904 93 = Xi U11 904 93 from by rw [eU20]; exact Xi_ne (by omega)).trans ( (show Xi U11 904 93 = Xi U10 904 93 from by rw [eU11]; exact Xi_ne (by omega)).trans ( (show Xi U10 904 93 = Xi U9 904 93 from by rw [eU10]; exact Xi_ne (by omega)).trans ( (show Xi U9 904 93 = Xi U8 904 93 from by rw [eU9]; exact Xi_ne (by omega)).trans ((show Xi U8 904 93 = Xi S 904 93 from by rw [eU8]; exact Xi_ne (by omega))))))))
      have w327 : 0 ≤ Xi S 904 93 ∧ Xi S 904 93 ≤ 1700 := hH.c _ _
      have h163 : Xi T22 904 65 = 0 → THV (Xi T22 904 69) n (Xi T22 954 (Xi S 904 93).toNat) (Xi T22 955 (Xi S 904 93).toNat) := fun q => thv_c (h157 (kb163 q)) (by omega) ((by assumption : FR md_mo_take T21 T22).cx 954 rfl _).1 ((by assumption : FR md_mo_take T21 T22).cx 955 rfl _).1
      clear h157
      have w321 : Xi S 904 8 ≤ Xi T22 904 8 ∧ Xi T22 904 8 ≤ n ∧ Xi S 904 69 ≤ Xi T22 904 69 ∧ (Xi T22 904 65 = 0 → Xi S 904 65 = 0) := by omega
      clear w317 kb163 w318 w303
      refine l_aload_n rfl rfl ?_
      have w328 : 0 ≤ Xi T22 904 65 ∧ Xi T22 904 65 ≤ 1 := hHT22.c _ _
      have w329 : Xi T22 904 69 = Xi T21 904 69 := (show Xi T22 904 69 = Xi T21 904 69 from w320.x _ _ rfl)
      have w330 : 0 ≤ Xi T21 904 69 ∧ Xi T21 904 69 ≤ 2600 := hHT21.c _ _
      have w331 : 0 ≤ Xi T22 904 8 ∧ Xi T22 904 8 ≤ 5010 := hHT22.c _ _
      have w332 : Xi T22 904 93 = Xi S 904 93 := (show Xi T22 904 93 = Xi T21 904 93 from w320.x _ _ rfl).trans ( (show Xi T21 904 93 = Xi U20 904 93 from w302.x _ _ rfl).trans ( (show Xi U20 904 93 = Xi U11 904 93 from by rw [eU20]; exact Xi_ne (by omega)).trans ( (show Xi U11 904 93 = Xi U10 904 93 from by rw [eU11]; exact Xi_ne (by omega)).trans ( (show Xi U10 904 93 = Xi U9 904 93 from by rw [eU10]; exact Xi_ne (by omega)).trans ( (show Xi U9 904 93 = Xi U8 904 93 from by rw [eU9]; exact Xi_ne (by omega)).trans ((show Xi U8 904 93 = Xi S 904 93 from by rw [eU8]; exact Xi_ne (by omega))))))))
      have w333 : 0 ≤ Xi S 904 93 ∧ Xi S 904 93 ≤ 1700 := hH.c _ _
      have w334 : Xi T22 904 98 = Xi S 904 98 := (show Xi T22 904 98 = Xi T21 904 98 from w320.x _ _ rfl).trans ( (show Xi T21 904 98 = Xi U20 904 98 from w302.x _ _ rfl).trans ( (show Xi U20 904 98 = Xi U11 904 98 from by rw [eU20]; exact Xi_ne (by omega)).trans ( (show Xi U11 904 98 = Xi U10 904 98 from by rw [eU11]; exact Xi_ne (by omega)).trans ( (show Xi U10 904 98 = Xi U9 904 98 from by rw [eU10]; exact Xi_ne (by omega)).trans ( (show Xi U9 904 98 = Xi U8 904 98 from by rw [eU9]; exact Xi_ne (by omega)).trans ((show Xi U8 904 98 = Xi S 904 98 from by rw [eU8]; exact Xi_ne (by omega))))))))
      have w335 : 0 ≤ Xi S 904 98 ∧ Xi S 904 98 ≤ 1700 := hH.c _ _
      refine l_callV rfl rfl rfl (t_mo_thing hHT22 n (c + 1) (by first | assumption | exact (TK_FR hFT22 rfl (by assumption : TK S _))) (by first | assumption | exact (by assumption : AT T22 _ _)) (by first | assumption | exact (RNV_FR w320 rfl (by assumption : RNV T21 _))) _) ?_
      rintro _ T23 ⟨hHT23, w341, rfl, w336, w337, w338, kb167, w339, o167⟩
      have hFT23 : FR md_mo_phrase S T23 := FR.tr hFT22 w341 rfl
      show Rl _ _ _ _ _ [] _ _
      have w343 : 0 ≤ Xi T23 904 8 ∧ Xi T23 904 8 ≤ 5010 := hHT23.c _ _
      have w344 : 0 ≤ Xi T23 904 65 ∧ Xi T23 904 65 ≤ 1 := hHT23.c _ _
      have w345 : 0 ≤ Xi T23 904 69 ∧ Xi T23 904 69 ≤ 2600 := hHT23.c _ _
      have w346 : Xi T23 904 93 = Xi S 904 93 := (show Xi T23 904 93 = Xi T22 904 93 from w341.x _ _ rfl).trans ( (show Xi T22 904 93 = Xi T21 904 93 from w320.x _ _ rfl).trans ( (show Xi T21 904 93 = Xi U20 904 93 from w302.x _ _ rfl).trans ( (show Xi U20 904 93 = Xi U11 904 93 from by rw [eU20]; exact Xi_ne (by omega)).trans ( (show Xi U11 904 93 = Xi U10 904 93 from by rw [eU11]; exact Xi_ne (by omega)).trans ( (show Xi U10 904 93 = Xi U9 904 93 from by rw [eU10]; exact Xi_ne (by omega)).trans ( (show Xi U9 904 93 = Xi U8 904 93 from by rw [eU9]; exact Xi_ne (by omega)).trans ((show Xi U8 904 93 = Xi S 904 93 from by rw [eU8]; exact Xi_ne (by omega)))))))))
      have w347 : 0 ≤ Xi S 904 93 ∧ Xi S 904 93 ≤ 1700 := hH.c _ _
      have h167 : Xi T23 904 65 = 0 → THV (Xi T23 904 69) n (Xi T23 954 (Xi S 904 93).toNat) (Xi T23 955 (Xi S 904 93).toNat) := fun q => thv_c (h163 (kb167 q)) (by omega) ((by assumption : FR md_mo_thing T22 T23).cx 954 rfl _).1 ((by assumption : FR md_mo_thing T22 T23).cx 955 rfl _).1
      have y167 : (0 ≤ Xi T23 904 100 ∧ Xi T23 904 100 ≤ 2) ∧ (0 ≤ Xi T23 904 101 ∧ Xi T23 904 101 ≤ 5010) ∧ 0 ≤ Xi T23 904 99 := ⟨hHT23.c 904 100, hHT23.c 904 101, (hHT23.c 904 99).1⟩
      clear h163
      have w342 : Xi S 904 8 ≤ Xi T23 904 8 ∧ Xi T23 904 8 ≤ n ∧ Xi S 904 69 ≤ Xi T23 904 69 ∧ (Xi T23 904 65 = 0 → Xi S 904 65 = 0) := by omega
      clear w337 kb167 w339 w321
      refine l_aload_n rfl rfl ?_
      refine l_gfr rfl rfl rfl rfl rfl (hHT23.r 904 89 959 rfl) ?_
      refine l_aload_n rfl rfl ?_
      refine l_gfi rfl rfl rfl rfl rfl ?_
      have w348 : (Xi T23 904 93) = (Xi S 904 93) := (show Xi T23 904 93 = Xi T22 904 93 from w341.x _ _ rfl).trans ( (show Xi T22 904 93 = Xi T21 904 93 from w320.x _ _ rfl).trans ( (show Xi T21 904 93 = Xi U20 904 93 from w302.x _ _ rfl).trans ( (show Xi U20 904 93 = Xi U11 904 93 from by rw [eU20]; exact Xi_ne (by omega)).trans ( (show Xi U11 904 93 = Xi U10 904 93 from by rw [eU11]; exact Xi_ne (by omega)).trans ( (show Xi U10 904 93 = Xi U9 904 93 from by rw [eU10]; exact Xi_ne (by omega)).trans ( (show Xi U9 904 93 = Xi U8 904 93 from by rw [eU9]; exact Xi_ne (by omega)).trans ((show Xi U8 904 93 = Xi S 904 93 from by rw [eU8]; exact Xi_ne (by omega)))))))))
      rw [w348]
      refine l_aload_n rfl rfl ?_
      refine l_gfi rfl rfl rfl rfl rfl ?_
      have w349 : 0 ≤ (Xi T23 904 100) ∧ (Xi T23 904 100) ≤ 2 := hHT23.c _ _
      refine l_sipush rfl rfl ?_
      refine l_imul rfl ?_
      refine l_aload_n rfl rfl ?_
      refine l_gfi rfl rfl rfl rfl rfl ?_
      have w350 : 0 ≤ (Xi T23 904 101) ∧ (Xi T23 904 101) ≤ 5010 := hHT23.c _ _
      refine l_iadd rfl ?_
      refine l_iastore (n := 1700) rfl rfl (by omega) (by omega) (by unfold rg; omega) ?_
      obtain ⟨U24, eU24⟩ : ∃ T : sS, T = uI T23 959 (((Xi S 904 93)).toNat) (Int32.ofInt (((Xi T23 904 100) * 10000) + (Xi T23 904 101))) := ⟨_, rfl⟩
      rw [← eU24]
      have hHU24 : HI U24 := by rw [eU24]; exact HI_w hHT23 (show 0 ≤ (((Xi T23 904 100) * 10000) + (Xi T23 904 101)) by omega) (show (((Xi T23 904 100) * 10000) + (Xi T23 904 101)) ≤ 25010 by omega)
      have hFU24 : FR md_mo_phrase S U24 := by rw [eU24]; exact FR.wI hFT23 (mdf_i (r := (959, 960, 0, 100000)) (List.mem_of_getElem? (i := 19) rfl) (inR_i (by omega) (by omega) (by omega) (by omega)))
      have w351 : Xi U24 959 (((Xi S 904 93)).toNat) = (((Xi T23 904 100) * 10000) + (Xi T23 904 101)) := by rw [eU24]; exact Xi_same (by unfold rg; omega)
      have h191 : Xi U24 904 65 = 0 → THV (Xi U24 904 69) n (Xi U24 954 (Xi S 904 93).toNat) (Xi U24 955 (Xi S 904 93).toNat) := fun q => (by rw [eU24, Xi_ne (by omega)] at q; exact thv_c (h167 q) (by rw [eU24, Xi_ne (by omega)]; exact Int.le_refl _) (by rw [eU24, Xi_ne (by omega)]) (by rw [eU24, Xi_ne (by omega)]))
      have o191 : Xi U24 959 (Xi S 904 93).toNat = Xi T23 904 100 * 10000 + Xi T23 904 101 := by assumption
      have x191 : Xi U24 904 65 = Xi T23 904 65 ∧ Xi U24 904 69 = Xi T23 904 69 := ⟨by rw [eU24, Xi_ne (by omega)], by rw [eU24, Xi_ne (by omega)]⟩
      clear h167
      refine l_aload_n rfl rfl ?_
      refine l_gfr rfl rfl rfl rfl rfl (hHU24.r 904 90 960 rfl) ?_
      refine l_aload_n rfl rfl ?_
      refine l_gfi rfl rfl rfl rfl rfl ?_
      have w352 : (Xi U24 904 93) = (Xi S 904 93) := (show Xi U24 904 93 = Xi T23 904 93 from by rw [eU24]; exact Xi_ne (by omega)).trans ( (show Xi T23 904 93 = Xi T22 904 93 from w341.x _ _ rfl).trans ( (show Xi T22 904 93 = Xi T21 904 93 from w320.x _ _ rfl).trans ( (show Xi T21 904 93 = Xi U20 904 93 from w302.x _ _ rfl).trans ( (show Xi U20 904 93 = Xi U11 904 93 from by rw [eU20]; exact Xi_ne (by omega)).trans ( (show Xi U11 904 93 = Xi U10 904 93 from by rw [eU11]; exact Xi_ne (by omega)).trans ( (show Xi U10 904 93 = Xi U9 904 93 from by rw [eU10]; exact Xi_ne (by omega)).trans ( (show Xi U9 904 93 = Xi U8 904 93 from by rw [eU9]; exact Xi_ne (by omega)).trans ((show Xi U8 904 93 = Xi S 904 93 from by rw [eU8]; exact Xi_ne (by omega))))))))))
      rw [w352]
      refine l_aload_n rfl rfl ?_
      refine l_gfi rfl rfl rfl rfl rfl ?_
      have w353 : 0 ≤ (Xi U24 904 99) ∧ (Xi U24 904 99) ≤ 2600 := hHU24.c _ _
      have e201 : (Xi U24 904 99) = Xi T23 904 99 := by rw [eU24]; exact Xi_ne (by omega)
      refine l_iastore (n := 1700) rfl rfl (by omega) (by omega) (by unfold rg; omega) ?_
      obtain ⟨U25, eU25⟩ : ∃ T : sS, T = uI U24 960 (((Xi S 904 93)).toNat) (Int32.ofInt (Xi U24 904 99)) := ⟨_, rfl⟩
      rw [← eU25]
      have hHU25 : HI U25 := by rw [eU25]; exact HI_w hHU24 (show -1 ≤ (Xi U24 904 99) by omega) (show (Xi U24 904 99) ≤ 2600 by omega)
      have hFU25 : FR md_mo_phrase S U25 := by rw [eU25]; exact FR.wI hFU24 (mdf_i (r := (960, 961, 0, 100000)) (List.mem_of_getElem? (i := 20) rfl) (inR_i (by omega) (by omega) (by omega) (by omega)))
      have w354 : Xi U25 960 (((Xi S 904 93)).toNat) = (Xi U24 904 99) := by rw [eU25]; exact Xi_same (by unfold rg; omega)
      have h204 : Xi U25 904 65 = 0 → THV (Xi U25 904 69) n (Xi U25 954 (Xi S 904 93).toNat) (Xi U25 955 (Xi S 904 93).toNat) := fun q => (by rw [eU25, Xi_ne (by omega)] at q; exact thv_c (h191 q) (by rw [eU25, Xi_ne (by omega)]; exact Int.le_refl _) (by rw [eU25, Xi_ne (by omega)]) (by rw [eU25, Xi_ne (by omega)]))
      have x204 : Xi U25 904 65 = Xi U24 904 65 ∧ Xi U25 904 69 = Xi U24 904 69 ∧ Xi U25 959 (Xi S 904 93).toNat = Xi U24 959 (Xi S 904 93).toNat := ⟨by rw [eU25, Xi_ne (by omega)], by rw [eU25, Xi_ne (by omega)], by rw [eU25, Xi_ne (by omega)]⟩
      have o204 : Xi U25 904 65 = 0 → THV (Xi U25 904 69) n (Xi U25 959 (Xi S 904 93).toNat) (Xi U25 960 (Xi S 904 93).toNat) := fun q => thv_i (s := Xi T23 904 100) (t := Xi T23 904 101) (r := Xi T23 904 99) (by omega) (by omega) y167.1 y167.2.1 (by have t := o167 (by omega); omega) y167.2.2 (fun w => by have t := (o167 (by omega)).2 w; omega)
      clear h191 o167
      refine l_aload_n rfl rfl ?_
      refine l_dup rfl rfl ?_
      refine l_gfi rfl rfl rfl rfl rfl ?_
      have w355 : (Xi U25 904 93) = (Xi S 904 93) := (show Xi U25 904 93 = Xi U24 904 93 from by rw [eU25]; exact Xi_ne (by omega)).trans ( (show Xi U24 904 93 = Xi T23 904 93 from by rw [eU24]; exact Xi_ne (by omega)).trans ( (show Xi T23 904 93 = Xi T22 904 93 from w341.x _ _ rfl).trans ( (show Xi T22 904 93 = Xi T21 904 93 from w320.x _ _ rfl).trans ( (show Xi T21 904 93 = Xi U20 904 93 from w302.x _ _ rfl).trans ( (show Xi U20 904 93 = Xi U11 904 93 from by rw [eU20]; exact Xi_ne (by omega)).trans ( (show Xi U11 904 93 = Xi U10 904 93 from by rw [eU11]; exact Xi_ne (by omega)).trans ( (show Xi U10 904 93 = Xi U9 904 93 from by rw [eU10]; exact Xi_ne (by omega)).trans ( (show Xi U9 904 93 = Xi U8 904 93 from by rw [eU9]; exact Xi_ne (by omega)).trans ((show Xi U8 904 93 = Xi S 904 93 from by rw [eU8]; exact Xi_ne (by omega)))))))))))
      rw [w355]
      refine l_iconst rfl ?_
      refine l_iadd rfl ?_
      refine l_pfi rfl rfl rfl rfl ?_
      obtain ⟨U26, eU26⟩ : ∃ T : sS, T = uI U25 904 93 (Int32.ofInt ((Xi S 904 93) + 1)) := ⟨_, rfl⟩
      rw [← eU26]
      have hHU26 : HI U26 := by rw [eU26]; exact HI_w hHU25 (show 0 ≤ ((Xi S 904 93) + 1) by omega) (show ((Xi S 904 93) + 1) ≤ 1700 by omega)
      have hFU26 : FR md_mo_phrase S U26 := by rw [eU26]; exact FR.wI hFU25 (mdf_i (r := (904, 905, 93, 94)) (List.mem_of_getElem? (i := 5) rfl) (inR_i (by omega) (by omega) (by omega) (by omega)))
      have w356 : Xi U26 904 93 = ((Xi S 904 93) + 1) := by rw [eU26]; exact Xi_same (by unfold rg; omega)
      have a212 : AT U26 n c := at_ct (c := c + 1) (by first | assumption | exact AT_FR (FR_e eU25) rfl (by assumption) | exact AT_FR (FR_e eU25) rfl (AT_FR (FR_e eU24) rfl (by assumption))) eU26 (by omega) (by omega) rfl
      have E212 : Xi U26 904 65 = 0 → PVt U26 n 2 (Xi S 904 93).toNat := fun q => (by rw [eU26, Xi_ne (by omega)] at q; exact pvt_w (pvt_2 (h204 q) (o204 q)) eU26 (by omega))
      clear h204 o204
      refine l_goto rfl rfl ?_
      have w357 : Xi U26 963 (Xi S 904 98).toNat = Xi U20 963 (Xi S 904 98).toNat := (show Xi U26 963 (Xi S 904 98).toNat = Xi U25 963 (Xi S 904 98).toNat from by rw [eU26]; exact Xi_ne (by omega)).trans ( (show Xi U25 963 (Xi S 904 98).toNat = Xi U24 963 (Xi S 904 98).toNat from by rw [eU25]; exact Xi_ne (by omega)).trans ( (show Xi U24 963 (Xi S 904 98).toNat = Xi T23 963 (Xi S 904 98).toNat from by rw [eU24]; exact Xi_ne (by omega)).trans ( (show Xi T23 963 (Xi S 904 98).toNat = Xi T22 963 (Xi S 904 98).toNat from (w341.cx 963 rfl _).1).trans ( (show Xi T22 963 (Xi S 904 98).toNat = Xi T21 963 (Xi S 904 98).toNat from (w320.cx 963 rfl _).1).trans ((show Xi T21 963 (Xi S 904 98).toNat = Xi U20 963 (Xi S 904 98).toNat from (w302.cx 963 rfl _).1))))))
      have w358 : Xi U26 964 (Xi S 904 98).toNat = Xi U9 964 (Xi S 904 98).toNat := (show Xi U26 964 (Xi S 904 98).toNat = Xi U25 964 (Xi S 904 98).toNat from by rw [eU26]; exact Xi_ne (by omega)).trans ( (show Xi U25 964 (Xi S 904 98).toNat = Xi U24 964 (Xi S 904 98).toNat from by rw [eU25]; exact Xi_ne (by omega)).trans ( (show Xi U24 964 (Xi S 904 98).toNat = Xi T23 964 (Xi S 904 98).toNat from by rw [eU24]; exact Xi_ne (by omega)).trans ( (show Xi T23 964 (Xi S 904 98).toNat = Xi T22 964 (Xi S 904 98).toNat from (w341.cx 964 rfl _).1).trans ( (show Xi T22 964 (Xi S 904 98).toNat = Xi T21 964 (Xi S 904 98).toNat from (w320.cx 964 rfl _).1).trans ( (show Xi T21 964 (Xi S 904 98).toNat = Xi U20 964 (Xi S 904 98).toNat from (w302.cx 964 rfl _).1).trans ( (show Xi U20 964 (Xi S 904 98).toNat = Xi U11 964 (Xi S 904 98).toNat from by rw [eU20]; exact Xi_ne (by omega)).trans ( (show Xi U11 964 (Xi S 904 98).toNat = Xi U10 964 (Xi S 904 98).toNat from by rw [eU11]; exact Xi_ne (by omega)).trans ((show Xi U10 964 (Xi S 904 98).toNat = Xi U9 964 (Xi S 904 98).toNat from by rw [eU10]; exact Xi_ne (by omega))))))))))
      have w359 : Xi U26 904 65 = Xi T23 904 65 := (show Xi U26 904 65 = Xi U25 904 65 from by rw [eU26]; exact Xi_ne (by omega)).trans ( (show Xi U25 904 65 = Xi U24 904 65 from by rw [eU25]; exact Xi_ne (by omega)).trans ((show Xi U24 904 65 = Xi T23 904 65 from by rw [eU24]; exact Xi_ne (by omega))))
      have w360 : 0 ≤ Xi T23 904 65 ∧ Xi T23 904 65 ≤ 1 := hHT23.c _ _
      have w361 : Xi U26 904 69 = Xi T23 904 69 := (show Xi U26 904 69 = Xi U25 904 69 from by rw [eU26]; exact Xi_ne (by omega)).trans ( (show Xi U25 904 69 = Xi U24 904 69 from by rw [eU25]; exact Xi_ne (by omega)).trans ((show Xi U24 904 69 = Xi T23 904 69 from by rw [eU24]; exact Xi_ne (by omega))))
      have w362 : 0 ≤ Xi T23 904 69 ∧ Xi T23 904 69 ≤ 2600 := hHT23.c _ _
      have w363 : Xi U26 904 8 = Xi T23 904 8 := (show Xi U26 904 8 = Xi U25 904 8 from by rw [eU26]; exact Xi_ne (by omega)).trans ( (show Xi U25 904 8 = Xi U24 904 8 from by rw [eU25]; exact Xi_ne (by omega)).trans ((show Xi U24 904 8 = Xi T23 904 8 from by rw [eU24]; exact Xi_ne (by omega))))
      have w364 : 0 ≤ Xi T23 904 8 ∧ Xi T23 904 8 ≤ 5010 := hHT23.c _ _
      have w365 : 0 ≤ Xi U26 904 93 ∧ Xi U26 904 93 ≤ 1700 := hHU26.c _ _
      have w366 : Xi U26 904 98 = Xi S 904 98 := (show Xi U26 904 98 = Xi U25 904 98 from by rw [eU26]; exact Xi_ne (by omega)).trans ( (show Xi U25 904 98 = Xi U24 904 98 from by rw [eU25]; exact Xi_ne (by omega)).trans ( (show Xi U24 904 98 = Xi T23 904 98 from by rw [eU24]; exact Xi_ne (by omega)).trans ( (show Xi T23 904 98 = Xi T22 904 98 from w341.x _ _ rfl).trans ( (show Xi T22 904 98 = Xi T21 904 98 from w320.x _ _ rfl).trans ( (show Xi T21 904 98 = Xi U20 904 98 from w302.x _ _ rfl).trans ( (show Xi U20 904 98 = Xi U11 904 98 from by rw [eU20]; exact Xi_ne (by omega)).trans ( (show Xi U11 904 98 = Xi U10 904 98 from by rw [eU11]; exact Xi_ne (by omega)).trans ( (show Xi U10 904 98 = Xi U9 904 98 from by rw [eU10]; exact Xi_ne (by omega)).trans ( (show Xi U9 904 98 = Xi U8 904 98 from by rw [eU9]; exact Xi_ne (by omega)).trans ((show Xi U8 904 98 = Xi S 904 98 from by rw [eU8]; exact Xi_ne (by omega))))))))))))
      have w367 : 0 ≤ Xi S 904 98 ∧ Xi S 904 98 ≤ 1700 := hH.c _ _
      exact Rl_weak (C409 U26 hHU26 hFU26  (by first | assumption | exact AT_bad (by omega)) (by first | assumption | exact (RNV_FR (FR_e eU26) rfl (RNV_FR (FR_e eU25) rfl (RNV_FR (FR_e eU24) rfl (by assumption : RNV T23 _))))) (by omega) (by omega) (by omega) (by omega) (by omega) (by omega) (by omega) (by omega) ((KT_FR (FR_e eU26) rfl (KT.w (KT.w (KT_FR w341 rfl (KT_FR w320 rfl (KT.tr (KT_FR (FR_e eU20) rfl (KT_FR (FR_e eU11) rfl (KT.w (KT_FR (FR_e eU9) rfl (KT_FR (FR_e eU8) rfl KT.rf)) eU10 (by omega)))) (by assumption : KT T21 U20 _) (by omega)))) eU24 (by omega)) eU25 (by omega)))) ((KP.w (KP.w (KP.w (KP_FR w341 rfl (KP_FR w320 rfl (KP_FR w302 rfl (KP.w (KP.w (KP.w (KP.w (KP.w KP.rf eU8 (by omega)) eU9 (by omega)) eU10 (by omega)) eU11 (by omega)) eU20 (by omega))))) eU24 (by omega)) eU25 (by omega)) eU26 (by omega))) (by first | exact fun q => pv_i (t := (Xi S 904 93).toNat) (E128 q) (by omega) (by omega) | exact fun q => pv_i (t := (Xi S 904 93).toNat) (E143 q) (by omega) (by omega) | exact fun q => pv_i (t := (Xi S 904 93).toNat) (E212 q) (by omega) (by omega) | exact fun q => pv_i (t := (Xi S 904 93).toNat) (E368 q) (by omega) (by omega) | exact fun q => pv_i (t := (Xi S 904 93).toNat) (E389 q) (by omega) (by omega) | exact fun q => pv_i (t := (Xi S 904 93).toNat) (E275 _ (by omega) q) rfl (by omega) | exact fun q => absurd q (by omega))) (And.intro rfl (True.intro))
    | 3, hii =>
      cases hii
      have w368 : z171 = 146 := by simpa using w174
      refine l_aload_n rfl rfl ?_
      have t218 : AT U11 n (c + 1) ∧ _ := at_mv (c2 := c + 1) hT hA (fun j => (hFU10.cx 907 rfl j).1) (fun j => (hFU10.cx 908 rfl j).1) (by omega) (by omega) (by omega) (by omega) eU11 (by omega) (by omega) (by omega) (by omega) (Or.inr ⟨rfl, by unfold K3; omega⟩)
      have a218 : AT U11 n (c + 1) := t218.1
      have l218 := t218.2
      clear t218 l39
      refine l_gfr rfl rfl rfl rfl rfl (hHU11.r 904 95 963 rfl) ?_
      refine l_iload_n rfl rfl ?_
      refine l_iload_n rfl rfl ?_
      refine l_sipush rfl rfl ?_
      refine l_icmp_ne rfl rfl (by unfold rg; omega) (by unfold rg; omega) (fun w369 => ?_) (fun w370 => ?_)
      · refine l_iconst rfl ?_
        refine l_iastore (n := 1700) rfl rfl (by omega) (by omega) (by unfold rg; omega) ?_
        obtain ⟨U27, eU27⟩ : ∃ T : sS, T = uI U11 963 (((Xi S 904 98)).toNat) (Int32.ofInt 4) := ⟨_, rfl⟩
        rw [← eU27]
        have hHU27 : HI U27 := by rw [eU27]; exact HI_w hHU11 (show 0 ≤ 4 by omega) (show 4 ≤ 6 by omega)
        have hFU27 : FR md_mo_phrase S U27 := by rw [eU27]; exact FR.wI hFU11 (mdf_i (r := (963, 964, 0, 100000)) (List.mem_of_getElem? (i := 23) rfl) (inR_i (by omega) (by omega) (by omega) (by omega)))
        have w371 : Xi U27 963 (((Xi S 904 98)).toNat) = 4 := by rw [eU27]; exact Xi_same (by unfold rg; omega)
        refine l_aload_n rfl rfl ?_
        have w372 : Xi U27 904 65 = Xi S 904 65 := (show Xi U27 904 65 = Xi U11 904 65 from by rw [eU27]; exact Xi_ne (by omega)).trans ( (show Xi U11 904 65 = Xi U10 904 65 from by rw [eU11]; exact Xi_ne (by omega)).trans ( (show Xi U10 904 65 = Xi U9 904 65 from by rw [eU10]; exact Xi_ne (by omega)).trans ( (show Xi U9 904 65 = Xi U8 904 65 from by rw [eU9]; exact Xi_ne (by omega)).trans ((show Xi U8 904 65 = Xi S 904 65 from by rw [eU8]; exact Xi_ne (by omega))))))
        have w373 : 0 ≤ Xi S 904 65 ∧ Xi S 904 65 ≤ 1 := hH.c _ _
        have w374 : Xi U27 904 69 = Xi S 904 69 := (show Xi U27 904 69 = Xi U11 904 69 from by rw [eU27]; exact Xi_ne (by omega)).trans ( (show Xi U11 904 69 = Xi U10 904 69 from by rw [eU11]; exact Xi_ne (by omega)).trans ( (show Xi U10 904 69 = Xi U9 904 69 from by rw [eU10]; exact Xi_ne (by omega)).trans ( (show Xi U9 904 69 = Xi U8 904 69 from by rw [eU9]; exact Xi_ne (by omega)).trans ((show Xi U8 904 69 = Xi S 904 69 from by rw [eU8]; exact Xi_ne (by omega))))))
        have w375 : 0 ≤ Xi S 904 69 ∧ Xi S 904 69 ≤ 2600 := hH.c _ _
        have w376 : Xi U27 904 8 = Xi U11 904 8 := (show Xi U27 904 8 = Xi U11 904 8 from by rw [eU27]; exact Xi_ne (by omega))
        have w377 : 0 ≤ Xi U11 904 8 ∧ Xi U11 904 8 ≤ 5010 := hHU11.c _ _
        have w378 : Xi U27 904 93 = Xi S 904 93 := (show Xi U27 904 93 = Xi U11 904 93 from by rw [eU27]; exact Xi_ne (by omega)).trans ( (show Xi U11 904 93 = Xi U10 904 93 from by rw [eU11]; exact Xi_ne (by omega)).trans ( (show Xi U10 904 93 = Xi U9 904 93 from by rw [eU10]; exact Xi_ne (by omega)).trans ( (show Xi U9 904 93 = Xi U8 904 93 from by rw [eU9]; exact Xi_ne (by omega)).trans ((show Xi U8 904 93 = Xi S 904 93 from by rw [eU8]; exact Xi_ne (by omega))))))
        have w379 : 0 ≤ Xi S 904 93 ∧ Xi S 904 93 ≤ 1700 := hH.c _ _
        have w380 : Xi U27 904 98 = Xi S 904 98 := (show Xi U27 904 98 = Xi U11 904 98 from by rw [eU27]; exact Xi_ne (by omega)).trans ( (show Xi U11 904 98 = Xi U10 904 98 from by rw [eU11]; exact Xi_ne (by omega)).trans ( (show Xi U10 904 98 = Xi U9 904 98 from by rw [eU10]; exact Xi_ne (by omega)).trans ( (show Xi U9 904 98 = Xi U8 904 98 from by rw [eU9]; exact Xi_ne (by omega)).trans ((show Xi U8 904 98 = Xi S 904 98 from by rw [eU8]; exact Xi_ne (by omega))))))
        have w381 : 0 ≤ Xi S 904 98 ∧ Xi S 904 98 ≤ 1700 := hH.c _ _
        refine l_callV rfl rfl rfl (t_mo_property hHU27 n (c + 1) (by first | assumption | exact (TK_FR hFU27 rfl (by assumption : TK S _))) (by first | assumption | exact (AT_FR (FR_e eU27) rfl (by assumption : AT U11 _ _))) (by first | assumption | exact (RNV_FR (FR_e eU27) rfl (RNV_FR (FR_e eU11) rfl (RNV_FR (FR_e eU10) rfl (RNV_FR (FR_e eU9) rfl (RNV_FR (FR_e eU8) rfl (by assumption : RNV S _))))))) (by first | assumption | omega) _) ?_
        rintro _ T28 ⟨hHT28, w389, rfl, w382, w383, w384, w385, w386, w387, p237_⟩
        have hFT28 : FR md_mo_phrase S T28 := FR.tr hFU27 w389 rfl
        show Rl _ _ _ _ _ [] _ _
        have w391 : 0 ≤ Xi T28 904 8 ∧ Xi T28 904 8 ≤ 5010 := hHT28.c _ _
        have w392 : 0 ≤ Xi T28 904 65 ∧ Xi T28 904 65 ≤ 1 := hHT28.c _ _
        have w393 : 0 ≤ Xi T28 904 69 ∧ Xi T28 904 69 ≤ 2600 := hHT28.c _ _
        have w394 : Xi T28 904 93 = Xi S 904 93 := (show Xi T28 904 93 = Xi U27 904 93 from w389.x _ _ rfl).trans ( (show Xi U27 904 93 = Xi U11 904 93 from by rw [eU27]; exact Xi_ne (by omega)).trans ( (show Xi U11 904 93 = Xi U10 904 93 from by rw [eU11]; exact Xi_ne (by omega)).trans ( (show Xi U10 904 93 = Xi U9 904 93 from by rw [eU10]; exact Xi_ne (by omega)).trans ( (show Xi U9 904 93 = Xi U8 904 93 from by rw [eU9]; exact Xi_ne (by omega)).trans ((show Xi U8 904 93 = Xi S 904 93 from by rw [eU8]; exact Xi_ne (by omega)))))))
        have w395 : 0 ≤ Xi S 904 93 ∧ Xi S 904 93 ≤ 1700 := hH.c _ _
        have p237 : Xi T28 904 65 = 0 → Xi T28 956 (Xi S 904 93).toNat < Xi T28 904 69 := by rw [show (Xi S 904 93).toNat = (Xi U27 904 93).toNat by omega]; exact p237_
        clear p237_
        have w390 : Xi S 904 8 ≤ Xi T28 904 8 ∧ Xi T28 904 8 ≤ n ∧ Xi S 904 69 ≤ Xi T28 904 69 ∧ (Xi T28 904 65 = 0 → Xi S 904 65 = 0) := by omega
        clear w383 w385 w386
        refine l_aload_n rfl rfl ?_
        have w396 : 0 ≤ Xi T28 904 65 ∧ Xi T28 904 65 ≤ 1 := hHT28.c _ _
        have w397 : 0 ≤ Xi T28 904 69 ∧ Xi T28 904 69 ≤ 2600 := hHT28.c _ _
        have w398 : 0 ≤ Xi T28 904 8 ∧ Xi T28 904 8 ≤ 5010 := hHT28.c _ _
        have w399 : Xi T28 904 93 = Xi S 904 93 := (show Xi T28 904 93 = Xi U27 904 93 from w389.x _ _ rfl).trans ( (show Xi U27 904 93 = Xi U11 904 93 from by rw [eU27]; exact Xi_ne (by omega)).trans ( (show Xi U11 904 93 = Xi U10 904 93 from by rw [eU11]; exact Xi_ne (by omega)).trans ( (show Xi U10 904 93 = Xi U9 904 93 from by rw [eU10]; exact Xi_ne (by omega)).trans ( (show Xi U9 904 93 = Xi U8 904 93 from by rw [eU9]; exact Xi_ne (by omega)).trans ((show Xi U8 904 93 = Xi S 904 93 from by rw [eU8]; exact Xi_ne (by omega)))))))
        have w400 : 0 ≤ Xi S 904 93 ∧ Xi S 904 93 ≤ 1700 := hH.c _ _
        have w401 : Xi T28 904 98 = Xi S 904 98 := (show Xi T28 904 98 = Xi U27 904 98 from w389.x _ _ rfl).trans ( (show Xi U27 904 98 = Xi U11 904 98 from by rw [eU27]; exact Xi_ne (by omega)).trans ( (show Xi U11 904 98 = Xi U10 904 98 from by rw [eU11]; exact Xi_ne (by omega)).trans ( (show Xi U10 904 98 = Xi U9 904 98 from by rw [eU10]; exact Xi_ne (by omega)).trans ( (show Xi U9 904 98 = Xi U8 904 98 from by rw [eU9]; exact Xi_ne (by omega)).trans ((show Xi U8 904 98 = Xi S 904 98 from by rw [eU8]; exact Xi_ne (by omega)))))))
        have w402 : 0 ≤ Xi S 904 98 ∧ Xi S 904 98 ≤ 1700 := hH.c _ _
        refine l_callV rfl rfl rfl (t_mo_thingOfTest hHT28 n (c + 1) (by first | assumption | exact (TK_FR hFT28 rfl (by assumption : TK S _))) (by first | assumption | exact (by assumption : AT T28 _ _)) (by first | assumption | exact (by assumption : RNV T28 _)) (by first | assumption | omega) _) ?_
        rintro _ T29 ⟨hHT29, w409, rfl, w403, w404, w405, kb241, w406, w407, h241_⟩
        have hFT29 : FR md_mo_phrase S T29 := FR.tr hFT28 w409 rfl
        show Rl _ _ _ _ _ [] _ _
        have w411 : 0 ≤ Xi T29 904 8 ∧ Xi T29 904 8 ≤ 5010 := hHT29.c _ _
        have w412 : 0 ≤ Xi T29 904 65 ∧ Xi T29 904 65 ≤ 1 := hHT29.c _ _
        have w413 : 0 ≤ Xi T29 904 69 ∧ Xi T29 904 69 ≤ 2600 := hHT29.c _ _
        have w414 : Xi T29 904 93 = Xi S 904 93 := (show Xi T29 904 93 = Xi T28 904 93 from w409.x _ _ rfl).trans ( (show Xi T28 904 93 = Xi U27 904 93 from w389.x _ _ rfl).trans ( (show Xi U27 904 93 = Xi U11 904 93 from by rw [eU27]; exact Xi_ne (by omega)).trans ( (show Xi U11 904 93 = Xi U10 904 93 from by rw [eU11]; exact Xi_ne (by omega)).trans ( (show Xi U10 904 93 = Xi U9 904 93 from by rw [eU10]; exact Xi_ne (by omega)).trans ( (show Xi U9 904 93 = Xi U8 904 93 from by rw [eU9]; exact Xi_ne (by omega)).trans ((show Xi U8 904 93 = Xi S 904 93 from by rw [eU8]; exact Xi_ne (by omega))))))))
        have w415 : 0 ≤ Xi S 904 93 ∧ Xi S 904 93 ≤ 1700 := hH.c _ _
        have h241 : Xi T29 904 65 = 0 → THV (Xi T29 904 69) n (Xi T29 954 (Xi S 904 93).toNat) (Xi T29 955 (Xi S 904 93).toNat) := by rw [show (Xi S 904 93).toNat = (Xi T28 904 93).toNat by omega]; exact h241_
        clear h241_
        have p241 : Xi T29 904 65 = 0 → Xi T29 956 (Xi S 904 93).toNat < Xi T29 904 69 := fun q => by have t := p237 (kb241 q); rw [((by assumption : FR md_mo_thingOfTest T28 T29).cx 956 rfl _).1]; omega
        clear p237
        have w410 : Xi S 904 8 ≤ Xi T29 904 8 ∧ Xi T29 904 8 ≤ n ∧ Xi S 904 69 ≤ Xi T29 904 69 ∧ (Xi T29 904 65 = 0 → Xi S 904 65 = 0) := by omega
        clear w404 kb241 w406 w390
        refine l_aload_n rfl rfl ?_
        refine l_bipush rfl rfl ?_
        have w416 : 0 ≤ Xi T29 904 65 ∧ Xi T29 904 65 ≤ 1 := hHT29.c _ _
        have w417 : 0 ≤ Xi T29 904 69 ∧ Xi T29 904 69 ≤ 2600 := hHT29.c _ _
        have w418 : 0 ≤ Xi T29 904 8 ∧ Xi T29 904 8 ≤ 5010 := hHT29.c _ _
        have w419 : Xi T29 904 93 = Xi S 904 93 := (show Xi T29 904 93 = Xi T28 904 93 from w409.x _ _ rfl).trans ( (show Xi T28 904 93 = Xi U27 904 93 from w389.x _ _ rfl).trans ( (show Xi U27 904 93 = Xi U11 904 93 from by rw [eU27]; exact Xi_ne (by omega)).trans ( (show Xi U11 904 93 = Xi U10 904 93 from by rw [eU11]; exact Xi_ne (by omega)).trans ( (show Xi U10 904 93 = Xi U9 904 93 from by rw [eU10]; exact Xi_ne (by omega)).trans ( (show Xi U9 904 93 = Xi U8 904 93 from by rw [eU9]; exact Xi_ne (by omega)).trans ((show Xi U8 904 93 = Xi S 904 93 from by rw [eU8]; exact Xi_ne (by omega))))))))
        have w420 : 0 ≤ Xi S 904 93 ∧ Xi S 904 93 ≤ 1700 := hH.c _ _
        have w421 : Xi T29 904 98 = Xi S 904 98 := (show Xi T29 904 98 = Xi T28 904 98 from w409.x _ _ rfl).trans ( (show Xi T28 904 98 = Xi U27 904 98 from w389.x _ _ rfl).trans ( (show Xi U27 904 98 = Xi U11 904 98 from by rw [eU27]; exact Xi_ne (by omega)).trans ( (show Xi U11 904 98 = Xi U10 904 98 from by rw [eU11]; exact Xi_ne (by omega)).trans ( (show Xi U10 904 98 = Xi U9 904 98 from by rw [eU10]; exact Xi_ne (by omega)).trans ( (show Xi U9 904 98 = Xi U8 904 98 from by rw [eU9]; exact Xi_ne (by omega)).trans ((show Xi U8 904 98 = Xi S 904 98 from by rw [eU8]; exact Xi_ne (by omega))))))))
        have w422 : 0 ≤ Xi S 904 98 ∧ Xi S 904 98 ≤ 1700 := hH.c _ _
        refine l_callV rfl rfl rfl (t_mo_take__2 hHT29 n (c + 1) 110 ⟨by omega, by omega⟩ (by first | assumption | exact (TK_FR hFT29 rfl (by assumption : TK S _))) (by first | assumption | exact (by assumption : AT T29 _ _)) (by first | assumption | omega) _) ?_
        rintro _ T30 ⟨hHT30, w427, rfl, w423, w424, kb247, w425⟩
        have hFT30 : FR md_mo_phrase S T30 := FR.tr hFT29 w427 rfl
        show Rl _ _ _ _ _ [] _ _
        have w429 : 0 ≤ Xi T30 904 8 ∧ Xi T30 904 8 ≤ 5010 := hHT30.c _ _
        have w430 : 0 ≤ Xi T30 904 65 ∧ Xi T30 904 65 ≤ 1 := hHT30.c _ _
        have w431 : Xi T30 904 69 = Xi T29 904 69 := (show Xi T30 904 69 = Xi T29 904 69 from w427.x _ _ rfl)
        have w432 : 0 ≤ Xi T29 904 69 ∧ Xi T29 904 69 ≤ 2600 := hHT29.c _ _
        have w433 : Xi T30 904 93 = Xi S 904 93 := (show Xi T30 904 93 = Xi T29 904 93 from w427.x _ _ rfl).trans ( (show Xi T29 904 93 = Xi T28 904 93 from w409.x _ _ rfl).trans ( (show Xi T28 904 93 = Xi U27 904 93 from w389.x _ _ rfl).trans ( (show Xi U27 904 93 = Xi U11 904 93 from by rw [eU27]; exact Xi_ne (by omega)).trans ( (show Xi U11 904 93 = Xi U10 904 93 from by rw [eU11]; exact Xi_ne (by omega)).trans ( (show Xi U10 904 93 = Xi U9 904 93 from by rw [eU10]; exact Xi_ne (by omega)).trans ( (show Xi U9 904 93 = Xi U8 904 93 from by rw [eU9]; exact Xi_ne (by omega)).trans ((show Xi U8 904 93 = Xi S 904 93 from by rw [eU8]; exact Xi_ne (by omega)))))))))
        have w434 : 0 ≤ Xi S 904 93 ∧ Xi S 904 93 ≤ 1700 := hH.c _ _
        have p247 : Xi T30 904 65 = 0 → Xi T30 956 (Xi S 904 93).toNat < Xi T30 904 69 := fun q => by have t := p241 (kb247 q); rw [((by assumption : FR md_mo_take T29 T30).cx 956 rfl _).1]; omega
        have h247 : Xi T30 904 65 = 0 → THV (Xi T30 904 69) n (Xi T30 954 (Xi S 904 93).toNat) (Xi T30 955 (Xi S 904 93).toNat) := fun q => thv_c (h241 (kb247 q)) (by omega) ((by assumption : FR md_mo_take T29 T30).cx 954 rfl _).1 ((by assumption : FR md_mo_take T29 T30).cx 955 rfl _).1
        clear p241 h241
        have w428 : Xi S 904 8 ≤ Xi T30 904 8 ∧ Xi T30 904 8 ≤ n ∧ Xi S 904 69 ≤ Xi T30 904 69 ∧ (Xi T30 904 65 = 0 → Xi S 904 65 = 0) := by omega
        clear w424 kb247 w425 w410
        refine l_aload_n rfl rfl ?_
        refine l_gfr rfl rfl rfl rfl rfl (hHT30.r 904 87 957 rfl) ?_
        refine l_aload_n rfl rfl ?_
        refine l_gfi rfl rfl rfl rfl rfl ?_
        have w435 : (Xi T30 904 93) = (Xi S 904 93) := (show Xi T30 904 93 = Xi T29 904 93 from w427.x _ _ rfl).trans ( (show Xi T29 904 93 = Xi T28 904 93 from w409.x _ _ rfl).trans ( (show Xi T28 904 93 = Xi U27 904 93 from w389.x _ _ rfl).trans ( (show Xi U27 904 93 = Xi U11 904 93 from by rw [eU27]; exact Xi_ne (by omega)).trans ( (show Xi U11 904 93 = Xi U10 904 93 from by rw [eU11]; exact Xi_ne (by omega)).trans ( (show Xi U10 904 93 = Xi U9 904 93 from by rw [eU10]; exact Xi_ne (by omega)).trans ( (show Xi U9 904 93 = Xi U8 904 93 from by rw [eU9]; exact Xi_ne (by omega)).trans ((show Xi U8 904 93 = Xi S 904 93 from by rw [eU8]; exact Xi_ne (by omega)))))))))
        rw [w435]
        refine l_aload_n rfl rfl ?_
        refine l_gfi rfl rfl rfl rfl rfl ?_
        have w436 : 0 ≤ (Xi T30 904 8) ∧ (Xi T30 904 8) ≤ 5010 := hHT30.c _ _
        refine l_iastore (n := 1700) rfl rfl (by omega) (by omega) (by unfold rg; omega) ?_
        obtain ⟨U31, eU31⟩ : ∃ T : sS, T = uI T30 957 (((Xi S 904 93)).toNat) (Int32.ofInt (Xi T30 904 8)) := ⟨_, rfl⟩
        rw [← eU31]
        have hHU31 : HI U31 := by rw [eU31]; exact HI_w hHT30 (show 0 ≤ (Xi T30 904 8) by omega) (show (Xi T30 904 8) ≤ 5010 by omega)
        have hFU31 : FR md_mo_phrase S U31 := by rw [eU31]; exact FR.wI hFT30 (mdf_i (r := (957, 958, 0, 100000)) (List.mem_of_getElem? (i := 17) rfl) (inR_i (by omega) (by omega) (by omega) (by omega)))
        have w437 : Xi U31 957 (((Xi S 904 93)).toNat) = (Xi T30 904 8) := by rw [eU31]; exact Xi_same (by unfold rg; omega)
        have p262 : Xi U31 904 65 = 0 → Xi U31 956 (Xi S 904 93).toNat < Xi U31 904 69 := fun q => (by rw [eU31, Xi_ne (by omega)] at q; have t := p247 q; rw [eU31, Xi_ne (by omega), Xi_ne (by omega)]; exact t)
        have h262 : Xi U31 904 65 = 0 → THV (Xi U31 904 69) n (Xi U31 954 (Xi S 904 93).toNat) (Xi U31 955 (Xi S 904 93).toNat) := fun q => (by rw [eU31, Xi_ne (by omega)] at q; exact thv_c (h247 q) (by rw [eU31, Xi_ne (by omega)]; exact Int.le_refl _) (by rw [eU31, Xi_ne (by omega)]) (by rw [eU31, Xi_ne (by omega)]))
        have m262 : Xi U31 957 (Xi S 904 93).toNat ≤ n := by omega
        clear p247 h247
        refine l_aload_n rfl rfl ?_
        refine l_iconst rfl ?_
        have w438 : Xi U31 904 65 = Xi T30 904 65 := (show Xi U31 904 65 = Xi T30 904 65 from by rw [eU31]; exact Xi_ne (by omega))
        have w439 : 0 ≤ Xi T30 904 65 ∧ Xi T30 904 65 ≤ 1 := hHT30.c _ _
        have w440 : Xi U31 904 69 = Xi T29 904 69 := (show Xi U31 904 69 = Xi T30 904 69 from by rw [eU31]; exact Xi_ne (by omega)).trans ((show Xi T30 904 69 = Xi T29 904 69 from w427.x _ _ rfl))
        have w441 : 0 ≤ Xi T29 904 69 ∧ Xi T29 904 69 ≤ 2600 := hHT29.c _ _
        have w442 : Xi U31 904 8 = Xi T30 904 8 := (show Xi U31 904 8 = Xi T30 904 8 from by rw [eU31]; exact Xi_ne (by omega))
        have w443 : 0 ≤ Xi T30 904 8 ∧ Xi T30 904 8 ≤ 5010 := hHT30.c _ _
        have w444 : Xi U31 904 93 = Xi S 904 93 := (show Xi U31 904 93 = Xi T30 904 93 from by rw [eU31]; exact Xi_ne (by omega)).trans ( (show Xi T30 904 93 = Xi T29 904 93 from w427.x _ _ rfl).trans ( (show Xi T29 904 93 = Xi T28 904 93 from w409.x _ _ rfl).trans ( (show Xi T28 904 93 = Xi U27 904 93 from w389.x _ _ rfl).trans ( (show Xi U27 904 93 = Xi U11 904 93 from by rw [eU27]; exact Xi_ne (by omega)).trans ( (show Xi U11 904 93 = Xi U10 904 93 from by rw [eU11]; exact Xi_ne (by omega)).trans ( (show Xi U10 904 93 = Xi U9 904 93 from by rw [eU10]; exact Xi_ne (by omega)).trans ( (show Xi U9 904 93 = Xi U8 904 93 from by rw [eU9]; exact Xi_ne (by omega)).trans ((show Xi U8 904 93 = Xi S 904 93 from by rw [eU8]; exact Xi_ne (by omega))))))))))
        have w445 : 0 ≤ Xi S 904 93 ∧ Xi S 904 93 ≤ 1700 := hH.c _ _
        have w446 : Xi U31 904 98 = Xi S 904 98 := (show Xi U31 904 98 = Xi T30 904 98 from by rw [eU31]; exact Xi_ne (by omega)).trans ( (show Xi T30 904 98 = Xi T29 904 98 from w427.x _ _ rfl).trans ( (show Xi T29 904 98 = Xi T28 904 98 from w409.x _ _ rfl).trans ( (show Xi T28 904 98 = Xi U27 904 98 from w389.x _ _ rfl).trans ( (show Xi U27 904 98 = Xi U11 904 98 from by rw [eU27]; exact Xi_ne (by omega)).trans ( (show Xi U11 904 98 = Xi U10 904 98 from by rw [eU11]; exact Xi_ne (by omega)).trans ( (show Xi U10 904 98 = Xi U9 904 98 from by rw [eU10]; exact Xi_ne (by omega)).trans ( (show Xi U9 904 98 = Xi U8 904 98 from by rw [eU9]; exact Xi_ne (by omega)).trans ((show Xi U8 904 98 = Xi S 904 98 from by rw [eU8]; exact Xi_ne (by omega))))))))))
        have w447 : 0 ≤ Xi S 904 98 ∧ Xi S 904 98 ≤ 1700 := hH.c _ _
        refine l_callV rfl rfl rfl (t_mo_take__2 hHU31 n (c + 1) 4 ⟨by omega, by omega⟩ (by first | assumption | exact (TK_FR hFU31 rfl (by assumption : TK S _))) (by first | assumption | exact (AT_FR (FR_e eU31) rfl (by assumption : AT T30 _ _))) (by first | assumption | omega) _) ?_
        rintro _ T32 ⟨hHT32, w452, rfl, w448, w449, kb265, w450⟩
        have hFT32 : FR md_mo_phrase S T32 := FR.tr hFU31 w452 rfl
        show Rl _ _ _ _ _ [] _ _
        have w454 : 0 ≤ Xi T32 904 8 ∧ Xi T32 904 8 ≤ 5010 := hHT32.c _ _
        have w455 : 0 ≤ Xi T32 904 65 ∧ Xi T32 904 65 ≤ 1 := hHT32.c _ _
        have w456 : Xi T32 904 69 = Xi T29 904 69 := (show Xi T32 904 69 = Xi U31 904 69 from w452.x _ _ rfl).trans ( (show Xi U31 904 69 = Xi T30 904 69 from by rw [eU31]; exact Xi_ne (by omega)).trans ((show Xi T30 904 69 = Xi T29 904 69 from w427.x _ _ rfl)))
        have w457 : 0 ≤ Xi T29 904 69 ∧ Xi T29 904 69 ≤ 2600 := hHT29.c _ _
        have w458 : Xi T32 904 93 = Xi S 904 93 := (show Xi T32 904 93 = Xi U31 904 93 from w452.x _ _ rfl).trans ( (show Xi U31 904 93 = Xi T30 904 93 from by rw [eU31]; exact Xi_ne (by omega)).trans ( (show Xi T30 904 93 = Xi T29 904 93 from w427.x _ _ rfl).trans ( (show Xi T29 904 93 = Xi T28 904 93 from w409.x _ _ rfl).trans ( (show Xi T28 904 93 = Xi U27 904 93 from w389.x _ _ rfl).trans ( (show Xi U27 904 93 = Xi U11 904 93 from by rw [eU27]; exact Xi_ne (by omega)).trans ( (show Xi U11 904 93 = Xi U10 904 93 from by rw [eU11]; exact Xi_ne (by omega)).trans ( (show Xi U10 904 93 = Xi U9 904 93 from by rw [eU10]; exact Xi_ne (by omega)).trans ( (show Xi U9 904 93 = Xi U8 904 93 from by rw [eU9]; exact Xi_ne (by omega)).trans ((show Xi U8 904 93 = Xi S 904 93 from by rw [eU8]; exact Xi_ne (by omega)))))))))))
        have w459 : 0 ≤ Xi S 904 93 ∧ Xi S 904 93 ≤ 1700 := hH.c _ _
        have p265 : Xi T32 904 65 = 0 → Xi T32 956 (Xi S 904 93).toNat < Xi T32 904 69 := fun q => by have t := p262 (kb265 q); rw [((by assumption : FR md_mo_take U31 T32).cx 956 rfl _).1]; omega
        have h265 : Xi T32 904 65 = 0 → THV (Xi T32 904 69) n (Xi T32 954 (Xi S 904 93).toNat) (Xi T32 955 (Xi S 904 93).toNat) := fun q => thv_c (h262 (kb265 q)) (by omega) ((by assumption : FR md_mo_take U31 T32).cx 954 rfl _).1 ((by assumption : FR md_mo_take U31 T32).cx 955 rfl _).1
        have m265 : Xi T32 957 (Xi S 904 93).toNat ≤ n := by rw [((by assumption : FR md_mo_take U31 T32).cx 957 rfl _).1]; exact m262
        clear p262 h262
        have w453 : Xi S 904 8 ≤ Xi T32 904 8 ∧ Xi T32 904 8 ≤ n ∧ Xi S 904 69 ≤ Xi T32 904 69 ∧ (Xi T32 904 65 = 0 → Xi S 904 65 = 0) := by omega
        clear w449 kb265 w450 w428
        refine l_aload_n rfl rfl ?_
        refine l_dup rfl rfl ?_
        refine l_gfi rfl rfl rfl rfl rfl ?_
        have w460 : (Xi T32 904 93) = (Xi S 904 93) := (show Xi T32 904 93 = Xi U31 904 93 from w452.x _ _ rfl).trans ( (show Xi U31 904 93 = Xi T30 904 93 from by rw [eU31]; exact Xi_ne (by omega)).trans ( (show Xi T30 904 93 = Xi T29 904 93 from w427.x _ _ rfl).trans ( (show Xi T29 904 93 = Xi T28 904 93 from w409.x _ _ rfl).trans ( (show Xi T28 904 93 = Xi U27 904 93 from w389.x _ _ rfl).trans ( (show Xi U27 904 93 = Xi U11 904 93 from by rw [eU27]; exact Xi_ne (by omega)).trans ( (show Xi U11 904 93 = Xi U10 904 93 from by rw [eU11]; exact Xi_ne (by omega)).trans ( (show Xi U10 904 93 = Xi U9 904 93 from by rw [eU10]; exact Xi_ne (by omega)).trans ( (show Xi U9 904 93 = Xi U8 904 93 from by rw [eU9]; exact Xi_ne (by omega)).trans ((show Xi U8 904 93 = Xi S 904 93 from by rw [eU8]; exact Xi_ne (by omega)))))))))))
        rw [w460]
        refine l_iconst rfl ?_
        refine l_iadd rfl ?_
        refine l_pfi rfl rfl rfl rfl ?_
        obtain ⟨U33, eU33⟩ : ∃ T : sS, T = uI T32 904 93 (Int32.ofInt ((Xi S 904 93) + 1)) := ⟨_, rfl⟩
        rw [← eU33]
        have hHU33 : HI U33 := by rw [eU33]; exact HI_w hHT32 (show 0 ≤ ((Xi S 904 93) + 1) by omega) (show ((Xi S 904 93) + 1) ≤ 1700 by omega)
        have hFU33 : FR md_mo_phrase S U33 := by rw [eU33]; exact FR.wI hFT32 (mdf_i (r := (904, 905, 93, 94)) (List.mem_of_getElem? (i := 5) rfl) (inR_i (by omega) (by omega) (by omega) (by omega)))
        have w461 : Xi U33 904 93 = ((Xi S 904 93) + 1) := by rw [eU33]; exact Xi_same (by unfold rg; omega)
        have a275 : AT U33 n c := at_ct (c := c + 1) (by first | assumption | exact AT_FR (FR_e ) rfl (by assumption) | exact AT_FR (FR_e ) rfl (AT_FR (FR_e ) rfl (by assumption))) eU33 (by omega) (by omega) rfl
        have E275 : ∀ w : Int, (w = 3 ∨ w = 4) → Xi U33 904 65 = 0 → PVt U33 n w (Xi S 904 93).toNat := fun w hw q => (by rw [eU33, Xi_ne (by omega)] at q; exact pvt_w (pvt_3 hw (h265 q) (p265 q) m265) eU33 (by omega))
        clear p265 h265
        refine l_goto rfl rfl ?_
        have w462 : Xi U33 963 (Xi S 904 98).toNat = Xi U27 963 (Xi S 904 98).toNat := (show Xi U33 963 (Xi S 904 98).toNat = Xi T32 963 (Xi S 904 98).toNat from by rw [eU33]; exact Xi_ne (by omega)).trans ( (show Xi T32 963 (Xi S 904 98).toNat = Xi U31 963 (Xi S 904 98).toNat from (w452.cx 963 rfl _).1).trans ( (show Xi U31 963 (Xi S 904 98).toNat = Xi T30 963 (Xi S 904 98).toNat from by rw [eU31]; exact Xi_ne (by omega)).trans ( (show Xi T30 963 (Xi S 904 98).toNat = Xi T29 963 (Xi S 904 98).toNat from (w427.cx 963 rfl _).1).trans ( (show Xi T29 963 (Xi S 904 98).toNat = Xi T28 963 (Xi S 904 98).toNat from (w409.cx 963 rfl _).1).trans ((show Xi T28 963 (Xi S 904 98).toNat = Xi U27 963 (Xi S 904 98).toNat from (w389.cx 963 rfl _).1))))))
        have w463 : Xi U33 964 (Xi S 904 98).toNat = Xi U9 964 (Xi S 904 98).toNat := (show Xi U33 964 (Xi S 904 98).toNat = Xi T32 964 (Xi S 904 98).toNat from by rw [eU33]; exact Xi_ne (by omega)).trans ( (show Xi T32 964 (Xi S 904 98).toNat = Xi U31 964 (Xi S 904 98).toNat from (w452.cx 964 rfl _).1).trans ( (show Xi U31 964 (Xi S 904 98).toNat = Xi T30 964 (Xi S 904 98).toNat from by rw [eU31]; exact Xi_ne (by omega)).trans ( (show Xi T30 964 (Xi S 904 98).toNat = Xi T29 964 (Xi S 904 98).toNat from (w427.cx 964 rfl _).1).trans ( (show Xi T29 964 (Xi S 904 98).toNat = Xi T28 964 (Xi S 904 98).toNat from (w409.cx 964 rfl _).1).trans ( (show Xi T28 964 (Xi S 904 98).toNat = Xi U27 964 (Xi S 904 98).toNat from (w389.cx 964 rfl _).1).trans ( (show Xi U27 964 (Xi S 904 98).toNat = Xi U11 964 (Xi S 904 98).toNat from by rw [eU27]; exact Xi_ne (by omega)).trans ( (show Xi U11 964 (Xi S 904 98).toNat = Xi U10 964 (Xi S 904 98).toNat from by rw [eU11]; exact Xi_ne (by omega)).trans ((show Xi U10 964 (Xi S 904 98).toNat = Xi U9 964 (Xi S 904 98).toNat from by rw [eU10]; exact Xi_ne (by omega))))))))))
        have w464 : Xi U33 904 65 = Xi T32 904 65 := (show Xi U33 904 65 = Xi T32 904 65 from by rw [eU33]; exact Xi_ne (by omega))
        have w465 : 0 ≤ Xi T32 904 65 ∧ Xi T32 904 65 ≤ 1 := hHT32.c _ _
        have w466 : Xi U33 904 69 = Xi T29 904 69 := (show Xi U33 904 69 = Xi T32 904 69 from by rw [eU33]; exact Xi_ne (by omega)).trans ( (show Xi T32 904 69 = Xi U31 904 69 from w452.x _ _ rfl).trans ( (show Xi U31 904 69 = Xi T30 904 69 from by rw [eU31]; exact Xi_ne (by omega)).trans ((show Xi T30 904 69 = Xi T29 904 69 from w427.x _ _ rfl))))
        have w467 : 0 ≤ Xi T29 904 69 ∧ Xi T29 904 69 ≤ 2600 := hHT29.c _ _
        have w468 : Xi U33 904 8 = Xi T32 904 8 := (show Xi U33 904 8 = Xi T32 904 8 from by rw [eU33]; exact Xi_ne (by omega))
        have w469 : 0 ≤ Xi T32 904 8 ∧ Xi T32 904 8 ≤ 5010 := hHT32.c _ _
        have w470 : 0 ≤ Xi U33 904 93 ∧ Xi U33 904 93 ≤ 1700 := hHU33.c _ _
        have w471 : Xi U33 904 98 = Xi S 904 98 := (show Xi U33 904 98 = Xi T32 904 98 from by rw [eU33]; exact Xi_ne (by omega)).trans ( (show Xi T32 904 98 = Xi U31 904 98 from w452.x _ _ rfl).trans ( (show Xi U31 904 98 = Xi T30 904 98 from by rw [eU31]; exact Xi_ne (by omega)).trans ( (show Xi T30 904 98 = Xi T29 904 98 from w427.x _ _ rfl).trans ( (show Xi T29 904 98 = Xi T28 904 98 from w409.x _ _ rfl).trans ( (show Xi T28 904 98 = Xi U27 904 98 from w389.x _ _ rfl).trans ( (show Xi U27 904 98 = Xi U11 904 98 from by rw [eU27]; exact Xi_ne (by omega)).trans ( (show Xi U11 904 98 = Xi U10 904 98 from by rw [eU11]; exact Xi_ne (by omega)).trans ( (show Xi U10 904 98 = Xi U9 904 98 from by rw [eU10]; exact Xi_ne (by omega)).trans ( (show Xi U9 904 98 = Xi U8 904 98 from by rw [eU9]; exact Xi_ne (by omega)).trans ((show Xi U8 904 98 = Xi S 904 98 from by rw [eU8]; exact Xi_ne (by omega))))))))))))
        have w472 : 0 ≤ Xi S 904 98 ∧ Xi S 904 98 ≤ 1700 := hH.c _ _
        exact Rl_weak (C409 U33 hHU33 hFU33  (by first | assumption | exact AT_bad (by omega)) (by first | assumption | exact (RNV_FR (FR_e eU33) rfl (RNV_FR w452 rfl (RNV_FR (FR_e eU31) rfl (RNV_FR w427 rfl (by assumption : RNV T29 _)))))) (by omega) (by omega) (by omega) (by omega) (by omega) (by omega) (by omega) (by omega) ((KT_FR (FR_e eU33) rfl (KT_FR w452 rfl (KT.w (KT_FR w427 rfl (KT.tr (KT.tr (KT_FR (FR_e eU27) rfl (KT_FR (FR_e eU11) rfl (KT.w (KT_FR (FR_e eU9) rfl (KT_FR (FR_e eU8) rfl KT.rf)) eU10 (by omega)))) (by assumption : KT T28 U27 _) (by omega)) (by assumption : KT T29 T28 _) (by omega))) eU31 (by omega))))) ((KP.w (KP_FR w452 rfl (KP.w (KP_FR w427 rfl (KP_FR w409 rfl (KP_FR w389 rfl (KP.w (KP.w (KP.w (KP.w (KP.w KP.rf eU8 (by omega)) eU9 (by omega)) eU10 (by omega)) eU11 (by omega)) eU27 (by omega))))) eU31 (by omega))) eU33 (by omega))) (by first | exact fun q => pv_i (t := (Xi S 904 93).toNat) (E128 q) (by omega) (by omega) | exact fun q => pv_i (t := (Xi S 904 93).toNat) (E143 q) (by omega) (by omega) | exact fun q => pv_i (t := (Xi S 904 93).toNat) (E212 q) (by omega) (by omega) | exact fun q => pv_i (t := (Xi S 904 93).toNat) (E368 q) (by omega) (by omega) | exact fun q => pv_i (t := (Xi S 904 93).toNat) (E389 q) (by omega) (by omega) | exact fun q => pv_i (t := (Xi S 904 93).toNat) (E275 _ (by omega) q) rfl (by omega) | exact fun q => absurd q (by omega))) (And.intro rfl (True.intro))
      · refine l_iconst rfl ?_
        refine l_goto rfl rfl ?_
        refine l_iastore (n := 1700) rfl rfl (by omega) (by omega) (by unfold rg; omega) ?_
        obtain ⟨U34, eU34⟩ : ∃ T : sS, T = uI U11 963 (((Xi S 904 98)).toNat) (Int32.ofInt 3) := ⟨_, rfl⟩
        rw [← eU34]
        have hHU34 : HI U34 := by rw [eU34]; exact HI_w hHU11 (show 0 ≤ 3 by omega) (show 3 ≤ 6 by omega)
        have hFU34 : FR md_mo_phrase S U34 := by rw [eU34]; exact FR.wI hFU11 (mdf_i (r := (963, 964, 0, 100000)) (List.mem_of_getElem? (i := 23) rfl) (inR_i (by omega) (by omega) (by omega) (by omega)))
        have w473 : Xi U34 963 (((Xi S 904 98)).toNat) = 3 := by rw [eU34]; exact Xi_same (by unfold rg; omega)
        refine l_aload_n rfl rfl ?_
        have w474 : Xi U34 904 65 = Xi S 904 65 := (show Xi U34 904 65 = Xi U11 904 65 from by rw [eU34]; exact Xi_ne (by omega)).trans ( (show Xi U11 904 65 = Xi U10 904 65 from by rw [eU11]; exact Xi_ne (by omega)).trans ( (show Xi U10 904 65 = Xi U9 904 65 from by rw [eU10]; exact Xi_ne (by omega)).trans ( (show Xi U9 904 65 = Xi U8 904 65 from by rw [eU9]; exact Xi_ne (by omega)).trans ((show Xi U8 904 65 = Xi S 904 65 from by rw [eU8]; exact Xi_ne (by omega))))))
        have w475 : 0 ≤ Xi S 904 65 ∧ Xi S 904 65 ≤ 1 := hH.c _ _
        have w476 : Xi U34 904 69 = Xi S 904 69 := (show Xi U34 904 69 = Xi U11 904 69 from by rw [eU34]; exact Xi_ne (by omega)).trans ( (show Xi U11 904 69 = Xi U10 904 69 from by rw [eU11]; exact Xi_ne (by omega)).trans ( (show Xi U10 904 69 = Xi U9 904 69 from by rw [eU10]; exact Xi_ne (by omega)).trans ( (show Xi U9 904 69 = Xi U8 904 69 from by rw [eU9]; exact Xi_ne (by omega)).trans ((show Xi U8 904 69 = Xi S 904 69 from by rw [eU8]; exact Xi_ne (by omega))))))
        have w477 : 0 ≤ Xi S 904 69 ∧ Xi S 904 69 ≤ 2600 := hH.c _ _
        have w478 : Xi U34 904 8 = Xi U11 904 8 := (show Xi U34 904 8 = Xi U11 904 8 from by rw [eU34]; exact Xi_ne (by omega))
        have w479 : 0 ≤ Xi U11 904 8 ∧ Xi U11 904 8 ≤ 5010 := hHU11.c _ _
        have w480 : Xi U34 904 93 = Xi S 904 93 := (show Xi U34 904 93 = Xi U11 904 93 from by rw [eU34]; exact Xi_ne (by omega)).trans ( (show Xi U11 904 93 = Xi U10 904 93 from by rw [eU11]; exact Xi_ne (by omega)).trans ( (show Xi U10 904 93 = Xi U9 904 93 from by rw [eU10]; exact Xi_ne (by omega)).trans ( (show Xi U9 904 93 = Xi U8 904 93 from by rw [eU9]; exact Xi_ne (by omega)).trans ((show Xi U8 904 93 = Xi S 904 93 from by rw [eU8]; exact Xi_ne (by omega))))))
        have w481 : 0 ≤ Xi S 904 93 ∧ Xi S 904 93 ≤ 1700 := hH.c _ _
        have w482 : Xi U34 904 98 = Xi S 904 98 := (show Xi U34 904 98 = Xi U11 904 98 from by rw [eU34]; exact Xi_ne (by omega)).trans ( (show Xi U11 904 98 = Xi U10 904 98 from by rw [eU11]; exact Xi_ne (by omega)).trans ( (show Xi U10 904 98 = Xi U9 904 98 from by rw [eU10]; exact Xi_ne (by omega)).trans ( (show Xi U9 904 98 = Xi U8 904 98 from by rw [eU9]; exact Xi_ne (by omega)).trans ((show Xi U8 904 98 = Xi S 904 98 from by rw [eU8]; exact Xi_ne (by omega))))))
        have w483 : 0 ≤ Xi S 904 98 ∧ Xi S 904 98 ≤ 1700 := hH.c _ _
        refine l_callV rfl rfl rfl (t_mo_property hHU34 n (c + 1) (by first | assumption | exact (TK_FR hFU34 rfl (by assumption : TK S _))) (by first | assumption | exact (AT_FR (FR_e eU34) rfl (by assumption : AT U11 _ _))) (by first | assumption | exact (RNV_FR (FR_e eU34) rfl (RNV_FR (FR_e eU11) rfl (RNV_FR (FR_e eU10) rfl (RNV_FR (FR_e eU9) rfl (RNV_FR (FR_e eU8) rfl (by assumption : RNV S _))))))) (by first | assumption | omega) _) ?_
        rintro _ T35 ⟨hHT35, w491, rfl, w484, w485, w486, w487, w488, w489, p237_⟩
        have hFT35 : FR md_mo_phrase S T35 := FR.tr hFU34 w491 rfl
        show Rl _ _ _ _ _ [] _ _
        have w493 : 0 ≤ Xi T35 904 8 ∧ Xi T35 904 8 ≤ 5010 := hHT35.c _ _
        have w494 : 0 ≤ Xi T35 904 65 ∧ Xi T35 904 65 ≤ 1 := hHT35.c _ _
        have w495 : 0 ≤ Xi T35 904 69 ∧ Xi T35 904 69 ≤ 2600 := hHT35.c _ _
        have w496 : Xi T35 904 93 = Xi S 904 93 := (show Xi T35 904 93 = Xi U34 904 93 from w491.x _ _ rfl).trans ( (show Xi U34 904 93 = Xi U11 904 93 from by rw [eU34]; exact Xi_ne (by omega)).trans ( (show Xi U11 904 93 = Xi U10 904 93 from by rw [eU11]; exact Xi_ne (by omega)).trans ( (show Xi U10 904 93 = Xi U9 904 93 from by rw [eU10]; exact Xi_ne (by omega)).trans ( (show Xi U9 904 93 = Xi U8 904 93 from by rw [eU9]; exact Xi_ne (by omega)).trans ((show Xi U8 904 93 = Xi S 904 93 from by rw [eU8]; exact Xi_ne (by omega)))))))
        have w497 : 0 ≤ Xi S 904 93 ∧ Xi S 904 93 ≤ 1700 := hH.c _ _
        have p237 : Xi T35 904 65 = 0 → Xi T35 956 (Xi S 904 93).toNat < Xi T35 904 69 := by rw [show (Xi S 904 93).toNat = (Xi U34 904 93).toNat by omega]; exact p237_
        clear p237_
        have w492 : Xi S 904 8 ≤ Xi T35 904 8 ∧ Xi T35 904 8 ≤ n ∧ Xi S 904 69 ≤ Xi T35 904 69 ∧ (Xi T35 904 65 = 0 → Xi S 904 65 = 0) := by omega
        clear w485 w487 w488
        refine l_aload_n rfl rfl ?_
        have w498 : 0 ≤ Xi T35 904 65 ∧ Xi T35 904 65 ≤ 1 := hHT35.c _ _
        have w499 : 0 ≤ Xi T35 904 69 ∧ Xi T35 904 69 ≤ 2600 := hHT35.c _ _
        have w500 : 0 ≤ Xi T35 904 8 ∧ Xi T35 904 8 ≤ 5010 := hHT35.c _ _
        have w501 : Xi T35 904 93 = Xi S 904 93 := (show Xi T35 904 93 = Xi U34 904 93 from w491.x _ _ rfl).trans ( (show Xi U34 904 93 = Xi U11 904 93 from by rw [eU34]; exact Xi_ne (by omega)).trans ( (show Xi U11 904 93 = Xi U10 904 93 from by rw [eU11]; exact Xi_ne (by omega)).trans ( (show Xi U10 904 93 = Xi U9 904 93 from by rw [eU10]; exact Xi_ne (by omega)).trans ( (show Xi U9 904 93 = Xi U8 904 93 from by rw [eU9]; exact Xi_ne (by omega)).trans ((show Xi U8 904 93 = Xi S 904 93 from by rw [eU8]; exact Xi_ne (by omega)))))))
        have w502 : 0 ≤ Xi S 904 93 ∧ Xi S 904 93 ≤ 1700 := hH.c _ _
        have w503 : Xi T35 904 98 = Xi S 904 98 := (show Xi T35 904 98 = Xi U34 904 98 from w491.x _ _ rfl).trans ( (show Xi U34 904 98 = Xi U11 904 98 from by rw [eU34]; exact Xi_ne (by omega)).trans ( (show Xi U11 904 98 = Xi U10 904 98 from by rw [eU11]; exact Xi_ne (by omega)).trans ( (show Xi U10 904 98 = Xi U9 904 98 from by rw [eU10]; exact Xi_ne (by omega)).trans ( (show Xi U9 904 98 = Xi U8 904 98 from by rw [eU9]; exact Xi_ne (by omega)).trans ((show Xi U8 904 98 = Xi S 904 98 from by rw [eU8]; exact Xi_ne (by omega)))))))
        have w504 : 0 ≤ Xi S 904 98 ∧ Xi S 904 98 ≤ 1700 := hH.c _ _
        refine l_callV rfl rfl rfl (t_mo_thingOfTest hHT35 n (c + 1) (by first | assumption | exact (TK_FR hFT35 rfl (by assumption : TK S _))) (by first | assumption | exact (by assumption : AT T35 _ _)) (by first | assumption | exact (by assumption : RNV T35 _)) (by first | assumption | omega) _) ?_
        rintro _ T36 ⟨hHT36, w511, rfl, w505, w506, w507, kb241, w508, w509, h241_⟩
        have hFT36 : FR md_mo_phrase S T36 := FR.tr hFT35 w511 rfl
        show Rl _ _ _ _ _ [] _ _
        have w513 : 0 ≤ Xi T36 904 8 ∧ Xi T36 904 8 ≤ 5010 := hHT36.c _ _
        have w514 : 0 ≤ Xi T36 904 65 ∧ Xi T36 904 65 ≤ 1 := hHT36.c _ _
        have w515 : 0 ≤ Xi T36 904 69 ∧ Xi T36 904 69 ≤ 2600 := hHT36.c _ _
        have w516 : Xi T36 904 93 = Xi S 904 93 := (show Xi T36 904 93 = Xi T35 904 93 from w511.x _ _ rfl).trans ( (show Xi T35 904 93 = Xi U34 904 93 from w491.x _ _ rfl).trans ( (show Xi U34 904 93 = Xi U11 904 93 from by rw [eU34]; exact Xi_ne (by omega)).trans ( (show Xi U11 904 93 = Xi U10 904 93 from by rw [eU11]; exact Xi_ne (by omega)).trans ( (show Xi U10 904 93 = Xi U9 904 93 from by rw [eU10]; exact Xi_ne (by omega)).trans ( (show Xi U9 904 93 = Xi U8 904 93 from by rw [eU9]; exact Xi_ne (by omega)).trans ((show Xi U8 904 93 = Xi S 904 93 from by rw [eU8]; exact Xi_ne (by omega))))))))
        have w517 : 0 ≤ Xi S 904 93 ∧ Xi S 904 93 ≤ 1700 := hH.c _ _
        have h241 : Xi T36 904 65 = 0 → THV (Xi T36 904 69) n (Xi T36 954 (Xi S 904 93).toNat) (Xi T36 955 (Xi S 904 93).toNat) := by rw [show (Xi S 904 93).toNat = (Xi T35 904 93).toNat by omega]; exact h241_
        clear h241_
        have p241 : Xi T36 904 65 = 0 → Xi T36 956 (Xi S 904 93).toNat < Xi T36 904 69 := fun q => by have t := p237 (kb241 q); rw [((by assumption : FR md_mo_thingOfTest T35 T36).cx 956 rfl _).1]; omega
        clear p237
        have w512 : Xi S 904 8 ≤ Xi T36 904 8 ∧ Xi T36 904 8 ≤ n ∧ Xi S 904 69 ≤ Xi T36 904 69 ∧ (Xi T36 904 65 = 0 → Xi S 904 65 = 0) := by omega
        clear w506 kb241 w508 w492
        refine l_aload_n rfl rfl ?_
        refine l_bipush rfl rfl ?_
        have w518 : 0 ≤ Xi T36 904 65 ∧ Xi T36 904 65 ≤ 1 := hHT36.c _ _
        have w519 : 0 ≤ Xi T36 904 69 ∧ Xi T36 904 69 ≤ 2600 := hHT36.c _ _
        have w520 : 0 ≤ Xi T36 904 8 ∧ Xi T36 904 8 ≤ 5010 := hHT36.c _ _
        have w521 : Xi T36 904 93 = Xi S 904 93 := (show Xi T36 904 93 = Xi T35 904 93 from w511.x _ _ rfl).trans ( (show Xi T35 904 93 = Xi U34 904 93 from w491.x _ _ rfl).trans ( (show Xi U34 904 93 = Xi U11 904 93 from by rw [eU34]; exact Xi_ne (by omega)).trans ( (show Xi U11 904 93 = Xi U10 904 93 from by rw [eU11]; exact Xi_ne (by omega)).trans ( (show Xi U10 904 93 = Xi U9 904 93 from by rw [eU10]; exact Xi_ne (by omega)).trans ( (show Xi U9 904 93 = Xi U8 904 93 from by rw [eU9]; exact Xi_ne (by omega)).trans ((show Xi U8 904 93 = Xi S 904 93 from by rw [eU8]; exact Xi_ne (by omega))))))))
        have w522 : 0 ≤ Xi S 904 93 ∧ Xi S 904 93 ≤ 1700 := hH.c _ _
        have w523 : Xi T36 904 98 = Xi S 904 98 := (show Xi T36 904 98 = Xi T35 904 98 from w511.x _ _ rfl).trans ( (show Xi T35 904 98 = Xi U34 904 98 from w491.x _ _ rfl).trans ( (show Xi U34 904 98 = Xi U11 904 98 from by rw [eU34]; exact Xi_ne (by omega)).trans ( (show Xi U11 904 98 = Xi U10 904 98 from by rw [eU11]; exact Xi_ne (by omega)).trans ( (show Xi U10 904 98 = Xi U9 904 98 from by rw [eU10]; exact Xi_ne (by omega)).trans ( (show Xi U9 904 98 = Xi U8 904 98 from by rw [eU9]; exact Xi_ne (by omega)).trans ((show Xi U8 904 98 = Xi S 904 98 from by rw [eU8]; exact Xi_ne (by omega))))))))
        have w524 : 0 ≤ Xi S 904 98 ∧ Xi S 904 98 ≤ 1700 := hH.c _ _
        refine l_callV rfl rfl rfl (t_mo_take__2 hHT36 n (c + 1) 110 ⟨by omega, by omega⟩ (by first | assumption | exact (TK_FR hFT36 rfl (by assumption : TK S _))) (by first | assumption | exact (by assumption : AT T36 _ _)) (by first | assumption | omega) _) ?_
        rintro _ T37 ⟨hHT37, w529, rfl, w525, w526, kb247, w527⟩
        have hFT37 : FR md_mo_phrase S T37 := FR.tr hFT36 w529 rfl
        show Rl _ _ _ _ _ [] _ _
        have w531 : 0 ≤ Xi T37 904 8 ∧ Xi T37 904 8 ≤ 5010 := hHT37.c _ _
        have w532 : 0 ≤ Xi T37 904 65 ∧ Xi T37 904 65 ≤ 1 := hHT37.c _ _
        have w533 : Xi T37 904 69 = Xi T36 904 69 := (show Xi T37 904 69 = Xi T36 904 69 from w529.x _ _ rfl)
        have w534 : 0 ≤ Xi T36 904 69 ∧ Xi T36 904 69 ≤ 2600 := hHT36.c _ _
        have w535 : Xi T37 904 93 = Xi S 904 93 := (show Xi T37 904 93 = Xi T36 904 93 from w529.x _ _ rfl).trans ( (show Xi T36 904 93 = Xi T35 904 93 from w511.x _ _ rfl).trans ( (show Xi T35 904 93 = Xi U34 904 93 from w491.x _ _ rfl).trans ( (show Xi U34 904 93 = Xi U11 904 93 from by rw [eU34]; exact Xi_ne (by omega)).trans ( (show Xi U11 904 93 = Xi U10 904 93 from by rw [eU11]; exact Xi_ne (by omega)).trans ( (show Xi U10 904 93 = Xi U9 904 93 from by rw [eU10]; exact Xi_ne (by omega)).trans ( (show Xi U9 904 93 = Xi U8 904 93 from by rw [eU9]; exact Xi_ne (by omega)).trans ((show Xi U8 904 93 = Xi S 904 93 from by rw [eU8]; exact Xi_ne (by omega)))))))))
        have w536 : 0 ≤ Xi S 904 93 ∧ Xi S 904 93 ≤ 1700 := hH.c _ _
        have p247 : Xi T37 904 65 = 0 → Xi T37 956 (Xi S 904 93).toNat < Xi T37 904 69 := fun q => by have t := p241 (kb247 q); rw [((by assumption : FR md_mo_take T36 T37).cx 956 rfl _).1]; omega
        have h247 : Xi T37 904 65 = 0 → THV (Xi T37 904 69) n (Xi T37 954 (Xi S 904 93).toNat) (Xi T37 955 (Xi S 904 93).toNat) := fun q => thv_c (h241 (kb247 q)) (by omega) ((by assumption : FR md_mo_take T36 T37).cx 954 rfl _).1 ((by assumption : FR md_mo_take T36 T37).cx 955 rfl _).1
        clear p241 h241
        have w530 : Xi S 904 8 ≤ Xi T37 904 8 ∧ Xi T37 904 8 ≤ n ∧ Xi S 904 69 ≤ Xi T37 904 69 ∧ (Xi T37 904 65 = 0 → Xi S 904 65 = 0) := by omega
        clear w526 kb247 w527 w512
        refine l_aload_n rfl rfl ?_
        refine l_gfr rfl rfl rfl rfl rfl (hHT37.r 904 87 957 rfl) ?_
        refine l_aload_n rfl rfl ?_
        refine l_gfi rfl rfl rfl rfl rfl ?_
        have w537 : (Xi T37 904 93) = (Xi S 904 93) := (show Xi T37 904 93 = Xi T36 904 93 from w529.x _ _ rfl).trans ( (show Xi T36 904 93 = Xi T35 904 93 from w511.x _ _ rfl).trans ( (show Xi T35 904 93 = Xi U34 904 93 from w491.x _ _ rfl).trans ( (show Xi U34 904 93 = Xi U11 904 93 from by rw [eU34]; exact Xi_ne (by omega)).trans ( (show Xi U11 904 93 = Xi U10 904 93 from by rw [eU11]; exact Xi_ne (by omega)).trans ( (show Xi U10 904 93 = Xi U9 904 93 from by rw [eU10]; exact Xi_ne (by omega)).trans ( (show Xi U9 904 93 = Xi U8 904 93 from by rw [eU9]; exact Xi_ne (by omega)).trans ((show Xi U8 904 93 = Xi S 904 93 from by rw [eU8]; exact Xi_ne (by omega)))))))))
        rw [w537]
        refine l_aload_n rfl rfl ?_
        refine l_gfi rfl rfl rfl rfl rfl ?_
        have w538 : 0 ≤ (Xi T37 904 8) ∧ (Xi T37 904 8) ≤ 5010 := hHT37.c _ _
        refine l_iastore (n := 1700) rfl rfl (by omega) (by omega) (by unfold rg; omega) ?_
        obtain ⟨U38, eU38⟩ : ∃ T : sS, T = uI T37 957 (((Xi S 904 93)).toNat) (Int32.ofInt (Xi T37 904 8)) := ⟨_, rfl⟩
        rw [← eU38]
        have hHU38 : HI U38 := by rw [eU38]; exact HI_w hHT37 (show 0 ≤ (Xi T37 904 8) by omega) (show (Xi T37 904 8) ≤ 5010 by omega)
        have hFU38 : FR md_mo_phrase S U38 := by rw [eU38]; exact FR.wI hFT37 (mdf_i (r := (957, 958, 0, 100000)) (List.mem_of_getElem? (i := 17) rfl) (inR_i (by omega) (by omega) (by omega) (by omega)))
        have w539 : Xi U38 957 (((Xi S 904 93)).toNat) = (Xi T37 904 8) := by rw [eU38]; exact Xi_same (by unfold rg; omega)
        have p262 : Xi U38 904 65 = 0 → Xi U38 956 (Xi S 904 93).toNat < Xi U38 904 69 := fun q => (by rw [eU38, Xi_ne (by omega)] at q; have t := p247 q; rw [eU38, Xi_ne (by omega), Xi_ne (by omega)]; exact t)
        have h262 : Xi U38 904 65 = 0 → THV (Xi U38 904 69) n (Xi U38 954 (Xi S 904 93).toNat) (Xi U38 955 (Xi S 904 93).toNat) := fun q => (by rw [eU38, Xi_ne (by omega)] at q; exact thv_c (h247 q) (by rw [eU38, Xi_ne (by omega)]; exact Int.le_refl _) (by rw [eU38, Xi_ne (by omega)]) (by rw [eU38, Xi_ne (by omega)]))
        have m262 : Xi U38 957 (Xi S 904 93).toNat ≤ n := by omega
        clear p247 h247
        refine l_aload_n rfl rfl ?_
        refine l_iconst rfl ?_
        have w540 : Xi U38 904 65 = Xi T37 904 65 := (show Xi U38 904 65 = Xi T37 904 65 from by rw [eU38]; exact Xi_ne (by omega))
        have w541 : 0 ≤ Xi T37 904 65 ∧ Xi T37 904 65 ≤ 1 := hHT37.c _ _
        have w542 : Xi U38 904 69 = Xi T36 904 69 := (show Xi U38 904 69 = Xi T37 904 69 from by rw [eU38]; exact Xi_ne (by omega)).trans ((show Xi T37 904 69 = Xi T36 904 69 from w529.x _ _ rfl))
        have w543 : 0 ≤ Xi T36 904 69 ∧ Xi T36 904 69 ≤ 2600 := hHT36.c _ _
        have w544 : Xi U38 904 8 = Xi T37 904 8 := (show Xi U38 904 8 = Xi T37 904 8 from by rw [eU38]; exact Xi_ne (by omega))
        have w545 : 0 ≤ Xi T37 904 8 ∧ Xi T37 904 8 ≤ 5010 := hHT37.c _ _
        have w546 : Xi U38 904 93 = Xi S 904 93 := (show Xi U38 904 93 = Xi T37 904 93 from by rw [eU38]; exact Xi_ne (by omega)).trans ( (show Xi T37 904 93 = Xi T36 904 93 from w529.x _ _ rfl).trans ( (show Xi T36 904 93 = Xi T35 904 93 from w511.x _ _ rfl).trans ( (show Xi T35 904 93 = Xi U34 904 93 from w491.x _ _ rfl).trans ( (show Xi U34 904 93 = Xi U11 904 93 from by rw [eU34]; exact Xi_ne (by omega)).trans ( (show Xi U11 904 93 = Xi U10 904 93 from by rw [eU11]; exact Xi_ne (by omega)).trans ( (show Xi U10 904 93 = Xi U9 904 93 from by rw [eU10]; exact Xi_ne (by omega)).trans ( (show Xi U9 904 93 = Xi U8 904 93 from by rw [eU9]; exact Xi_ne (by omega)).trans ((show Xi U8 904 93 = Xi S 904 93 from by rw [eU8]; exact Xi_ne (by omega))))))))))
        have w547 : 0 ≤ Xi S 904 93 ∧ Xi S 904 93 ≤ 1700 := hH.c _ _
        have w548 : Xi U38 904 98 = Xi S 904 98 := (show Xi U38 904 98 = Xi T37 904 98 from by rw [eU38]; exact Xi_ne (by omega)).trans ( (show Xi T37 904 98 = Xi T36 904 98 from w529.x _ _ rfl).trans ( (show Xi T36 904 98 = Xi T35 904 98 from w511.x _ _ rfl).trans ( (show Xi T35 904 98 = Xi U34 904 98 from w491.x _ _ rfl).trans ( (show Xi U34 904 98 = Xi U11 904 98 from by rw [eU34]; exact Xi_ne (by omega)).trans ( (show Xi U11 904 98 = Xi U10 904 98 from by rw [eU11]; exact Xi_ne (by omega)).trans ( (show Xi U10 904 98 = Xi U9 904 98 from by rw [eU10]; exact Xi_ne (by omega)).trans ( (show Xi U9 904 98 = Xi U8 904 98 from by rw [eU9]; exact Xi_ne (by omega)).trans ((show Xi U8 904 98 = Xi S 904 98 from by rw [eU8]; exact Xi_ne (by omega))))))))))
        have w549 : 0 ≤ Xi S 904 98 ∧ Xi S 904 98 ≤ 1700 := hH.c _ _
        refine l_callV rfl rfl rfl (t_mo_take__2 hHU38 n (c + 1) 4 ⟨by omega, by omega⟩ (by first | assumption | exact (TK_FR hFU38 rfl (by assumption : TK S _))) (by first | assumption | exact (AT_FR (FR_e eU38) rfl (by assumption : AT T37 _ _))) (by first | assumption | omega) _) ?_
        rintro _ T39 ⟨hHT39, w554, rfl, w550, w551, kb265, w552⟩
        have hFT39 : FR md_mo_phrase S T39 := FR.tr hFU38 w554 rfl
        show Rl _ _ _ _ _ [] _ _
        have w556 : 0 ≤ Xi T39 904 8 ∧ Xi T39 904 8 ≤ 5010 := hHT39.c _ _
        have w557 : 0 ≤ Xi T39 904 65 ∧ Xi T39 904 65 ≤ 1 := hHT39.c _ _
        have w558 : Xi T39 904 69 = Xi T36 904 69 := (show Xi T39 904 69 = Xi U38 904 69 from w554.x _ _ rfl).trans ( (show Xi U38 904 69 = Xi T37 904 69 from by rw [eU38]; exact Xi_ne (by omega)).trans ((show Xi T37 904 69 = Xi T36 904 69 from w529.x _ _ rfl)))
        have w559 : 0 ≤ Xi T36 904 69 ∧ Xi T36 904 69 ≤ 2600 := hHT36.c _ _
        have w560 : Xi T39 904 93 = Xi S 904 93 := (show Xi T39 904 93 = Xi U38 904 93 from w554.x _ _ rfl).trans ( (show Xi U38 904 93 = Xi T37 904 93 from by rw [eU38]; exact Xi_ne (by omega)).trans ( (show Xi T37 904 93 = Xi T36 904 93 from w529.x _ _ rfl).trans ( (show Xi T36 904 93 = Xi T35 904 93 from w511.x _ _ rfl).trans ( (show Xi T35 904 93 = Xi U34 904 93 from w491.x _ _ rfl).trans ( (show Xi U34 904 93 = Xi U11 904 93 from by rw [eU34]; exact Xi_ne (by omega)).trans ( (show Xi U11 904 93 = Xi U10 904 93 from by rw [eU11]; exact Xi_ne (by omega)).trans ( (show Xi U10 904 93 = Xi U9 904 93 from by rw [eU10]; exact Xi_ne (by omega)).trans ( (show Xi U9 904 93 = Xi U8 904 93 from by rw [eU9]; exact Xi_ne (by omega)).trans ((show Xi U8 904 93 = Xi S 904 93 from by rw [eU8]; exact Xi_ne (by omega)))))))))))
        have w561 : 0 ≤ Xi S 904 93 ∧ Xi S 904 93 ≤ 1700 := hH.c _ _
        have p265 : Xi T39 904 65 = 0 → Xi T39 956 (Xi S 904 93).toNat < Xi T39 904 69 := fun q => by have t := p262 (kb265 q); rw [((by assumption : FR md_mo_take U38 T39).cx 956 rfl _).1]; omega
        have h265 : Xi T39 904 65 = 0 → THV (Xi T39 904 69) n (Xi T39 954 (Xi S 904 93).toNat) (Xi T39 955 (Xi S 904 93).toNat) := fun q => thv_c (h262 (kb265 q)) (by omega) ((by assumption : FR md_mo_take U38 T39).cx 954 rfl _).1 ((by assumption : FR md_mo_take U38 T39).cx 955 rfl _).1
        have m265 : Xi T39 957 (Xi S 904 93).toNat ≤ n := by rw [((by assumption : FR md_mo_take U38 T39).cx 957 rfl _).1]; exact m262
        clear p262 h262
        have w555 : Xi S 904 8 ≤ Xi T39 904 8 ∧ Xi T39 904 8 ≤ n ∧ Xi S 904 69 ≤ Xi T39 904 69 ∧ (Xi T39 904 65 = 0 → Xi S 904 65 = 0) := by omega
        clear w551 kb265 w552 w530
        refine l_aload_n rfl rfl ?_
        refine l_dup rfl rfl ?_
        refine l_gfi rfl rfl rfl rfl rfl ?_
        have w562 : (Xi T39 904 93) = (Xi S 904 93) := (show Xi T39 904 93 = Xi U38 904 93 from w554.x _ _ rfl).trans ( (show Xi U38 904 93 = Xi T37 904 93 from by rw [eU38]; exact Xi_ne (by omega)).trans ( (show Xi T37 904 93 = Xi T36 904 93 from w529.x _ _ rfl).trans ( (show Xi T36 904 93 = Xi T35 904 93 from w511.x _ _ rfl).trans ( (show Xi T35 904 93 = Xi U34 904 93 from w491.x _ _ rfl).trans ( (show Xi U34 904 93 = Xi U11 904 93 from by rw [eU34]; exact Xi_ne (by omega)).trans ( (show Xi U11 904 93 = Xi U10 904 93 from by rw [eU11]; exact Xi_ne (by omega)).trans ( (show Xi U10 904 93 = Xi U9 904 93 from by rw [eU10]; exact Xi_ne (by omega)).trans ( (show Xi U9 904 93 = Xi U8 904 93 from by rw [eU9]; exact Xi_ne (by omega)).trans ((show Xi U8 904 93 = Xi S 904 93 from by rw [eU8]; exact Xi_ne (by omega)))))))))))
        rw [w562]
        refine l_iconst rfl ?_
        refine l_iadd rfl ?_
        refine l_pfi rfl rfl rfl rfl ?_
        obtain ⟨U40, eU40⟩ : ∃ T : sS, T = uI T39 904 93 (Int32.ofInt ((Xi S 904 93) + 1)) := ⟨_, rfl⟩
        rw [← eU40]
        have hHU40 : HI U40 := by rw [eU40]; exact HI_w hHT39 (show 0 ≤ ((Xi S 904 93) + 1) by omega) (show ((Xi S 904 93) + 1) ≤ 1700 by omega)
        have hFU40 : FR md_mo_phrase S U40 := by rw [eU40]; exact FR.wI hFT39 (mdf_i (r := (904, 905, 93, 94)) (List.mem_of_getElem? (i := 5) rfl) (inR_i (by omega) (by omega) (by omega) (by omega)))
        have w563 : Xi U40 904 93 = ((Xi S 904 93) + 1) := by rw [eU40]; exact Xi_same (by unfold rg; omega)
        have a275 : AT U40 n c := at_ct (c := c + 1) (by first | assumption | exact AT_FR (FR_e ) rfl (by assumption) | exact AT_FR (FR_e ) rfl (AT_FR (FR_e ) rfl (by assumption))) eU40 (by omega) (by omega) rfl
        have E275 : ∀ w : Int, (w = 3 ∨ w = 4) → Xi U40 904 65 = 0 → PVt U40 n w (Xi S 904 93).toNat := fun w hw q => (by rw [eU40, Xi_ne (by omega)] at q; exact pvt_w (pvt_3 hw (h265 q) (p265 q) m265) eU40 (by omega))
        clear p265 h265
        refine l_goto rfl rfl ?_
        have w564 : Xi U40 963 (Xi S 904 98).toNat = Xi U34 963 (Xi S 904 98).toNat := (show Xi U40 963 (Xi S 904 98).toNat = Xi T39 963 (Xi S 904 98).toNat from by rw [eU40]; exact Xi_ne (by omega)).trans ( (show Xi T39 963 (Xi S 904 98).toNat = Xi U38 963 (Xi S 904 98).toNat from (w554.cx 963 rfl _).1).trans ( (show Xi U38 963 (Xi S 904 98).toNat = Xi T37 963 (Xi S 904 98).toNat from by rw [eU38]; exact Xi_ne (by omega)).trans ( (show Xi T37 963 (Xi S 904 98).toNat = Xi T36 963 (Xi S 904 98).toNat from (w529.cx 963 rfl _).1).trans ( (show Xi T36 963 (Xi S 904 98).toNat = Xi T35 963 (Xi S 904 98).toNat from (w511.cx 963 rfl _).1).trans ((show Xi T35 963 (Xi S 904 98).toNat = Xi U34 963 (Xi S 904 98).toNat from (w491.cx 963 rfl _).1))))))
        have w565 : Xi U40 964 (Xi S 904 98).toNat = Xi U9 964 (Xi S 904 98).toNat := (show Xi U40 964 (Xi S 904 98).toNat = Xi T39 964 (Xi S 904 98).toNat from by rw [eU40]; exact Xi_ne (by omega)).trans ( (show Xi T39 964 (Xi S 904 98).toNat = Xi U38 964 (Xi S 904 98).toNat from (w554.cx 964 rfl _).1).trans ( (show Xi U38 964 (Xi S 904 98).toNat = Xi T37 964 (Xi S 904 98).toNat from by rw [eU38]; exact Xi_ne (by omega)).trans ( (show Xi T37 964 (Xi S 904 98).toNat = Xi T36 964 (Xi S 904 98).toNat from (w529.cx 964 rfl _).1).trans ( (show Xi T36 964 (Xi S 904 98).toNat = Xi T35 964 (Xi S 904 98).toNat from (w511.cx 964 rfl _).1).trans ( (show Xi T35 964 (Xi S 904 98).toNat = Xi U34 964 (Xi S 904 98).toNat from (w491.cx 964 rfl _).1).trans ( (show Xi U34 964 (Xi S 904 98).toNat = Xi U11 964 (Xi S 904 98).toNat from by rw [eU34]; exact Xi_ne (by omega)).trans ( (show Xi U11 964 (Xi S 904 98).toNat = Xi U10 964 (Xi S 904 98).toNat from by rw [eU11]; exact Xi_ne (by omega)).trans ((show Xi U10 964 (Xi S 904 98).toNat = Xi U9 964 (Xi S 904 98).toNat from by rw [eU10]; exact Xi_ne (by omega))))))))))
        have w566 : Xi U40 904 65 = Xi T39 904 65 := (show Xi U40 904 65 = Xi T39 904 65 from by rw [eU40]; exact Xi_ne (by omega))
        have w567 : 0 ≤ Xi T39 904 65 ∧ Xi T39 904 65 ≤ 1 := hHT39.c _ _
        have w568 : Xi U40 904 69 = Xi T36 904 69 := (show Xi U40 904 69 = Xi T39 904 69 from by rw [eU40]; exact Xi_ne (by omega)).trans ( (show Xi T39 904 69 = Xi U38 904 69 from w554.x _ _ rfl).trans ( (show Xi U38 904 69 = Xi T37 904 69 from by rw [eU38]; exact Xi_ne (by omega)).trans ((show Xi T37 904 69 = Xi T36 904 69 from w529.x _ _ rfl))))
        have w569 : 0 ≤ Xi T36 904 69 ∧ Xi T36 904 69 ≤ 2600 := hHT36.c _ _
        have w570 : Xi U40 904 8 = Xi T39 904 8 := (show Xi U40 904 8 = Xi T39 904 8 from by rw [eU40]; exact Xi_ne (by omega))
        have w571 : 0 ≤ Xi T39 904 8 ∧ Xi T39 904 8 ≤ 5010 := hHT39.c _ _
        have w572 : 0 ≤ Xi U40 904 93 ∧ Xi U40 904 93 ≤ 1700 := hHU40.c _ _
        have w573 : Xi U40 904 98 = Xi S 904 98 := (show Xi U40 904 98 = Xi T39 904 98 from by rw [eU40]; exact Xi_ne (by omega)).trans ( (show Xi T39 904 98 = Xi U38 904 98 from w554.x _ _ rfl).trans ( (show Xi U38 904 98 = Xi T37 904 98 from by rw [eU38]; exact Xi_ne (by omega)).trans ( (show Xi T37 904 98 = Xi T36 904 98 from w529.x _ _ rfl).trans ( (show Xi T36 904 98 = Xi T35 904 98 from w511.x _ _ rfl).trans ( (show Xi T35 904 98 = Xi U34 904 98 from w491.x _ _ rfl).trans ( (show Xi U34 904 98 = Xi U11 904 98 from by rw [eU34]; exact Xi_ne (by omega)).trans ( (show Xi U11 904 98 = Xi U10 904 98 from by rw [eU11]; exact Xi_ne (by omega)).trans ( (show Xi U10 904 98 = Xi U9 904 98 from by rw [eU10]; exact Xi_ne (by omega)).trans ( (show Xi U9 904 98 = Xi U8 904 98 from by rw [eU9]; exact Xi_ne (by omega)).trans ((show Xi U8 904 98 = Xi S 904 98 from by rw [eU8]; exact Xi_ne (by omega))))))))))))
        have w574 : 0 ≤ Xi S 904 98 ∧ Xi S 904 98 ≤ 1700 := hH.c _ _
        exact Rl_weak (C409 U40 hHU40 hFU40  (by first | assumption | exact AT_bad (by omega)) (by first | assumption | exact (RNV_FR (FR_e eU40) rfl (RNV_FR w554 rfl (RNV_FR (FR_e eU38) rfl (RNV_FR w529 rfl (by assumption : RNV T36 _)))))) (by omega) (by omega) (by omega) (by omega) (by omega) (by omega) (by omega) (by omega) ((KT_FR (FR_e eU40) rfl (KT_FR w554 rfl (KT.w (KT_FR w529 rfl (KT.tr (KT.tr (KT_FR (FR_e eU34) rfl (KT_FR (FR_e eU11) rfl (KT.w (KT_FR (FR_e eU9) rfl (KT_FR (FR_e eU8) rfl KT.rf)) eU10 (by omega)))) (by assumption : KT T35 U34 _) (by omega)) (by assumption : KT T36 T35 _) (by omega))) eU38 (by omega))))) ((KP.w (KP_FR w554 rfl (KP.w (KP_FR w529 rfl (KP_FR w511 rfl (KP_FR w491 rfl (KP.w (KP.w (KP.w (KP.w (KP.w KP.rf eU8 (by omega)) eU9 (by omega)) eU10 (by omega)) eU11 (by omega)) eU34 (by omega))))) eU38 (by omega))) eU40 (by omega))) (by first | exact fun q => pv_i (t := (Xi S 904 93).toNat) (E128 q) (by omega) (by omega) | exact fun q => pv_i (t := (Xi S 904 93).toNat) (E143 q) (by omega) (by omega) | exact fun q => pv_i (t := (Xi S 904 93).toNat) (E212 q) (by omega) (by omega) | exact fun q => pv_i (t := (Xi S 904 93).toNat) (E368 q) (by omega) (by omega) | exact fun q => pv_i (t := (Xi S 904 93).toNat) (E389 q) (by omega) (by omega) | exact fun q => pv_i (t := (Xi S 904 93).toNat) (E275 _ (by omega) q) rfl (by omega) | exact fun q => absurd q (by omega))) (And.intro rfl (True.intro))
    | 4, hii =>
      cases hii
      have w575 : z171 = 147 := by simpa using w174
      refine l_aload_n rfl rfl ?_
      have t218 : AT U11 n (c + 1) ∧ _ := at_mv (c2 := c + 1) hT hA (fun j => (hFU10.cx 907 rfl j).1) (fun j => (hFU10.cx 908 rfl j).1) (by omega) (by omega) (by omega) (by omega) eU11 (by omega) (by omega) (by omega) (by omega) (Or.inr ⟨rfl, by unfold K3; omega⟩)
      have a218 : AT U11 n (c + 1) := t218.1
      have l218 := t218.2
      clear t218 l39
      refine l_gfr rfl rfl rfl rfl rfl (hHU11.r 904 95 963 rfl) ?_
      refine l_iload_n rfl rfl ?_
      refine l_iload_n rfl rfl ?_
      refine l_sipush rfl rfl ?_
      refine l_icmp_ne rfl rfl (by unfold rg; omega) (by unfold rg; omega) (fun w576 => ?_) (fun w577 => ?_)
      · refine l_iconst rfl ?_
        refine l_iastore (n := 1700) rfl rfl (by omega) (by omega) (by unfold rg; omega) ?_
        obtain ⟨U41, eU41⟩ : ∃ T : sS, T = uI U11 963 (((Xi S 904 98)).toNat) (Int32.ofInt 4) := ⟨_, rfl⟩
        rw [← eU41]
        have hHU41 : HI U41 := by rw [eU41]; exact HI_w hHU11 (show 0 ≤ 4 by omega) (show 4 ≤ 6 by omega)
        have hFU41 : FR md_mo_phrase S U41 := by rw [eU41]; exact FR.wI hFU11 (mdf_i (r := (963, 964, 0, 100000)) (List.mem_of_getElem? (i := 23) rfl) (inR_i (by omega) (by omega) (by omega) (by omega)))
        have w578 : Xi U41 963 (((Xi S 904 98)).toNat) = 4 := by rw [eU41]; exact Xi_same (by unfold rg; omega)
        refine l_aload_n rfl rfl ?_
        have w579 : Xi U41 904 65 = Xi S 904 65 := (show Xi U41 904 65 = Xi U11 904 65 from by rw [eU41]; exact Xi_ne (by omega)).trans ( (show Xi U11 904 65 = Xi U10 904 65 from by rw [eU11]; exact Xi_ne (by omega)).trans ( (show Xi U10 904 65 = Xi U9 904 65 from by rw [eU10]; exact Xi_ne (by omega)).trans ( (show Xi U9 904 65 = Xi U8 904 65 from by rw [eU9]; exact Xi_ne (by omega)).trans ((show Xi U8 904 65 = Xi S 904 65 from by rw [eU8]; exact Xi_ne (by omega))))))
        have w580 : 0 ≤ Xi S 904 65 ∧ Xi S 904 65 ≤ 1 := hH.c _ _
        have w581 : Xi U41 904 69 = Xi S 904 69 := (show Xi U41 904 69 = Xi U11 904 69 from by rw [eU41]; exact Xi_ne (by omega)).trans ( (show Xi U11 904 69 = Xi U10 904 69 from by rw [eU11]; exact Xi_ne (by omega)).trans ( (show Xi U10 904 69 = Xi U9 904 69 from by rw [eU10]; exact Xi_ne (by omega)).trans ( (show Xi U9 904 69 = Xi U8 904 69 from by rw [eU9]; exact Xi_ne (by omega)).trans ((show Xi U8 904 69 = Xi S 904 69 from by rw [eU8]; exact Xi_ne (by omega))))))
        have w582 : 0 ≤ Xi S 904 69 ∧ Xi S 904 69 ≤ 2600 := hH.c _ _
        have w583 : Xi U41 904 8 = Xi U11 904 8 := (show Xi U41 904 8 = Xi U11 904 8 from by rw [eU41]; exact Xi_ne (by omega))
        have w584 : 0 ≤ Xi U11 904 8 ∧ Xi U11 904 8 ≤ 5010 := hHU11.c _ _
        have w585 : Xi U41 904 93 = Xi S 904 93 := (show Xi U41 904 93 = Xi U11 904 93 from by rw [eU41]; exact Xi_ne (by omega)).trans ( (show Xi U11 904 93 = Xi U10 904 93 from by rw [eU11]; exact Xi_ne (by omega)).trans ( (show Xi U10 904 93 = Xi U9 904 93 from by rw [eU10]; exact Xi_ne (by omega)).trans ( (show Xi U9 904 93 = Xi U8 904 93 from by rw [eU9]; exact Xi_ne (by omega)).trans ((show Xi U8 904 93 = Xi S 904 93 from by rw [eU8]; exact Xi_ne (by omega))))))
        have w586 : 0 ≤ Xi S 904 93 ∧ Xi S 904 93 ≤ 1700 := hH.c _ _
        have w587 : Xi U41 904 98 = Xi S 904 98 := (show Xi U41 904 98 = Xi U11 904 98 from by rw [eU41]; exact Xi_ne (by omega)).trans ( (show Xi U11 904 98 = Xi U10 904 98 from by rw [eU11]; exact Xi_ne (by omega)).trans ( (show Xi U10 904 98 = Xi U9 904 98 from by rw [eU10]; exact Xi_ne (by omega)).trans ( (show Xi U9 904 98 = Xi U8 904 98 from by rw [eU9]; exact Xi_ne (by omega)).trans ((show Xi U8 904 98 = Xi S 904 98 from by rw [eU8]; exact Xi_ne (by omega))))))
        have w588 : 0 ≤ Xi S 904 98 ∧ Xi S 904 98 ≤ 1700 := hH.c _ _
        refine l_callV rfl rfl rfl (t_mo_property hHU41 n (c + 1) (by first | assumption | exact (TK_FR hFU41 rfl (by assumption : TK S _))) (by first | assumption | exact (AT_FR (FR_e eU41) rfl (by assumption : AT U11 _ _))) (by first | assumption | exact (RNV_FR (FR_e eU41) rfl (RNV_FR (FR_e eU11) rfl (RNV_FR (FR_e eU10) rfl (RNV_FR (FR_e eU9) rfl (RNV_FR (FR_e eU8) rfl (by assumption : RNV S _))))))) (by first | assumption | omega) _) ?_
        rintro _ T42 ⟨hHT42, w596, rfl, w589, w590, w591, w592, w593, w594, p237_⟩
        have hFT42 : FR md_mo_phrase S T42 := FR.tr hFU41 w596 rfl
        show Rl _ _ _ _ _ [] _ _
        have w598 : 0 ≤ Xi T42 904 8 ∧ Xi T42 904 8 ≤ 5010 := hHT42.c _ _
        have w599 : 0 ≤ Xi T42 904 65 ∧ Xi T42 904 65 ≤ 1 := hHT42.c _ _
        have w600 : 0 ≤ Xi T42 904 69 ∧ Xi T42 904 69 ≤ 2600 := hHT42.c _ _
        have w601 : Xi T42 904 93 = Xi S 904 93 := (show Xi T42 904 93 = Xi U41 904 93 from w596.x _ _ rfl).trans ( (show Xi U41 904 93 = Xi U11 904 93 from by rw [eU41]; exact Xi_ne (by omega)).trans ( (show Xi U11 904 93 = Xi U10 904 93 from by rw [eU11]; exact Xi_ne (by omega)).trans ( (show Xi U10 904 93 = Xi U9 904 93 from by rw [eU10]; exact Xi_ne (by omega)).trans ( (show Xi U9 904 93 = Xi U8 904 93 from by rw [eU9]; exact Xi_ne (by omega)).trans ((show Xi U8 904 93 = Xi S 904 93 from by rw [eU8]; exact Xi_ne (by omega)))))))
        have w602 : 0 ≤ Xi S 904 93 ∧ Xi S 904 93 ≤ 1700 := hH.c _ _
        have p237 : Xi T42 904 65 = 0 → Xi T42 956 (Xi S 904 93).toNat < Xi T42 904 69 := by rw [show (Xi S 904 93).toNat = (Xi U41 904 93).toNat by omega]; exact p237_
        clear p237_
        have w597 : Xi S 904 8 ≤ Xi T42 904 8 ∧ Xi T42 904 8 ≤ n ∧ Xi S 904 69 ≤ Xi T42 904 69 ∧ (Xi T42 904 65 = 0 → Xi S 904 65 = 0) := by omega
        clear w590 w592 w593
        refine l_aload_n rfl rfl ?_
        have w603 : 0 ≤ Xi T42 904 65 ∧ Xi T42 904 65 ≤ 1 := hHT42.c _ _
        have w604 : 0 ≤ Xi T42 904 69 ∧ Xi T42 904 69 ≤ 2600 := hHT42.c _ _
        have w605 : 0 ≤ Xi T42 904 8 ∧ Xi T42 904 8 ≤ 5010 := hHT42.c _ _
        have w606 : Xi T42 904 93 = Xi S 904 93 := (show Xi T42 904 93 = Xi U41 904 93 from w596.x _ _ rfl).trans ( (show Xi U41 904 93 = Xi U11 904 93 from by rw [eU41]; exact Xi_ne (by omega)).trans ( (show Xi U11 904 93 = Xi U10 904 93 from by rw [eU11]; exact Xi_ne (by omega)).trans ( (show Xi U10 904 93 = Xi U9 904 93 from by rw [eU10]; exact Xi_ne (by omega)).trans ( (show Xi U9 904 93 = Xi U8 904 93 from by rw [eU9]; exact Xi_ne (by omega)).trans ((show Xi U8 904 93 = Xi S 904 93 from by rw [eU8]; exact Xi_ne (by omega)))))))
        have w607 : 0 ≤ Xi S 904 93 ∧ Xi S 904 93 ≤ 1700 := hH.c _ _
        have w608 : Xi T42 904 98 = Xi S 904 98 := (show Xi T42 904 98 = Xi U41 904 98 from w596.x _ _ rfl).trans ( (show Xi U41 904 98 = Xi U11 904 98 from by rw [eU41]; exact Xi_ne (by omega)).trans ( (show Xi U11 904 98 = Xi U10 904 98 from by rw [eU11]; exact Xi_ne (by omega)).trans ( (show Xi U10 904 98 = Xi U9 904 98 from by rw [eU10]; exact Xi_ne (by omega)).trans ( (show Xi U9 904 98 = Xi U8 904 98 from by rw [eU9]; exact Xi_ne (by omega)).trans ((show Xi U8 904 98 = Xi S 904 98 from by rw [eU8]; exact Xi_ne (by omega)))))))
        have w609 : 0 ≤ Xi S 904 98 ∧ Xi S 904 98 ≤ 1700 := hH.c _ _
        refine l_callV rfl rfl rfl (t_mo_thingOfTest hHT42 n (c + 1) (by first | assumption | exact (TK_FR hFT42 rfl (by assumption : TK S _))) (by first | assumption | exact (by assumption : AT T42 _ _)) (by first | assumption | exact (by assumption : RNV T42 _)) (by first | assumption | omega) _) ?_
        rintro _ T43 ⟨hHT43, w616, rfl, w610, w611, w612, kb241, w613, w614, h241_⟩
        have hFT43 : FR md_mo_phrase S T43 := FR.tr hFT42 w616 rfl
        show Rl _ _ _ _ _ [] _ _
        have w618 : 0 ≤ Xi T43 904 8 ∧ Xi T43 904 8 ≤ 5010 := hHT43.c _ _
        have w619 : 0 ≤ Xi T43 904 65 ∧ Xi T43 904 65 ≤ 1 := hHT43.c _ _
        have w620 : 0 ≤ Xi T43 904 69 ∧ Xi T43 904 69 ≤ 2600 := hHT43.c _ _
        have w621 : Xi T43 904 93 = Xi S 904 93 := (show Xi T43 904 93 = Xi T42 904 93 from w616.x _ _ rfl).trans ( (show Xi T42 904 93 = Xi U41 904 93 from w596.x _ _ rfl).trans ( (show Xi U41 904 93 = Xi U11 904 93 from by rw [eU41]; exact Xi_ne (by omega)).trans ( (show Xi U11 904 93 = Xi U10 904 93 from by rw [eU11]; exact Xi_ne (by omega)).trans ( (show Xi U10 904 93 = Xi U9 904 93 from by rw [eU10]; exact Xi_ne (by omega)).trans ( (show Xi U9 904 93 = Xi U8 904 93 from by rw [eU9]; exact Xi_ne (by omega)).trans ((show Xi U8 904 93 = Xi S 904 93 from by rw [eU8]; exact Xi_ne (by omega))))))))
        have w622 : 0 ≤ Xi S 904 93 ∧ Xi S 904 93 ≤ 1700 := hH.c _ _
        have h241 : Xi T43 904 65 = 0 → THV (Xi T43 904 69) n (Xi T43 954 (Xi S 904 93).toNat) (Xi T43 955 (Xi S 904 93).toNat) := by rw [show (Xi S 904 93).toNat = (Xi T42 904 93).toNat by omega]; exact h241_
        clear h241_
        have p241 : Xi T43 904 65 = 0 → Xi T43 956 (Xi S 904 93).toNat < Xi T43 904 69 := fun q => by have t := p237 (kb241 q); rw [((by assumption : FR md_mo_thingOfTest T42 T43).cx 956 rfl _).1]; omega
        clear p237
        have w617 : Xi S 904 8 ≤ Xi T43 904 8 ∧ Xi T43 904 8 ≤ n ∧ Xi S 904 69 ≤ Xi T43 904 69 ∧ (Xi T43 904 65 = 0 → Xi S 904 65 = 0) := by omega
        clear w611 kb241 w613 w597
        refine l_aload_n rfl rfl ?_
        refine l_bipush rfl rfl ?_
        have w623 : 0 ≤ Xi T43 904 65 ∧ Xi T43 904 65 ≤ 1 := hHT43.c _ _
        have w624 : 0 ≤ Xi T43 904 69 ∧ Xi T43 904 69 ≤ 2600 := hHT43.c _ _
        have w625 : 0 ≤ Xi T43 904 8 ∧ Xi T43 904 8 ≤ 5010 := hHT43.c _ _
        have w626 : Xi T43 904 93 = Xi S 904 93 := (show Xi T43 904 93 = Xi T42 904 93 from w616.x _ _ rfl).trans ( (show Xi T42 904 93 = Xi U41 904 93 from w596.x _ _ rfl).trans ( (show Xi U41 904 93 = Xi U11 904 93 from by rw [eU41]; exact Xi_ne (by omega)).trans ( (show Xi U11 904 93 = Xi U10 904 93 from by rw [eU11]; exact Xi_ne (by omega)).trans ( (show Xi U10 904 93 = Xi U9 904 93 from by rw [eU10]; exact Xi_ne (by omega)).trans ( (show Xi U9 904 93 = Xi U8 904 93 from by rw [eU9]; exact Xi_ne (by omega)).trans ((show Xi U8 904 93 = Xi S 904 93 from by rw [eU8]; exact Xi_ne (by omega))))))))
        have w627 : 0 ≤ Xi S 904 93 ∧ Xi S 904 93 ≤ 1700 := hH.c _ _
        have w628 : Xi T43 904 98 = Xi S 904 98 := (show Xi T43 904 98 = Xi T42 904 98 from w616.x _ _ rfl).trans ( (show Xi T42 904 98 = Xi U41 904 98 from w596.x _ _ rfl).trans ( (show Xi U41 904 98 = Xi U11 904 98 from by rw [eU41]; exact Xi_ne (by omega)).trans ( (show Xi U11 904 98 = Xi U10 904 98 from by rw [eU11]; exact Xi_ne (by omega)).trans ( (show Xi U10 904 98 = Xi U9 904 98 from by rw [eU10]; exact Xi_ne (by omega)).trans ( (show Xi U9 904 98 = Xi U8 904 98 from by rw [eU9]; exact Xi_ne (by omega)).trans ((show Xi U8 904 98 = Xi S 904 98 from by rw [eU8]; exact Xi_ne (by omega))))))))
        have w629 : 0 ≤ Xi S 904 98 ∧ Xi S 904 98 ≤ 1700 := hH.c _ _
        refine l_callV rfl rfl rfl (t_mo_take__2 hHT43 n (c + 1) 110 ⟨by omega, by omega⟩ (by first | assumption | exact (TK_FR hFT43 rfl (by assumption : TK S _))) (by first | assumption | exact (by assumption : AT T43 _ _)) (by first | assumption | omega) _) ?_
        rintro _ T44 ⟨hHT44, w634, rfl, w630, w631, kb247, w632⟩
        have hFT44 : FR md_mo_phrase S T44 := FR.tr hFT43 w634 rfl
        show Rl _ _ _ _ _ [] _ _
        have w636 : 0 ≤ Xi T44 904 8 ∧ Xi T44 904 8 ≤ 5010 := hHT44.c _ _
        have w637 : 0 ≤ Xi T44 904 65 ∧ Xi T44 904 65 ≤ 1 := hHT44.c _ _
        have w638 : Xi T44 904 69 = Xi T43 904 69 := (show Xi T44 904 69 = Xi T43 904 69 from w634.x _ _ rfl)
        have w639 : 0 ≤ Xi T43 904 69 ∧ Xi T43 904 69 ≤ 2600 := hHT43.c _ _
        have w640 : Xi T44 904 93 = Xi S 904 93 := (show Xi T44 904 93 = Xi T43 904 93 from w634.x _ _ rfl).trans ( (show Xi T43 904 93 = Xi T42 904 93 from w616.x _ _ rfl).trans ( (show Xi T42 904 93 = Xi U41 904 93 from w596.x _ _ rfl).trans ( (show Xi U41 904 93 = Xi U11 904 93 from by rw [eU41]; exact Xi_ne (by omega)).trans ( (show Xi U11 904 93 = Xi U10 904 93 from by rw [eU11]; exact Xi_ne (by omega)).trans ( (show Xi U10 904 93 = Xi U9 904 93 from by rw [eU10]; exact Xi_ne (by omega)).trans ( (show Xi U9 904 93 = Xi U8 904 93 from by rw [eU9]; exact Xi_ne (by omega)).trans ((show Xi U8 904 93 = Xi S 904 93 from by rw [eU8]; exact Xi_ne (by omega)))))))))
        have w641 : 0 ≤ Xi S 904 93 ∧ Xi S 904 93 ≤ 1700 := hH.c _ _
        have p247 : Xi T44 904 65 = 0 → Xi T44 956 (Xi S 904 93).toNat < Xi T44 904 69 := fun q => by have t := p241 (kb247 q); rw [((by assumption : FR md_mo_take T43 T44).cx 956 rfl _).1]; omega
        have h247 : Xi T44 904 65 = 0 → THV (Xi T44 904 69) n (Xi T44 954 (Xi S 904 93).toNat) (Xi T44 955 (Xi S 904 93).toNat) := fun q => thv_c (h241 (kb247 q)) (by omega) ((by assumption : FR md_mo_take T43 T44).cx 954 rfl _).1 ((by assumption : FR md_mo_take T43 T44).cx 955 rfl _).1
        clear p241 h241
        have w635 : Xi S 904 8 ≤ Xi T44 904 8 ∧ Xi T44 904 8 ≤ n ∧ Xi S 904 69 ≤ Xi T44 904 69 ∧ (Xi T44 904 65 = 0 → Xi S 904 65 = 0) := by omega
        clear w631 kb247 w632 w617
        refine l_aload_n rfl rfl ?_
        refine l_gfr rfl rfl rfl rfl rfl (hHT44.r 904 87 957 rfl) ?_
        refine l_aload_n rfl rfl ?_
        refine l_gfi rfl rfl rfl rfl rfl ?_
        have w642 : (Xi T44 904 93) = (Xi S 904 93) := (show Xi T44 904 93 = Xi T43 904 93 from w634.x _ _ rfl).trans ( (show Xi T43 904 93 = Xi T42 904 93 from w616.x _ _ rfl).trans ( (show Xi T42 904 93 = Xi U41 904 93 from w596.x _ _ rfl).trans ( (show Xi U41 904 93 = Xi U11 904 93 from by rw [eU41]; exact Xi_ne (by omega)).trans ( (show Xi U11 904 93 = Xi U10 904 93 from by rw [eU11]; exact Xi_ne (by omega)).trans ( (show Xi U10 904 93 = Xi U9 904 93 from by rw [eU10]; exact Xi_ne (by omega)).trans ( (show Xi U9 904 93 = Xi U8 904 93 from by rw [eU9]; exact Xi_ne (by omega)).trans ((show Xi U8 904 93 = Xi S 904 93 from by rw [eU8]; exact Xi_ne (by omega)))))))))
        rw [w642]
        refine l_aload_n rfl rfl ?_
        refine l_gfi rfl rfl rfl rfl rfl ?_
        have w643 : 0 ≤ (Xi T44 904 8) ∧ (Xi T44 904 8) ≤ 5010 := hHT44.c _ _
        refine l_iastore (n := 1700) rfl rfl (by omega) (by omega) (by unfold rg; omega) ?_
        obtain ⟨U45, eU45⟩ : ∃ T : sS, T = uI T44 957 (((Xi S 904 93)).toNat) (Int32.ofInt (Xi T44 904 8)) := ⟨_, rfl⟩
        rw [← eU45]
        have hHU45 : HI U45 := by rw [eU45]; exact HI_w hHT44 (show 0 ≤ (Xi T44 904 8) by omega) (show (Xi T44 904 8) ≤ 5010 by omega)
        have hFU45 : FR md_mo_phrase S U45 := by rw [eU45]; exact FR.wI hFT44 (mdf_i (r := (957, 958, 0, 100000)) (List.mem_of_getElem? (i := 17) rfl) (inR_i (by omega) (by omega) (by omega) (by omega)))
        have w644 : Xi U45 957 (((Xi S 904 93)).toNat) = (Xi T44 904 8) := by rw [eU45]; exact Xi_same (by unfold rg; omega)
        have p262 : Xi U45 904 65 = 0 → Xi U45 956 (Xi S 904 93).toNat < Xi U45 904 69 := fun q => (by rw [eU45, Xi_ne (by omega)] at q; have t := p247 q; rw [eU45, Xi_ne (by omega), Xi_ne (by omega)]; exact t)
        have h262 : Xi U45 904 65 = 0 → THV (Xi U45 904 69) n (Xi U45 954 (Xi S 904 93).toNat) (Xi U45 955 (Xi S 904 93).toNat) := fun q => (by rw [eU45, Xi_ne (by omega)] at q; exact thv_c (h247 q) (by rw [eU45, Xi_ne (by omega)]; exact Int.le_refl _) (by rw [eU45, Xi_ne (by omega)]) (by rw [eU45, Xi_ne (by omega)]))
        have m262 : Xi U45 957 (Xi S 904 93).toNat ≤ n := by omega
        clear p247 h247
        refine l_aload_n rfl rfl ?_
        refine l_iconst rfl ?_
        have w645 : Xi U45 904 65 = Xi T44 904 65 := (show Xi U45 904 65 = Xi T44 904 65 from by rw [eU45]; exact Xi_ne (by omega))
        have w646 : 0 ≤ Xi T44 904 65 ∧ Xi T44 904 65 ≤ 1 := hHT44.c _ _
        have w647 : Xi U45 904 69 = Xi T43 904 69 := (show Xi U45 904 69 = Xi T44 904 69 from by rw [eU45]; exact Xi_ne (by omega)).trans ((show Xi T44 904 69 = Xi T43 904 69 from w634.x _ _ rfl))
        have w648 : 0 ≤ Xi T43 904 69 ∧ Xi T43 904 69 ≤ 2600 := hHT43.c _ _
        have w649 : Xi U45 904 8 = Xi T44 904 8 := (show Xi U45 904 8 = Xi T44 904 8 from by rw [eU45]; exact Xi_ne (by omega))
        have w650 : 0 ≤ Xi T44 904 8 ∧ Xi T44 904 8 ≤ 5010 := hHT44.c _ _
        have w651 : Xi U45 904 93 = Xi S 904 93 := (show Xi U45 904 93 = Xi T44 904 93 from by rw [eU45]; exact Xi_ne (by omega)).trans ( (show Xi T44 904 93 = Xi T43 904 93 from w634.x _ _ rfl).trans ( (show Xi T43 904 93 = Xi T42 904 93 from w616.x _ _ rfl).trans ( (show Xi T42 904 93 = Xi U41 904 93 from w596.x _ _ rfl).trans ( (show Xi U41 904 93 = Xi U11 904 93 from by rw [eU41]; exact Xi_ne (by omega)).trans ( (show Xi U11 904 93 = Xi U10 904 93 from by rw [eU11]; exact Xi_ne (by omega)).trans ( (show Xi U10 904 93 = Xi U9 904 93 from by rw [eU10]; exact Xi_ne (by omega)).trans ( (show Xi U9 904 93 = Xi U8 904 93 from by rw [eU9]; exact Xi_ne (by omega)).trans ((show Xi U8 904 93 = Xi S 904 93 from by rw [eU8]; exact Xi_ne (by omega))))))))))
        have w652 : 0 ≤ Xi S 904 93 ∧ Xi S 904 93 ≤ 1700 := hH.c _ _
        have w653 : Xi U45 904 98 = Xi S 904 98 := (show Xi U45 904 98 = Xi T44 904 98 from by rw [eU45]; exact Xi_ne (by omega)).trans ( (show Xi T44 904 98 = Xi T43 904 98 from w634.x _ _ rfl).trans ( (show Xi T43 904 98 = Xi T42 904 98 from w616.x _ _ rfl).trans ( (show Xi T42 904 98 = Xi U41 904 98 from w596.x _ _ rfl).trans ( (show Xi U41 904 98 = Xi U11 904 98 from by rw [eU41]; exact Xi_ne (by omega)).trans ( (show Xi U11 904 98 = Xi U10 904 98 from by rw [eU11]; exact Xi_ne (by omega)).trans ( (show Xi U10 904 98 = Xi U9 904 98 from by rw [eU10]; exact Xi_ne (by omega)).trans ( (show Xi U9 904 98 = Xi U8 904 98 from by rw [eU9]; exact Xi_ne (by omega)).trans ((show Xi U8 904 98 = Xi S 904 98 from by rw [eU8]; exact Xi_ne (by omega))))))))))
        have w654 : 0 ≤ Xi S 904 98 ∧ Xi S 904 98 ≤ 1700 := hH.c _ _
        refine l_callV rfl rfl rfl (t_mo_take__2 hHU45 n (c + 1) 4 ⟨by omega, by omega⟩ (by first | assumption | exact (TK_FR hFU45 rfl (by assumption : TK S _))) (by first | assumption | exact (AT_FR (FR_e eU45) rfl (by assumption : AT T44 _ _))) (by first | assumption | omega) _) ?_
        rintro _ T46 ⟨hHT46, w659, rfl, w655, w656, kb265, w657⟩
        have hFT46 : FR md_mo_phrase S T46 := FR.tr hFU45 w659 rfl
        show Rl _ _ _ _ _ [] _ _
        have w661 : 0 ≤ Xi T46 904 8 ∧ Xi T46 904 8 ≤ 5010 := hHT46.c _ _
        have w662 : 0 ≤ Xi T46 904 65 ∧ Xi T46 904 65 ≤ 1 := hHT46.c _ _
        have w663 : Xi T46 904 69 = Xi T43 904 69 := (show Xi T46 904 69 = Xi U45 904 69 from w659.x _ _ rfl).trans ( (show Xi U45 904 69 = Xi T44 904 69 from by rw [eU45]; exact Xi_ne (by omega)).trans ((show Xi T44 904 69 = Xi T43 904 69 from w634.x _ _ rfl)))
        have w664 : 0 ≤ Xi T43 904 69 ∧ Xi T43 904 69 ≤ 2600 := hHT43.c _ _
        have w665 : Xi T46 904 93 = Xi S 904 93 := (show Xi T46 904 93 = Xi U45 904 93 from w659.x _ _ rfl).trans ( (show Xi U45 904 93 = Xi T44 904 93 from by rw [eU45]; exact Xi_ne (by omega)).trans ( (show Xi T44 904 93 = Xi T43 904 93 from w634.x _ _ rfl).trans ( (show Xi T43 904 93 = Xi T42 904 93 from w616.x _ _ rfl).trans ( (show Xi T42 904 93 = Xi U41 904 93 from w596.x _ _ rfl).trans ( (show Xi U41 904 93 = Xi U11 904 93 from by rw [eU41]; exact Xi_ne (by omega)).trans ( (show Xi U11 904 93 = Xi U10 904 93 from by rw [eU11]; exact Xi_ne (by omega)).trans ( (show Xi U10 904 93 = Xi U9 904 93 from by rw [eU10]; exact Xi_ne (by omega)).trans ( (show Xi U9 904 93 = Xi U8 904 93 from by rw [eU9]; exact Xi_ne (by omega)).trans ((show Xi U8 904 93 = Xi S 904 93 from by rw [eU8]; exact Xi_ne (by omega)))))))))))
        have w666 : 0 ≤ Xi S 904 93 ∧ Xi S 904 93 ≤ 1700 := hH.c _ _
        have p265 : Xi T46 904 65 = 0 → Xi T46 956 (Xi S 904 93).toNat < Xi T46 904 69 := fun q => by have t := p262 (kb265 q); rw [((by assumption : FR md_mo_take U45 T46).cx 956 rfl _).1]; omega
        have h265 : Xi T46 904 65 = 0 → THV (Xi T46 904 69) n (Xi T46 954 (Xi S 904 93).toNat) (Xi T46 955 (Xi S 904 93).toNat) := fun q => thv_c (h262 (kb265 q)) (by omega) ((by assumption : FR md_mo_take U45 T46).cx 954 rfl _).1 ((by assumption : FR md_mo_take U45 T46).cx 955 rfl _).1
        have m265 : Xi T46 957 (Xi S 904 93).toNat ≤ n := by rw [((by assumption : FR md_mo_take U45 T46).cx 957 rfl _).1]; exact m262
        clear p262 h262
        have w660 : Xi S 904 8 ≤ Xi T46 904 8 ∧ Xi T46 904 8 ≤ n ∧ Xi S 904 69 ≤ Xi T46 904 69 ∧ (Xi T46 904 65 = 0 → Xi S 904 65 = 0) := by omega
        clear w656 kb265 w657 w635
        refine l_aload_n rfl rfl ?_
        refine l_dup rfl rfl ?_
        refine l_gfi rfl rfl rfl rfl rfl ?_
        have w667 : (Xi T46 904 93) = (Xi S 904 93) := (show Xi T46 904 93 = Xi U45 904 93 from w659.x _ _ rfl).trans ( (show Xi U45 904 93 = Xi T44 904 93 from by rw [eU45]; exact Xi_ne (by omega)).trans ( (show Xi T44 904 93 = Xi T43 904 93 from w634.x _ _ rfl).trans ( (show Xi T43 904 93 = Xi T42 904 93 from w616.x _ _ rfl).trans ( (show Xi T42 904 93 = Xi U41 904 93 from w596.x _ _ rfl).trans ( (show Xi U41 904 93 = Xi U11 904 93 from by rw [eU41]; exact Xi_ne (by omega)).trans ( (show Xi U11 904 93 = Xi U10 904 93 from by rw [eU11]; exact Xi_ne (by omega)).trans ( (show Xi U10 904 93 = Xi U9 904 93 from by rw [eU10]; exact Xi_ne (by omega)).trans ( (show Xi U9 904 93 = Xi U8 904 93 from by rw [eU9]; exact Xi_ne (by omega)).trans ((show Xi U8 904 93 = Xi S 904 93 from by rw [eU8]; exact Xi_ne (by omega)))))))))))
        rw [w667]
        refine l_iconst rfl ?_
        refine l_iadd rfl ?_
        refine l_pfi rfl rfl rfl rfl ?_
        obtain ⟨U47, eU47⟩ : ∃ T : sS, T = uI T46 904 93 (Int32.ofInt ((Xi S 904 93) + 1)) := ⟨_, rfl⟩
        rw [← eU47]
        have hHU47 : HI U47 := by rw [eU47]; exact HI_w hHT46 (show 0 ≤ ((Xi S 904 93) + 1) by omega) (show ((Xi S 904 93) + 1) ≤ 1700 by omega)
        have hFU47 : FR md_mo_phrase S U47 := by rw [eU47]; exact FR.wI hFT46 (mdf_i (r := (904, 905, 93, 94)) (List.mem_of_getElem? (i := 5) rfl) (inR_i (by omega) (by omega) (by omega) (by omega)))
        have w668 : Xi U47 904 93 = ((Xi S 904 93) + 1) := by rw [eU47]; exact Xi_same (by unfold rg; omega)
        have a275 : AT U47 n c := at_ct (c := c + 1) (by first | assumption | exact AT_FR (FR_e ) rfl (by assumption) | exact AT_FR (FR_e ) rfl (AT_FR (FR_e ) rfl (by assumption))) eU47 (by omega) (by omega) rfl
        have E275 : ∀ w : Int, (w = 3 ∨ w = 4) → Xi U47 904 65 = 0 → PVt U47 n w (Xi S 904 93).toNat := fun w hw q => (by rw [eU47, Xi_ne (by omega)] at q; exact pvt_w (pvt_3 hw (h265 q) (p265 q) m265) eU47 (by omega))
        clear p265 h265
        refine l_goto rfl rfl ?_
        have w669 : Xi U47 963 (Xi S 904 98).toNat = Xi U41 963 (Xi S 904 98).toNat := (show Xi U47 963 (Xi S 904 98).toNat = Xi T46 963 (Xi S 904 98).toNat from by rw [eU47]; exact Xi_ne (by omega)).trans ( (show Xi T46 963 (Xi S 904 98).toNat = Xi U45 963 (Xi S 904 98).toNat from (w659.cx 963 rfl _).1).trans ( (show Xi U45 963 (Xi S 904 98).toNat = Xi T44 963 (Xi S 904 98).toNat from by rw [eU45]; exact Xi_ne (by omega)).trans ( (show Xi T44 963 (Xi S 904 98).toNat = Xi T43 963 (Xi S 904 98).toNat from (w634.cx 963 rfl _).1).trans ( (show Xi T43 963 (Xi S 904 98).toNat = Xi T42 963 (Xi S 904 98).toNat from (w616.cx 963 rfl _).1).trans ((show Xi T42 963 (Xi S 904 98).toNat = Xi U41 963 (Xi S 904 98).toNat from (w596.cx 963 rfl _).1))))))
        have w670 : Xi U47 964 (Xi S 904 98).toNat = Xi U9 964 (Xi S 904 98).toNat := (show Xi U47 964 (Xi S 904 98).toNat = Xi T46 964 (Xi S 904 98).toNat from by rw [eU47]; exact Xi_ne (by omega)).trans ( (show Xi T46 964 (Xi S 904 98).toNat = Xi U45 964 (Xi S 904 98).toNat from (w659.cx 964 rfl _).1).trans ( (show Xi U45 964 (Xi S 904 98).toNat = Xi T44 964 (Xi S 904 98).toNat from by rw [eU45]; exact Xi_ne (by omega)).trans ( (show Xi T44 964 (Xi S 904 98).toNat = Xi T43 964 (Xi S 904 98).toNat from (w634.cx 964 rfl _).1).trans ( (show Xi T43 964 (Xi S 904 98).toNat = Xi T42 964 (Xi S 904 98).toNat from (w616.cx 964 rfl _).1).trans ( (show Xi T42 964 (Xi S 904 98).toNat = Xi U41 964 (Xi S 904 98).toNat from (w596.cx 964 rfl _).1).trans ( (show Xi U41 964 (Xi S 904 98).toNat = Xi U11 964 (Xi S 904 98).toNat from by rw [eU41]; exact Xi_ne (by omega)).trans ( (show Xi U11 964 (Xi S 904 98).toNat = Xi U10 964 (Xi S 904 98).toNat from by rw [eU11]; exact Xi_ne (by omega)).trans ((show Xi U10 964 (Xi S 904 98).toNat = Xi U9 964 (Xi S 904 98).toNat from by rw [eU10]; exact Xi_ne (by omega))))))))))
        have w671 : Xi U47 904 65 = Xi T46 904 65 := (show Xi U47 904 65 = Xi T46 904 65 from by rw [eU47]; exact Xi_ne (by omega))
        have w672 : 0 ≤ Xi T46 904 65 ∧ Xi T46 904 65 ≤ 1 := hHT46.c _ _
        have w673 : Xi U47 904 69 = Xi T43 904 69 := (show Xi U47 904 69 = Xi T46 904 69 from by rw [eU47]; exact Xi_ne (by omega)).trans ( (show Xi T46 904 69 = Xi U45 904 69 from w659.x _ _ rfl).trans ( (show Xi U45 904 69 = Xi T44 904 69 from by rw [eU45]; exact Xi_ne (by omega)).trans ((show Xi T44 904 69 = Xi T43 904 69 from w634.x _ _ rfl))))
        have w674 : 0 ≤ Xi T43 904 69 ∧ Xi T43 904 69 ≤ 2600 := hHT43.c _ _
        have w675 : Xi U47 904 8 = Xi T46 904 8 := (show Xi U47 904 8 = Xi T46 904 8 from by rw [eU47]; exact Xi_ne (by omega))
        have w676 : 0 ≤ Xi T46 904 8 ∧ Xi T46 904 8 ≤ 5010 := hHT46.c _ _
        have w677 : 0 ≤ Xi U47 904 93 ∧ Xi U47 904 93 ≤ 1700 := hHU47.c _ _
        have w678 : Xi U47 904 98 = Xi S 904 98 := (show Xi U47 904 98 = Xi T46 904 98 from by rw [eU47]; exact Xi_ne (by omega)).trans ( (show Xi T46 904 98 = Xi U45 904 98 from w659.x _ _ rfl).trans ( (show Xi U45 904 98 = Xi T44 904 98 from by rw [eU45]; exact Xi_ne (by omega)).trans ( (show Xi T44 904 98 = Xi T43 904 98 from w634.x _ _ rfl).trans ( (show Xi T43 904 98 = Xi T42 904 98 from w616.x _ _ rfl).trans ( (show Xi T42 904 98 = Xi U41 904 98 from w596.x _ _ rfl).trans ( (show Xi U41 904 98 = Xi U11 904 98 from by rw [eU41]; exact Xi_ne (by omega)).trans ( (show Xi U11 904 98 = Xi U10 904 98 from by rw [eU11]; exact Xi_ne (by omega)).trans ( (show Xi U10 904 98 = Xi U9 904 98 from by rw [eU10]; exact Xi_ne (by omega)).trans ( (show Xi U9 904 98 = Xi U8 904 98 from by rw [eU9]; exact Xi_ne (by omega)).trans ((show Xi U8 904 98 = Xi S 904 98 from by rw [eU8]; exact Xi_ne (by omega))))))))))))
        have w679 : 0 ≤ Xi S 904 98 ∧ Xi S 904 98 ≤ 1700 := hH.c _ _
        exact Rl_weak (C409 U47 hHU47 hFU47  (by first | assumption | exact AT_bad (by omega)) (by first | assumption | exact (RNV_FR (FR_e eU47) rfl (RNV_FR w659 rfl (RNV_FR (FR_e eU45) rfl (RNV_FR w634 rfl (by assumption : RNV T43 _)))))) (by omega) (by omega) (by omega) (by omega) (by omega) (by omega) (by omega) (by omega) ((KT_FR (FR_e eU47) rfl (KT_FR w659 rfl (KT.w (KT_FR w634 rfl (KT.tr (KT.tr (KT_FR (FR_e eU41) rfl (KT_FR (FR_e eU11) rfl (KT.w (KT_FR (FR_e eU9) rfl (KT_FR (FR_e eU8) rfl KT.rf)) eU10 (by omega)))) (by assumption : KT T42 U41 _) (by omega)) (by assumption : KT T43 T42 _) (by omega))) eU45 (by omega))))) ((KP.w (KP_FR w659 rfl (KP.w (KP_FR w634 rfl (KP_FR w616 rfl (KP_FR w596 rfl (KP.w (KP.w (KP.w (KP.w (KP.w KP.rf eU8 (by omega)) eU9 (by omega)) eU10 (by omega)) eU11 (by omega)) eU41 (by omega))))) eU45 (by omega))) eU47 (by omega))) (by first | exact fun q => pv_i (t := (Xi S 904 93).toNat) (E128 q) (by omega) (by omega) | exact fun q => pv_i (t := (Xi S 904 93).toNat) (E143 q) (by omega) (by omega) | exact fun q => pv_i (t := (Xi S 904 93).toNat) (E212 q) (by omega) (by omega) | exact fun q => pv_i (t := (Xi S 904 93).toNat) (E368 q) (by omega) (by omega) | exact fun q => pv_i (t := (Xi S 904 93).toNat) (E389 q) (by omega) (by omega) | exact fun q => pv_i (t := (Xi S 904 93).toNat) (E275 _ (by omega) q) rfl (by omega) | exact fun q => absurd q (by omega))) (And.intro rfl (True.intro))
      · refine l_iconst rfl ?_
        refine l_goto rfl rfl ?_
        refine l_iastore (n := 1700) rfl rfl (by omega) (by omega) (by unfold rg; omega) ?_
        obtain ⟨U48, eU48⟩ : ∃ T : sS, T = uI U11 963 (((Xi S 904 98)).toNat) (Int32.ofInt 3) := ⟨_, rfl⟩
        rw [← eU48]
        have hHU48 : HI U48 := by rw [eU48]; exact HI_w hHU11 (show 0 ≤ 3 by omega) (show 3 ≤ 6 by omega)
        have hFU48 : FR md_mo_phrase S U48 := by rw [eU48]; exact FR.wI hFU11 (mdf_i (r := (963, 964, 0, 100000)) (List.mem_of_getElem? (i := 23) rfl) (inR_i (by omega) (by omega) (by omega) (by omega)))
        have w680 : Xi U48 963 (((Xi S 904 98)).toNat) = 3 := by rw [eU48]; exact Xi_same (by unfold rg; omega)
        refine l_aload_n rfl rfl ?_
        have w681 : Xi U48 904 65 = Xi S 904 65 := (show Xi U48 904 65 = Xi U11 904 65 from by rw [eU48]; exact Xi_ne (by omega)).trans ( (show Xi U11 904 65 = Xi U10 904 65 from by rw [eU11]; exact Xi_ne (by omega)).trans ( (show Xi U10 904 65 = Xi U9 904 65 from by rw [eU10]; exact Xi_ne (by omega)).trans ( (show Xi U9 904 65 = Xi U8 904 65 from by rw [eU9]; exact Xi_ne (by omega)).trans ((show Xi U8 904 65 = Xi S 904 65 from by rw [eU8]; exact Xi_ne (by omega))))))
        have w682 : 0 ≤ Xi S 904 65 ∧ Xi S 904 65 ≤ 1 := hH.c _ _
        have w683 : Xi U48 904 69 = Xi S 904 69 := (show Xi U48 904 69 = Xi U11 904 69 from by rw [eU48]; exact Xi_ne (by omega)).trans ( (show Xi U11 904 69 = Xi U10 904 69 from by rw [eU11]; exact Xi_ne (by omega)).trans ( (show Xi U10 904 69 = Xi U9 904 69 from by rw [eU10]; exact Xi_ne (by omega)).trans ( (show Xi U9 904 69 = Xi U8 904 69 from by rw [eU9]; exact Xi_ne (by omega)).trans ((show Xi U8 904 69 = Xi S 904 69 from by rw [eU8]; exact Xi_ne (by omega))))))
        have w684 : 0 ≤ Xi S 904 69 ∧ Xi S 904 69 ≤ 2600 := hH.c _ _
        have w685 : Xi U48 904 8 = Xi U11 904 8 := (show Xi U48 904 8 = Xi U11 904 8 from by rw [eU48]; exact Xi_ne (by omega))
        have w686 : 0 ≤ Xi U11 904 8 ∧ Xi U11 904 8 ≤ 5010 := hHU11.c _ _
        have w687 : Xi U48 904 93 = Xi S 904 93 := (show Xi U48 904 93 = Xi U11 904 93 from by rw [eU48]; exact Xi_ne (by omega)).trans ( (show Xi U11 904 93 = Xi U10 904 93 from by rw [eU11]; exact Xi_ne (by omega)).trans ( (show Xi U10 904 93 = Xi U9 904 93 from by rw [eU10]; exact Xi_ne (by omega)).trans ( (show Xi U9 904 93 = Xi U8 904 93 from by rw [eU9]; exact Xi_ne (by omega)).trans ((show Xi U8 904 93 = Xi S 904 93 from by rw [eU8]; exact Xi_ne (by omega))))))
        have w688 : 0 ≤ Xi S 904 93 ∧ Xi S 904 93 ≤ 1700 := hH.c _ _
        have w689 : Xi U48 904 98 = Xi S 904 98 := (show Xi U48 904 98 = Xi U11 904 98 from by rw [eU48]; exact Xi_ne (by omega)).trans ( (show Xi U11 904 98 = Xi U10 904 98 from by rw [eU11]; exact Xi_ne (by omega)).trans ( (show Xi U10 904 98 = Xi U9 904 98 from by rw [eU10]; exact Xi_ne (by omega)).trans ( (show Xi U9 904 98 = Xi U8 904 98 from by rw [eU9]; exact Xi_ne (by omega)).trans ((show Xi U8 904 98 = Xi S 904 98 from by rw [eU8]; exact Xi_ne (by omega))))))
        have w690 : 0 ≤ Xi S 904 98 ∧ Xi S 904 98 ≤ 1700 := hH.c _ _
        refine l_callV rfl rfl rfl (t_mo_property hHU48 n (c + 1) (by first | assumption | exact (TK_FR hFU48 rfl (by assumption : TK S _))) (by first | assumption | exact (AT_FR (FR_e eU48) rfl (by assumption : AT U11 _ _))) (by first | assumption | exact (RNV_FR (FR_e eU48) rfl (RNV_FR (FR_e eU11) rfl (RNV_FR (FR_e eU10) rfl (RNV_FR (FR_e eU9) rfl (RNV_FR (FR_e eU8) rfl (by assumption : RNV S _))))))) (by first | assumption | omega) _) ?_
        rintro _ T49 ⟨hHT49, w698, rfl, w691, w692, w693, w694, w695, w696, p237_⟩
        have hFT49 : FR md_mo_phrase S T49 := FR.tr hFU48 w698 rfl
        show Rl _ _ _ _ _ [] _ _
        have w700 : 0 ≤ Xi T49 904 8 ∧ Xi T49 904 8 ≤ 5010 := hHT49.c _ _
        have w701 : 0 ≤ Xi T49 904 65 ∧ Xi T49 904 65 ≤ 1 := hHT49.c _ _
        have w702 : 0 ≤ Xi T49 904 69 ∧ Xi T49 904 69 ≤ 2600 := hHT49.c _ _
        have w703 : Xi T49 904 93 = Xi S 904 93 := (show Xi T49 904 93 = Xi U48 904 93 from w698.x _ _ rfl).trans ( (show Xi U48 904 93 = Xi U11 904 93 from by rw [eU48]; exact Xi_ne (by omega)).trans ( (show Xi U11 904 93 = Xi U10 904 93 from by rw [eU11]; exact Xi_ne (by omega)).trans ( (show Xi U10 904 93 = Xi U9 904 93 from by rw [eU10]; exact Xi_ne (by omega)).trans ( (show Xi U9 904 93 = Xi U8 904 93 from by rw [eU9]; exact Xi_ne (by omega)).trans ((show Xi U8 904 93 = Xi S 904 93 from by rw [eU8]; exact Xi_ne (by omega)))))))
        have w704 : 0 ≤ Xi S 904 93 ∧ Xi S 904 93 ≤ 1700 := hH.c _ _
        have p237 : Xi T49 904 65 = 0 → Xi T49 956 (Xi S 904 93).toNat < Xi T49 904 69 := by rw [show (Xi S 904 93).toNat = (Xi U48 904 93).toNat by omega]; exact p237_
        clear p237_
        have w699 : Xi S 904 8 ≤ Xi T49 904 8 ∧ Xi T49 904 8 ≤ n ∧ Xi S 904 69 ≤ Xi T49 904 69 ∧ (Xi T49 904 65 = 0 → Xi S 904 65 = 0) := by omega
        clear w692 w694 w695
        refine l_aload_n rfl rfl ?_
        have w705 : 0 ≤ Xi T49 904 65 ∧ Xi T49 904 65 ≤ 1 := hHT49.c _ _
        have w706 : 0 ≤ Xi T49 904 69 ∧ Xi T49 904 69 ≤ 2600 := hHT49.c _ _
        have w707 : 0 ≤ Xi T49 904 8 ∧ Xi T49 904 8 ≤ 5010 := hHT49.c _ _
        have w708 : Xi T49 904 93 = Xi S 904 93 := (show Xi T49 904 93 = Xi U48 904 93 from w698.x _ _ rfl).trans ( (show Xi U48 904 93 = Xi U11 904 93 from by rw [eU48]; exact Xi_ne (by omega)).trans ( (show Xi U11 904 93 = Xi U10 904 93 from by rw [eU11]; exact Xi_ne (by omega)).trans ( (show Xi U10 904 93 = Xi U9 904 93 from by rw [eU10]; exact Xi_ne (by omega)).trans ( (show Xi U9 904 93 = Xi U8 904 93 from by rw [eU9]; exact Xi_ne (by omega)).trans ((show Xi U8 904 93 = Xi S 904 93 from by rw [eU8]; exact Xi_ne (by omega)))))))
        have w709 : 0 ≤ Xi S 904 93 ∧ Xi S 904 93 ≤ 1700 := hH.c _ _
        have w710 : Xi T49 904 98 = Xi S 904 98 := (show Xi T49 904 98 = Xi U48 904 98 from w698.x _ _ rfl).trans ( (show Xi U48 904 98 = Xi U11 904 98 from by rw [eU48]; exact Xi_ne (by omega)).trans ( (show Xi U11 904 98 = Xi U10 904 98 from by rw [eU11]; exact Xi_ne (by omega)).trans ( (show Xi U10 904 98 = Xi U9 904 98 from by rw [eU10]; exact Xi_ne (by omega)).trans ( (show Xi U9 904 98 = Xi U8 904 98 from by rw [eU9]; exact Xi_ne (by omega)).trans ((show Xi U8 904 98 = Xi S 904 98 from by rw [eU8]; exact Xi_ne (by omega)))))))
        have w711 : 0 ≤ Xi S 904 98 ∧ Xi S 904 98 ≤ 1700 := hH.c _ _
        refine l_callV rfl rfl rfl (t_mo_thingOfTest hHT49 n (c + 1) (by first | assumption | exact (TK_FR hFT49 rfl (by assumption : TK S _))) (by first | assumption | exact (by assumption : AT T49 _ _)) (by first | assumption | exact (by assumption : RNV T49 _)) (by first | assumption | omega) _) ?_
        rintro _ T50 ⟨hHT50, w718, rfl, w712, w713, w714, kb241, w715, w716, h241_⟩
        have hFT50 : FR md_mo_phrase S T50 := FR.tr hFT49 w718 rfl
        show Rl _ _ _ _ _ [] _ _
        have w720 : 0 ≤ Xi T50 904 8 ∧ Xi T50 904 8 ≤ 5010 := hHT50.c _ _
        have w721 : 0 ≤ Xi T50 904 65 ∧ Xi T50 904 65 ≤ 1 := hHT50.c _ _
        have w722 : 0 ≤ Xi T50 904 69 ∧ Xi T50 904 69 ≤ 2600 := hHT50.c _ _
        have w723 : Xi T50 904 93 = Xi S 904 93 := (show Xi T50 904 93 = Xi T49 904 93 from w718.x _ _ rfl).trans ( (show Xi T49 904 93 = Xi U48 904 93 from w698.x _ _ rfl).trans ( (show Xi U48 904 93 = Xi U11 904 93 from by rw [eU48]; exact Xi_ne (by omega)).trans ( (show Xi U11 904 93 = Xi U10 904 93 from by rw [eU11]; exact Xi_ne (by omega)).trans ( (show Xi U10 904 93 = Xi U9 904 93 from by rw [eU10]; exact Xi_ne (by omega)).trans ( (show Xi U9 904 93 = Xi U8 904 93 from by rw [eU9]; exact Xi_ne (by omega)).trans ((show Xi U8 904 93 = Xi S 904 93 from by rw [eU8]; exact Xi_ne (by omega))))))))
        have w724 : 0 ≤ Xi S 904 93 ∧ Xi S 904 93 ≤ 1700 := hH.c _ _
        have h241 : Xi T50 904 65 = 0 → THV (Xi T50 904 69) n (Xi T50 954 (Xi S 904 93).toNat) (Xi T50 955 (Xi S 904 93).toNat) := by rw [show (Xi S 904 93).toNat = (Xi T49 904 93).toNat by omega]; exact h241_
        clear h241_
        have p241 : Xi T50 904 65 = 0 → Xi T50 956 (Xi S 904 93).toNat < Xi T50 904 69 := fun q => by have t := p237 (kb241 q); rw [((by assumption : FR md_mo_thingOfTest T49 T50).cx 956 rfl _).1]; omega
        clear p237
        have w719 : Xi S 904 8 ≤ Xi T50 904 8 ∧ Xi T50 904 8 ≤ n ∧ Xi S 904 69 ≤ Xi T50 904 69 ∧ (Xi T50 904 65 = 0 → Xi S 904 65 = 0) := by omega
        clear w713 kb241 w715 w699
        refine l_aload_n rfl rfl ?_
        refine l_bipush rfl rfl ?_
        have w725 : 0 ≤ Xi T50 904 65 ∧ Xi T50 904 65 ≤ 1 := hHT50.c _ _
        have w726 : 0 ≤ Xi T50 904 69 ∧ Xi T50 904 69 ≤ 2600 := hHT50.c _ _
        have w727 : 0 ≤ Xi T50 904 8 ∧ Xi T50 904 8 ≤ 5010 := hHT50.c _ _
        have w728 : Xi T50 904 93 = Xi S 904 93 := (show Xi T50 904 93 = Xi T49 904 93 from w718.x _ _ rfl).trans ( (show Xi T49 904 93 = Xi U48 904 93 from w698.x _ _ rfl).trans ( (show Xi U48 904 93 = Xi U11 904 93 from by rw [eU48]; exact Xi_ne (by omega)).trans ( (show Xi U11 904 93 = Xi U10 904 93 from by rw [eU11]; exact Xi_ne (by omega)).trans ( (show Xi U10 904 93 = Xi U9 904 93 from by rw [eU10]; exact Xi_ne (by omega)).trans ( (show Xi U9 904 93 = Xi U8 904 93 from by rw [eU9]; exact Xi_ne (by omega)).trans ((show Xi U8 904 93 = Xi S 904 93 from by rw [eU8]; exact Xi_ne (by omega))))))))
        have w729 : 0 ≤ Xi S 904 93 ∧ Xi S 904 93 ≤ 1700 := hH.c _ _
        have w730 : Xi T50 904 98 = Xi S 904 98 := (show Xi T50 904 98 = Xi T49 904 98 from w718.x _ _ rfl).trans ( (show Xi T49 904 98 = Xi U48 904 98 from w698.x _ _ rfl).trans ( (show Xi U48 904 98 = Xi U11 904 98 from by rw [eU48]; exact Xi_ne (by omega)).trans ( (show Xi U11 904 98 = Xi U10 904 98 from by rw [eU11]; exact Xi_ne (by omega)).trans ( (show Xi U10 904 98 = Xi U9 904 98 from by rw [eU10]; exact Xi_ne (by omega)).trans ( (show Xi U9 904 98 = Xi U8 904 98 from by rw [eU9]; exact Xi_ne (by omega)).trans ((show Xi U8 904 98 = Xi S 904 98 from by rw [eU8]; exact Xi_ne (by omega))))))))
        have w731 : 0 ≤ Xi S 904 98 ∧ Xi S 904 98 ≤ 1700 := hH.c _ _
        refine l_callV rfl rfl rfl (t_mo_take__2 hHT50 n (c + 1) 110 ⟨by omega, by omega⟩ (by first | assumption | exact (TK_FR hFT50 rfl (by assumption : TK S _))) (by first | assumption | exact (by assumption : AT T50 _ _)) (by first | assumption | omega) _) ?_
        rintro _ T51 ⟨hHT51, w736, rfl, w732, w733, kb247, w734⟩
        have hFT51 : FR md_mo_phrase S T51 := FR.tr hFT50 w736 rfl
        show Rl _ _ _ _ _ [] _ _
        have w738 : 0 ≤ Xi T51 904 8 ∧ Xi T51 904 8 ≤ 5010 := hHT51.c _ _
        have w739 : 0 ≤ Xi T51 904 65 ∧ Xi T51 904 65 ≤ 1 := hHT51.c _ _
        have w740 : Xi T51 904 69 = Xi T50 904 69 := (show Xi T51 904 69 = Xi T50 904 69 from w736.x _ _ rfl)
        have w741 : 0 ≤ Xi T50 904 69 ∧ Xi T50 904 69 ≤ 2600 := hHT50.c _ _
        have w742 : Xi T51 904 93 = Xi S 904 93 := (show Xi T51 904 93 = Xi T50 904 93 from w736.x _ _ rfl).trans ( (show Xi T50 904 93 = Xi T49 904 93 from w718.x _ _ rfl).trans ( (show Xi T49 904 93 = Xi U48 904 93 from w698.x _ _ rfl).trans ( (show Xi U48 904 93 = Xi U11 904 93 from by rw [eU48]; exact Xi_ne (by omega)).trans ( (show Xi U11 904 93 = Xi U10 904 93 from by rw [eU11]; exact Xi_ne (by omega)).trans ( (show Xi U10 904 93 = Xi U9 904 93 from by rw [eU10]; exact Xi_ne (by omega)).trans ( (show Xi U9 904 93 = Xi U8 904 93 from by rw [eU9]; exact Xi_ne (by omega)).trans ((show Xi U8 904 93 = Xi S 904 93 from by rw [eU8]; exact Xi_ne (by omega)))))))))
        have w743 : 0 ≤ Xi S 904 93 ∧ Xi S 904 93 ≤ 1700 := hH.c _ _
        have p247 : Xi T51 904 65 = 0 → Xi T51 956 (Xi S 904 93).toNat < Xi T51 904 69 := fun q => by have t := p241 (kb247 q); rw [((by assumption : FR md_mo_take T50 T51).cx 956 rfl _).1]; omega
        have h247 : Xi T51 904 65 = 0 → THV (Xi T51 904 69) n (Xi T51 954 (Xi S 904 93).toNat) (Xi T51 955 (Xi S 904 93).toNat) := fun q => thv_c (h241 (kb247 q)) (by omega) ((by assumption : FR md_mo_take T50 T51).cx 954 rfl _).1 ((by assumption : FR md_mo_take T50 T51).cx 955 rfl _).1
        clear p241 h241
        have w737 : Xi S 904 8 ≤ Xi T51 904 8 ∧ Xi T51 904 8 ≤ n ∧ Xi S 904 69 ≤ Xi T51 904 69 ∧ (Xi T51 904 65 = 0 → Xi S 904 65 = 0) := by omega
        clear w733 kb247 w734 w719
        refine l_aload_n rfl rfl ?_
        refine l_gfr rfl rfl rfl rfl rfl (hHT51.r 904 87 957 rfl) ?_
        refine l_aload_n rfl rfl ?_
        refine l_gfi rfl rfl rfl rfl rfl ?_
        have w744 : (Xi T51 904 93) = (Xi S 904 93) := (show Xi T51 904 93 = Xi T50 904 93 from w736.x _ _ rfl).trans ( (show Xi T50 904 93 = Xi T49 904 93 from w718.x _ _ rfl).trans ( (show Xi T49 904 93 = Xi U48 904 93 from w698.x _ _ rfl).trans ( (show Xi U48 904 93 = Xi U11 904 93 from by rw [eU48]; exact Xi_ne (by omega)).trans ( (show Xi U11 904 93 = Xi U10 904 93 from by rw [eU11]; exact Xi_ne (by omega)).trans ( (show Xi U10 904 93 = Xi U9 904 93 from by rw [eU10]; exact Xi_ne (by omega)).trans ( (show Xi U9 904 93 = Xi U8 904 93 from by rw [eU9]; exact Xi_ne (by omega)).trans ((show Xi U8 904 93 = Xi S 904 93 from by rw [eU8]; exact Xi_ne (by omega)))))))))
        rw [w744]
        refine l_aload_n rfl rfl ?_
        refine l_gfi rfl rfl rfl rfl rfl ?_
        have w745 : 0 ≤ (Xi T51 904 8) ∧ (Xi T51 904 8) ≤ 5010 := hHT51.c _ _
        refine l_iastore (n := 1700) rfl rfl (by omega) (by omega) (by unfold rg; omega) ?_
        obtain ⟨U52, eU52⟩ : ∃ T : sS, T = uI T51 957 (((Xi S 904 93)).toNat) (Int32.ofInt (Xi T51 904 8)) := ⟨_, rfl⟩
        rw [← eU52]
        have hHU52 : HI U52 := by rw [eU52]; exact HI_w hHT51 (show 0 ≤ (Xi T51 904 8) by omega) (show (Xi T51 904 8) ≤ 5010 by omega)
        have hFU52 : FR md_mo_phrase S U52 := by rw [eU52]; exact FR.wI hFT51 (mdf_i (r := (957, 958, 0, 100000)) (List.mem_of_getElem? (i := 17) rfl) (inR_i (by omega) (by omega) (by omega) (by omega)))
        have w746 : Xi U52 957 (((Xi S 904 93)).toNat) = (Xi T51 904 8) := by rw [eU52]; exact Xi_same (by unfold rg; omega)
        have p262 : Xi U52 904 65 = 0 → Xi U52 956 (Xi S 904 93).toNat < Xi U52 904 69 := fun q => (by rw [eU52, Xi_ne (by omega)] at q; have t := p247 q; rw [eU52, Xi_ne (by omega), Xi_ne (by omega)]; exact t)
        have h262 : Xi U52 904 65 = 0 → THV (Xi U52 904 69) n (Xi U52 954 (Xi S 904 93).toNat) (Xi U52 955 (Xi S 904 93).toNat) := fun q => (by rw [eU52, Xi_ne (by omega)] at q; exact thv_c (h247 q) (by rw [eU52, Xi_ne (by omega)]; exact Int.le_refl _) (by rw [eU52, Xi_ne (by omega)]) (by rw [eU52, Xi_ne (by omega)]))
        have m262 : Xi U52 957 (Xi S 904 93).toNat ≤ n := by omega
        clear p247 h247
        refine l_aload_n rfl rfl ?_
        refine l_iconst rfl ?_
        have w747 : Xi U52 904 65 = Xi T51 904 65 := (show Xi U52 904 65 = Xi T51 904 65 from by rw [eU52]; exact Xi_ne (by omega))
        have w748 : 0 ≤ Xi T51 904 65 ∧ Xi T51 904 65 ≤ 1 := hHT51.c _ _
        have w749 : Xi U52 904 69 = Xi T50 904 69 := (show Xi U52 904 69 = Xi T51 904 69 from by rw [eU52]; exact Xi_ne (by omega)).trans ((show Xi T51 904 69 = Xi T50 904 69 from w736.x _ _ rfl))
        have w750 : 0 ≤ Xi T50 904 69 ∧ Xi T50 904 69 ≤ 2600 := hHT50.c _ _
        have w751 : Xi U52 904 8 = Xi T51 904 8 := (show Xi U52 904 8 = Xi T51 904 8 from by rw [eU52]; exact Xi_ne (by omega))
        have w752 : 0 ≤ Xi T51 904 8 ∧ Xi T51 904 8 ≤ 5010 := hHT51.c _ _
        have w753 : Xi U52 904 93 = Xi S 904 93 := (show Xi U52 904 93 = Xi T51 904 93 from by rw [eU52]; exact Xi_ne (by omega)).trans ( (show Xi T51 904 93 = Xi T50 904 93 from w736.x _ _ rfl).trans ( (show Xi T50 904 93 = Xi T49 904 93 from w718.x _ _ rfl).trans ( (show Xi T49 904 93 = Xi U48 904 93 from w698.x _ _ rfl).trans ( (show Xi U48 904 93 = Xi U11 904 93 from by rw [eU48]; exact Xi_ne (by omega)).trans ( (show Xi U11 904 93 = Xi U10 904 93 from by rw [eU11]; exact Xi_ne (by omega)).trans ( (show Xi U10 904 93 = Xi U9 904 93 from by rw [eU10]; exact Xi_ne (by omega)).trans ( (show Xi U9 904 93 = Xi U8 904 93 from by rw [eU9]; exact Xi_ne (by omega)).trans ((show Xi U8 904 93 = Xi S 904 93 from by rw [eU8]; exact Xi_ne (by omega))))))))))
        have w754 : 0 ≤ Xi S 904 93 ∧ Xi S 904 93 ≤ 1700 := hH.c _ _
        have w755 : Xi U52 904 98 = Xi S 904 98 := (show Xi U52 904 98 = Xi T51 904 98 from by rw [eU52]; exact Xi_ne (by omega)).trans ( (show Xi T51 904 98 = Xi T50 904 98 from w736.x _ _ rfl).trans ( (show Xi T50 904 98 = Xi T49 904 98 from w718.x _ _ rfl).trans ( (show Xi T49 904 98 = Xi U48 904 98 from w698.x _ _ rfl).trans ( (show Xi U48 904 98 = Xi U11 904 98 from by rw [eU48]; exact Xi_ne (by omega)).trans ( (show Xi U11 904 98 = Xi U10 904 98 from by rw [eU11]; exact Xi_ne (by omega)).trans ( (show Xi U10 904 98 = Xi U9 904 98 from by rw [eU10]; exact Xi_ne (by omega)).trans ( (show Xi U9 904 98 = Xi U8 904 98 from by rw [eU9]; exact Xi_ne (by omega)).trans ((show Xi U8 904 98 = Xi S 904 98 from by rw [eU8]; exact Xi_ne (by omega))))))))))
        have w756 : 0 ≤ Xi S 904 98 ∧ Xi S 904 98 ≤ 1700 := hH.c _ _
        refine l_callV rfl rfl rfl (t_mo_take__2 hHU52 n (c + 1) 4 ⟨by omega, by omega⟩ (by first | assumption | exact (TK_FR hFU52 rfl (by assumption : TK S _))) (by first | assumption | exact (AT_FR (FR_e eU52) rfl (by assumption : AT T51 _ _))) (by first | assumption | omega) _) ?_
        rintro _ T53 ⟨hHT53, w761, rfl, w757, w758, kb265, w759⟩
        have hFT53 : FR md_mo_phrase S T53 := FR.tr hFU52 w761 rfl
        show Rl _ _ _ _ _ [] _ _
        have w763 : 0 ≤ Xi T53 904 8 ∧ Xi T53 904 8 ≤ 5010 := hHT53.c _ _
        have w764 : 0 ≤ Xi T53 904 65 ∧ Xi T53 904 65 ≤ 1 := hHT53.c _ _
        have w765 : Xi T53 904 69 = Xi T50 904 69 := (show Xi T53 904 69 = Xi U52 904 69 from w761.x _ _ rfl).trans ( (show Xi U52 904 69 = Xi T51 904 69 from by rw [eU52]; exact Xi_ne (by omega)).trans ((show Xi T51 904 69 = Xi T50 904 69 from w736.x _ _ rfl)))
        have w766 : 0 ≤ Xi T50 904 69 ∧ Xi T50 904 69 ≤ 2600 := hHT50.c _ _
        have w767 : Xi T53 904 93 = Xi S 904 93 := (show Xi T53 904 93 = Xi U52 904 93 from w761.x _ _ rfl).trans ( (show Xi U52 904 93 = Xi T51 904 93 from by rw [eU52]; exact Xi_ne (by omega)).trans ( (show Xi T51 904 93 = Xi T50 904 93 from w736.x _ _ rfl).trans ( (show Xi T50 904 93 = Xi T49 904 93 from w718.x _ _ rfl).trans ( (show Xi T49 904 93 = Xi U48 904 93 from w698.x _ _ rfl).trans ( (show Xi U48 904 93 = Xi U11 904 93 from by rw [eU48]; exact Xi_ne (by omega)).trans ( (show Xi U11 904 93 = Xi U10 904 93 from by rw [eU11]; exact Xi_ne (by omega)).trans ( (show Xi U10 904 93 = Xi U9 904 93 from by rw [eU10]; exact Xi_ne (by omega)).trans ( (show Xi U9 904 93 = Xi U8 904 93 from by rw [eU9]; exact Xi_ne (by omega)).trans ((show Xi U8 904 93 = Xi S 904 93 from by rw [eU8]; exact Xi_ne (by omega)))))))))))
        have w768 : 0 ≤ Xi S 904 93 ∧ Xi S 904 93 ≤ 1700 := hH.c _ _
        have p265 : Xi T53 904 65 = 0 → Xi T53 956 (Xi S 904 93).toNat < Xi T53 904 69 := fun q => by have t := p262 (kb265 q); rw [((by assumption : FR md_mo_take U52 T53).cx 956 rfl _).1]; omega
        have h265 : Xi T53 904 65 = 0 → THV (Xi T53 904 69) n (Xi T53 954 (Xi S 904 93).toNat) (Xi T53 955 (Xi S 904 93).toNat) := fun q => thv_c (h262 (kb265 q)) (by omega) ((by assumption : FR md_mo_take U52 T53).cx 954 rfl _).1 ((by assumption : FR md_mo_take U52 T53).cx 955 rfl _).1
        have m265 : Xi T53 957 (Xi S 904 93).toNat ≤ n := by rw [((by assumption : FR md_mo_take U52 T53).cx 957 rfl _).1]; exact m262
        clear p262 h262
        have w762 : Xi S 904 8 ≤ Xi T53 904 8 ∧ Xi T53 904 8 ≤ n ∧ Xi S 904 69 ≤ Xi T53 904 69 ∧ (Xi T53 904 65 = 0 → Xi S 904 65 = 0) := by omega
        clear w758 kb265 w759 w737
        refine l_aload_n rfl rfl ?_
        refine l_dup rfl rfl ?_
        refine l_gfi rfl rfl rfl rfl rfl ?_
        have w769 : (Xi T53 904 93) = (Xi S 904 93) := (show Xi T53 904 93 = Xi U52 904 93 from w761.x _ _ rfl).trans ( (show Xi U52 904 93 = Xi T51 904 93 from by rw [eU52]; exact Xi_ne (by omega)).trans ( (show Xi T51 904 93 = Xi T50 904 93 from w736.x _ _ rfl).trans ( (show Xi T50 904 93 = Xi T49 904 93 from w718.x _ _ rfl).trans ( (show Xi T49 904 93 = Xi U48 904 93 from w698.x _ _ rfl).trans ( (show Xi U48 904 93 = Xi U11 904 93 from by rw [eU48]; exact Xi_ne (by omega)).trans ( (show Xi U11 904 93 = Xi U10 904 93 from by rw [eU11]; exact Xi_ne (by omega)).trans ( (show Xi U10 904 93 = Xi U9 904 93 from by rw [eU10]; exact Xi_ne (by omega)).trans ( (show Xi U9 904 93 = Xi U8 904 93 from by rw [eU9]; exact Xi_ne (by omega)).trans ((show Xi U8 904 93 = Xi S 904 93 from by rw [eU8]; exact Xi_ne (by omega)))))))))))
        rw [w769]
        refine l_iconst rfl ?_
        refine l_iadd rfl ?_
        refine l_pfi rfl rfl rfl rfl ?_
        obtain ⟨U54, eU54⟩ : ∃ T : sS, T = uI T53 904 93 (Int32.ofInt ((Xi S 904 93) + 1)) := ⟨_, rfl⟩
        rw [← eU54]
        have hHU54 : HI U54 := by rw [eU54]; exact HI_w hHT53 (show 0 ≤ ((Xi S 904 93) + 1) by omega) (show ((Xi S 904 93) + 1) ≤ 1700 by omega)
        have hFU54 : FR md_mo_phrase S U54 := by rw [eU54]; exact FR.wI hFT53 (mdf_i (r := (904, 905, 93, 94)) (List.mem_of_getElem? (i := 5) rfl) (inR_i (by omega) (by omega) (by omega) (by omega)))
        have w770 : Xi U54 904 93 = ((Xi S 904 93) + 1) := by rw [eU54]; exact Xi_same (by unfold rg; omega)
        have a275 : AT U54 n c := at_ct (c := c + 1) (by first | assumption | exact AT_FR (FR_e ) rfl (by assumption) | exact AT_FR (FR_e ) rfl (AT_FR (FR_e ) rfl (by assumption))) eU54 (by omega) (by omega) rfl
        have E275 : ∀ w : Int, (w = 3 ∨ w = 4) → Xi U54 904 65 = 0 → PVt U54 n w (Xi S 904 93).toNat := fun w hw q => (by rw [eU54, Xi_ne (by omega)] at q; exact pvt_w (pvt_3 hw (h265 q) (p265 q) m265) eU54 (by omega))
        clear p265 h265
        refine l_goto rfl rfl ?_
        have w771 : Xi U54 963 (Xi S 904 98).toNat = Xi U48 963 (Xi S 904 98).toNat := (show Xi U54 963 (Xi S 904 98).toNat = Xi T53 963 (Xi S 904 98).toNat from by rw [eU54]; exact Xi_ne (by omega)).trans ( (show Xi T53 963 (Xi S 904 98).toNat = Xi U52 963 (Xi S 904 98).toNat from (w761.cx 963 rfl _).1).trans ( (show Xi U52 963 (Xi S 904 98).toNat = Xi T51 963 (Xi S 904 98).toNat from by rw [eU52]; exact Xi_ne (by omega)).trans ( (show Xi T51 963 (Xi S 904 98).toNat = Xi T50 963 (Xi S 904 98).toNat from (w736.cx 963 rfl _).1).trans ( (show Xi T50 963 (Xi S 904 98).toNat = Xi T49 963 (Xi S 904 98).toNat from (w718.cx 963 rfl _).1).trans ((show Xi T49 963 (Xi S 904 98).toNat = Xi U48 963 (Xi S 904 98).toNat from (w698.cx 963 rfl _).1))))))
        have w772 : Xi U54 964 (Xi S 904 98).toNat = Xi U9 964 (Xi S 904 98).toNat := (show Xi U54 964 (Xi S 904 98).toNat = Xi T53 964 (Xi S 904 98).toNat from by rw [eU54]; exact Xi_ne (by omega)).trans ( (show Xi T53 964 (Xi S 904 98).toNat = Xi U52 964 (Xi S 904 98).toNat from (w761.cx 964 rfl _).1).trans ( (show Xi U52 964 (Xi S 904 98).toNat = Xi T51 964 (Xi S 904 98).toNat from by rw [eU52]; exact Xi_ne (by omega)).trans ( (show Xi T51 964 (Xi S 904 98).toNat = Xi T50 964 (Xi S 904 98).toNat from (w736.cx 964 rfl _).1).trans ( (show Xi T50 964 (Xi S 904 98).toNat = Xi T49 964 (Xi S 904 98).toNat from (w718.cx 964 rfl _).1).trans ( (show Xi T49 964 (Xi S 904 98).toNat = Xi U48 964 (Xi S 904 98).toNat from (w698.cx 964 rfl _).1).trans ( (show Xi U48 964 (Xi S 904 98).toNat = Xi U11 964 (Xi S 904 98).toNat from by rw [eU48]; exact Xi_ne (by omega)).trans ( (show Xi U11 964 (Xi S 904 98).toNat = Xi U10 964 (Xi S 904 98).toNat from by rw [eU11]; exact Xi_ne (by omega)).trans ((show Xi U10 964 (Xi S 904 98).toNat = Xi U9 964 (Xi S 904 98).toNat from by rw [eU10]; exact Xi_ne (by omega))))))))))
        have w773 : Xi U54 904 65 = Xi T53 904 65 := (show Xi U54 904 65 = Xi T53 904 65 from by rw [eU54]; exact Xi_ne (by omega))
        have w774 : 0 ≤ Xi T53 904 65 ∧ Xi T53 904 65 ≤ 1 := hHT53.c _ _
        have w775 : Xi U54 904 69 = Xi T50 904 69 := (show Xi U54 904 69 = Xi T53 904 69 from by rw [eU54]; exact Xi_ne (by omega)).trans ( (show Xi T53 904 69 = Xi U52 904 69 from w761.x _ _ rfl).trans ( (show Xi U52 904 69 = Xi T51 904 69 from by rw [eU52]; exact Xi_ne (by omega)).trans ((show Xi T51 904 69 = Xi T50 904 69 from w736.x _ _ rfl))))
        have w776 : 0 ≤ Xi T50 904 69 ∧ Xi T50 904 69 ≤ 2600 := hHT50.c _ _
        have w777 : Xi U54 904 8 = Xi T53 904 8 := (show Xi U54 904 8 = Xi T53 904 8 from by rw [eU54]; exact Xi_ne (by omega))
        have w778 : 0 ≤ Xi T53 904 8 ∧ Xi T53 904 8 ≤ 5010 := hHT53.c _ _
        have w779 : 0 ≤ Xi U54 904 93 ∧ Xi U54 904 93 ≤ 1700 := hHU54.c _ _
        have w780 : Xi U54 904 98 = Xi S 904 98 := (show Xi U54 904 98 = Xi T53 904 98 from by rw [eU54]; exact Xi_ne (by omega)).trans ( (show Xi T53 904 98 = Xi U52 904 98 from w761.x _ _ rfl).trans ( (show Xi U52 904 98 = Xi T51 904 98 from by rw [eU52]; exact Xi_ne (by omega)).trans ( (show Xi T51 904 98 = Xi T50 904 98 from w736.x _ _ rfl).trans ( (show Xi T50 904 98 = Xi T49 904 98 from w718.x _ _ rfl).trans ( (show Xi T49 904 98 = Xi U48 904 98 from w698.x _ _ rfl).trans ( (show Xi U48 904 98 = Xi U11 904 98 from by rw [eU48]; exact Xi_ne (by omega)).trans ( (show Xi U11 904 98 = Xi U10 904 98 from by rw [eU11]; exact Xi_ne (by omega)).trans ( (show Xi U10 904 98 = Xi U9 904 98 from by rw [eU10]; exact Xi_ne (by omega)).trans ( (show Xi U9 904 98 = Xi U8 904 98 from by rw [eU9]; exact Xi_ne (by omega)).trans ((show Xi U8 904 98 = Xi S 904 98 from by rw [eU8]; exact Xi_ne (by omega))))))))))))
        have w781 : 0 ≤ Xi S 904 98 ∧ Xi S 904 98 ≤ 1700 := hH.c _ _
        exact Rl_weak (C409 U54 hHU54 hFU54  (by first | assumption | exact AT_bad (by omega)) (by first | assumption | exact (RNV_FR (FR_e eU54) rfl (RNV_FR w761 rfl (RNV_FR (FR_e eU52) rfl (RNV_FR w736 rfl (by assumption : RNV T50 _)))))) (by omega) (by omega) (by omega) (by omega) (by omega) (by omega) (by omega) (by omega) ((KT_FR (FR_e eU54) rfl (KT_FR w761 rfl (KT.w (KT_FR w736 rfl (KT.tr (KT.tr (KT_FR (FR_e eU48) rfl (KT_FR (FR_e eU11) rfl (KT.w (KT_FR (FR_e eU9) rfl (KT_FR (FR_e eU8) rfl KT.rf)) eU10 (by omega)))) (by assumption : KT T49 U48 _) (by omega)) (by assumption : KT T50 T49 _) (by omega))) eU52 (by omega))))) ((KP.w (KP_FR w761 rfl (KP.w (KP_FR w736 rfl (KP_FR w718 rfl (KP_FR w698 rfl (KP.w (KP.w (KP.w (KP.w (KP.w KP.rf eU8 (by omega)) eU9 (by omega)) eU10 (by omega)) eU11 (by omega)) eU48 (by omega))))) eU52 (by omega))) eU54 (by omega))) (by first | exact fun q => pv_i (t := (Xi S 904 93).toNat) (E128 q) (by omega) (by omega) | exact fun q => pv_i (t := (Xi S 904 93).toNat) (E143 q) (by omega) (by omega) | exact fun q => pv_i (t := (Xi S 904 93).toNat) (E212 q) (by omega) (by omega) | exact fun q => pv_i (t := (Xi S 904 93).toNat) (E368 q) (by omega) (by omega) | exact fun q => pv_i (t := (Xi S 904 93).toNat) (E389 q) (by omega) (by omega) | exact fun q => pv_i (t := (Xi S 904 93).toNat) (E275 _ (by omega) q) rfl (by omega) | exact fun q => absurd q (by omega))) (And.intro rfl (True.intro))
    | 5, hii =>
      cases hii
      have w782 : z171 = 148 := by simpa using w174
      refine l_aload_n rfl rfl ?_
      have t374 : AT U11 n (c + 1) ∧ _ := at_mv (c2 := c + 1) hT hA (fun j => (hFU10.cx 907 rfl j).1) (fun j => (hFU10.cx 908 rfl j).1) (by omega) (by omega) (by omega) (by omega) eU11 (by omega) (by omega) (by omega) (by omega) (Or.inr ⟨rfl, by unfold K3; omega⟩)
      have a374 : AT U11 n (c + 1) := t374.1
      have l374 := t374.2
      clear t374 l39
      refine l_gfr rfl rfl rfl rfl rfl (hHU11.r 904 95 963 rfl) ?_
      refine l_iload_n rfl rfl ?_
      refine l_bipush rfl rfl ?_
      refine l_iastore (n := 1700) rfl rfl (by omega) (by omega) (by unfold rg; omega) ?_
      obtain ⟨U55, eU55⟩ : ∃ T : sS, T = uI U11 963 (((Xi S 904 98)).toNat) (Int32.ofInt 6) := ⟨_, rfl⟩
      rw [← eU55]
      have hHU55 : HI U55 := by rw [eU55]; exact HI_w hHU11 (show 0 ≤ 6 by omega) (show 6 ≤ 6 by omega)
      have hFU55 : FR md_mo_phrase S U55 := by rw [eU55]; exact FR.wI hFU11 (mdf_i (r := (963, 964, 0, 100000)) (List.mem_of_getElem? (i := 23) rfl) (inR_i (by omega) (by omega) (by omega) (by omega)))
      have w783 : Xi U55 963 (((Xi S 904 98)).toNat) = 6 := by rw [eU55]; exact Xi_same (by unfold rg; omega)
      refine l_aload_n rfl rfl ?_
      refine l_dup rfl rfl ?_
      refine l_gfi rfl rfl rfl rfl rfl ?_
      have w784 : (Xi U55 904 93) = (Xi S 904 93) := (show Xi U55 904 93 = Xi U11 904 93 from by rw [eU55]; exact Xi_ne (by omega)).trans ( (show Xi U11 904 93 = Xi U10 904 93 from by rw [eU11]; exact Xi_ne (by omega)).trans ( (show Xi U10 904 93 = Xi U9 904 93 from by rw [eU10]; exact Xi_ne (by omega)).trans ( (show Xi U9 904 93 = Xi U8 904 93 from by rw [eU9]; exact Xi_ne (by omega)).trans ((show Xi U8 904 93 = Xi S 904 93 from by rw [eU8]; exact Xi_ne (by omega))))))
      rw [w784]
      refine l_iconst rfl ?_
      refine l_iadd rfl ?_
      refine l_pfi rfl rfl rfl rfl ?_
      obtain ⟨U56, eU56⟩ : ∃ T : sS, T = uI U55 904 93 (Int32.ofInt ((Xi S 904 93) + 1)) := ⟨_, rfl⟩
      rw [← eU56]
      have hHU56 : HI U56 := by rw [eU56]; exact HI_w hHU55 (show 0 ≤ ((Xi S 904 93) + 1) by omega) (show ((Xi S 904 93) + 1) ≤ 1700 by omega)
      have hFU56 : FR md_mo_phrase S U56 := by rw [eU56]; exact FR.wI hFU55 (mdf_i (r := (904, 905, 93, 94)) (List.mem_of_getElem? (i := 5) rfl) (inR_i (by omega) (by omega) (by omega) (by omega)))
      have w785 : Xi U56 904 93 = ((Xi S 904 93) + 1) := by rw [eU56]; exact Xi_same (by unfold rg; omega)
      have a389 : AT U56 n c := at_ct (c := c + 1) (by first | assumption | exact AT_FR (FR_e eU55) rfl (by assumption) | exact AT_FR (FR_e eU55) rfl (AT_FR (FR_e eU11) rfl (by assumption))) eU56 (by omega) (by omega) rfl
      have E389 : Xi U56 904 65 = 0 → PVt U56 n 6 (Xi S 904 93).toNat := fun q => (by rw [eU56, Xi_ne (by omega)] at q; exact pvt_w (pvt_6) eU56 (by omega))
      refine l_goto rfl rfl ?_
      have w786 : Xi U56 963 (Xi S 904 98).toNat = Xi U55 963 (Xi S 904 98).toNat := (show Xi U56 963 (Xi S 904 98).toNat = Xi U55 963 (Xi S 904 98).toNat from by rw [eU56]; exact Xi_ne (by omega))
      have w787 : Xi U56 964 (Xi S 904 98).toNat = Xi U9 964 (Xi S 904 98).toNat := (show Xi U56 964 (Xi S 904 98).toNat = Xi U55 964 (Xi S 904 98).toNat from by rw [eU56]; exact Xi_ne (by omega)).trans ( (show Xi U55 964 (Xi S 904 98).toNat = Xi U11 964 (Xi S 904 98).toNat from by rw [eU55]; exact Xi_ne (by omega)).trans ( (show Xi U11 964 (Xi S 904 98).toNat = Xi U10 964 (Xi S 904 98).toNat from by rw [eU11]; exact Xi_ne (by omega)).trans ((show Xi U10 964 (Xi S 904 98).toNat = Xi U9 964 (Xi S 904 98).toNat from by rw [eU10]; exact Xi_ne (by omega)))))
      have w788 : Xi U56 904 65 = Xi S 904 65 := (show Xi U56 904 65 = Xi U55 904 65 from by rw [eU56]; exact Xi_ne (by omega)).trans ( (show Xi U55 904 65 = Xi U11 904 65 from by rw [eU55]; exact Xi_ne (by omega)).trans ( (show Xi U11 904 65 = Xi U10 904 65 from by rw [eU11]; exact Xi_ne (by omega)).trans ( (show Xi U10 904 65 = Xi U9 904 65 from by rw [eU10]; exact Xi_ne (by omega)).trans ( (show Xi U9 904 65 = Xi U8 904 65 from by rw [eU9]; exact Xi_ne (by omega)).trans ((show Xi U8 904 65 = Xi S 904 65 from by rw [eU8]; exact Xi_ne (by omega)))))))
      have w789 : 0 ≤ Xi S 904 65 ∧ Xi S 904 65 ≤ 1 := hH.c _ _
      have w790 : Xi U56 904 69 = Xi S 904 69 := (show Xi U56 904 69 = Xi U55 904 69 from by rw [eU56]; exact Xi_ne (by omega)).trans ( (show Xi U55 904 69 = Xi U11 904 69 from by rw [eU55]; exact Xi_ne (by omega)).trans ( (show Xi U11 904 69 = Xi U10 904 69 from by rw [eU11]; exact Xi_ne (by omega)).trans ( (show Xi U10 904 69 = Xi U9 904 69 from by rw [eU10]; exact Xi_ne (by omega)).trans ( (show Xi U9 904 69 = Xi U8 904 69 from by rw [eU9]; exact Xi_ne (by omega)).trans ((show Xi U8 904 69 = Xi S 904 69 from by rw [eU8]; exact Xi_ne (by omega)))))))
      have w791 : 0 ≤ Xi S 904 69 ∧ Xi S 904 69 ≤ 2600 := hH.c _ _
      have w792 : Xi U56 904 8 = Xi U11 904 8 := (show Xi U56 904 8 = Xi U55 904 8 from by rw [eU56]; exact Xi_ne (by omega)).trans ((show Xi U55 904 8 = Xi U11 904 8 from by rw [eU55]; exact Xi_ne (by omega)))
      have w793 : 0 ≤ Xi U11 904 8 ∧ Xi U11 904 8 ≤ 5010 := hHU11.c _ _
      have w794 : 0 ≤ Xi U56 904 93 ∧ Xi U56 904 93 ≤ 1700 := hHU56.c _ _
      have w795 : Xi U56 904 98 = Xi S 904 98 := (show Xi U56 904 98 = Xi U55 904 98 from by rw [eU56]; exact Xi_ne (by omega)).trans ( (show Xi U55 904 98 = Xi U11 904 98 from by rw [eU55]; exact Xi_ne (by omega)).trans ( (show Xi U11 904 98 = Xi U10 904 98 from by rw [eU11]; exact Xi_ne (by omega)).trans ( (show Xi U10 904 98 = Xi U9 904 98 from by rw [eU10]; exact Xi_ne (by omega)).trans ( (show Xi U9 904 98 = Xi U8 904 98 from by rw [eU9]; exact Xi_ne (by omega)).trans ((show Xi U8 904 98 = Xi S 904 98 from by rw [eU8]; exact Xi_ne (by omega)))))))
      have w796 : 0 ≤ Xi S 904 98 ∧ Xi S 904 98 ≤ 1700 := hH.c _ _
      exact Rl_weak (C409 U56 hHU56 hFU56  (by first | assumption | exact AT_bad (by omega)) (by first | assumption | exact (RNV_FR (FR_e eU56) rfl (RNV_FR (FR_e eU55) rfl (RNV_FR (FR_e eU11) rfl (RNV_FR (FR_e eU10) rfl (RNV_FR (FR_e eU9) rfl (RNV_FR (FR_e eU8) rfl (by assumption : RNV S _)))))))) (by omega) (by omega) (by omega) (by omega) (by omega) (by omega) (by omega) (by omega) ((KT_FR (FR_e eU56) rfl (KT_FR (FR_e eU55) rfl (KT_FR (FR_e eU11) rfl (KT.w (KT_FR (FR_e eU9) rfl (KT_FR (FR_e eU8) rfl KT.rf)) eU10 (by omega)))))) ((KP.w (KP.w (KP.w (KP.w (KP.w (KP.w KP.rf eU8 (by omega)) eU9 (by omega)) eU10 (by omega)) eU11 (by omega)) eU55 (by omega)) eU56 (by omega))) (by first | exact fun q => pv_i (t := (Xi S 904 93).toNat) (E128 q) (by omega) (by omega) | exact fun q => pv_i (t := (Xi S 904 93).toNat) (E143 q) (by omega) (by omega) | exact fun q => pv_i (t := (Xi S 904 93).toNat) (E212 q) (by omega) (by omega) | exact fun q => pv_i (t := (Xi S 904 93).toNat) (E368 q) (by omega) (by omega) | exact fun q => pv_i (t := (Xi S 904 93).toNat) (E389 q) (by omega) (by omega) | exact fun q => pv_i (t := (Xi S 904 93).toNat) (E275 _ (by omega) q) rfl (by omega) | exact fun q => absurd q (by omega))) (And.intro rfl (True.intro))
    | 6, hii =>
      cases hii
      have w797 : z171 = 149 := by simpa using w174
      refine l_aload_n rfl rfl ?_
      have t281 : AT U11 n (c + 1) ∧ _ := at_mv (c2 := c + 1) hT hA (fun j => (hFU10.cx 907 rfl j).1) (fun j => (hFU10.cx 908 rfl j).1) (by omega) (by omega) (by omega) (by omega) eU11 (by omega) (by omega) (by omega) (by omega) (Or.inr ⟨rfl, by unfold K3; omega⟩)
      have a281 : AT U11 n (c + 1) := t281.1
      have l281 := t281.2
      clear t281 l39
      refine l_gfr rfl rfl rfl rfl rfl (hHU11.r 904 95 963 rfl) ?_
      refine l_iload_n rfl rfl ?_
      refine l_iconst rfl ?_
      refine l_iastore (n := 1700) rfl rfl (by omega) (by omega) (by unfold rg; omega) ?_
      obtain ⟨U57, eU57⟩ : ∃ T : sS, T = uI U11 963 (((Xi S 904 98)).toNat) (Int32.ofInt 5) := ⟨_, rfl⟩
      rw [← eU57]
      have hHU57 : HI U57 := by rw [eU57]; exact HI_w hHU11 (show 0 ≤ 5 by omega) (show 5 ≤ 6 by omega)
      have hFU57 : FR md_mo_phrase S U57 := by rw [eU57]; exact FR.wI hFU11 (mdf_i (r := (963, 964, 0, 100000)) (List.mem_of_getElem? (i := 23) rfl) (inR_i (by omega) (by omega) (by omega) (by omega)))
      have w798 : Xi U57 963 (((Xi S 904 98)).toNat) = 5 := by rw [eU57]; exact Xi_same (by unfold rg; omega)
      refine l_aload_n rfl rfl ?_
      refine l_gfr rfl rfl rfl rfl rfl (hHU57.r 904 86 956 rfl) ?_
      refine l_aload_n rfl rfl ?_
      refine l_gfi rfl rfl rfl rfl rfl ?_
      have w799 : (Xi U57 904 93) = (Xi S 904 93) := (show Xi U57 904 93 = Xi U11 904 93 from by rw [eU57]; exact Xi_ne (by omega)).trans ( (show Xi U11 904 93 = Xi U10 904 93 from by rw [eU11]; exact Xi_ne (by omega)).trans ( (show Xi U10 904 93 = Xi U9 904 93 from by rw [eU10]; exact Xi_ne (by omega)).trans ( (show Xi U9 904 93 = Xi U8 904 93 from by rw [eU9]; exact Xi_ne (by omega)).trans ((show Xi U8 904 93 = Xi S 904 93 from by rw [eU8]; exact Xi_ne (by omega))))))
      rw [w799]
      refine l_aload_n rfl rfl ?_
      have w800 : Xi U57 904 65 = Xi S 904 65 := (show Xi U57 904 65 = Xi U11 904 65 from by rw [eU57]; exact Xi_ne (by omega)).trans ( (show Xi U11 904 65 = Xi U10 904 65 from by rw [eU11]; exact Xi_ne (by omega)).trans ( (show Xi U10 904 65 = Xi U9 904 65 from by rw [eU10]; exact Xi_ne (by omega)).trans ( (show Xi U9 904 65 = Xi U8 904 65 from by rw [eU9]; exact Xi_ne (by omega)).trans ((show Xi U8 904 65 = Xi S 904 65 from by rw [eU8]; exact Xi_ne (by omega))))))
      have w801 : 0 ≤ Xi S 904 65 ∧ Xi S 904 65 ≤ 1 := hH.c _ _
      have w802 : Xi U57 904 69 = Xi S 904 69 := (show Xi U57 904 69 = Xi U11 904 69 from by rw [eU57]; exact Xi_ne (by omega)).trans ( (show Xi U11 904 69 = Xi U10 904 69 from by rw [eU11]; exact Xi_ne (by omega)).trans ( (show Xi U10 904 69 = Xi U9 904 69 from by rw [eU10]; exact Xi_ne (by omega)).trans ( (show Xi U9 904 69 = Xi U8 904 69 from by rw [eU9]; exact Xi_ne (by omega)).trans ((show Xi U8 904 69 = Xi S 904 69 from by rw [eU8]; exact Xi_ne (by omega))))))
      have w803 : 0 ≤ Xi S 904 69 ∧ Xi S 904 69 ≤ 2600 := hH.c _ _
      have w804 : Xi U57 904 8 = Xi U11 904 8 := (show Xi U57 904 8 = Xi U11 904 8 from by rw [eU57]; exact Xi_ne (by omega))
      have w805 : 0 ≤ Xi U11 904 8 ∧ Xi U11 904 8 ≤ 5010 := hHU11.c _ _
      have w806 : Xi U57 904 93 = Xi S 904 93 := (show Xi U57 904 93 = Xi U11 904 93 from by rw [eU57]; exact Xi_ne (by omega)).trans ( (show Xi U11 904 93 = Xi U10 904 93 from by rw [eU11]; exact Xi_ne (by omega)).trans ( (show Xi U10 904 93 = Xi U9 904 93 from by rw [eU10]; exact Xi_ne (by omega)).trans ( (show Xi U9 904 93 = Xi U8 904 93 from by rw [eU9]; exact Xi_ne (by omega)).trans ((show Xi U8 904 93 = Xi S 904 93 from by rw [eU8]; exact Xi_ne (by omega))))))
      have w807 : 0 ≤ Xi S 904 93 ∧ Xi S 904 93 ≤ 1700 := hH.c _ _
      have w808 : Xi U57 904 98 = Xi S 904 98 := (show Xi U57 904 98 = Xi U11 904 98 from by rw [eU57]; exact Xi_ne (by omega)).trans ( (show Xi U11 904 98 = Xi U10 904 98 from by rw [eU11]; exact Xi_ne (by omega)).trans ( (show Xi U10 904 98 = Xi U9 904 98 from by rw [eU10]; exact Xi_ne (by omega)).trans ( (show Xi U9 904 98 = Xi U8 904 98 from by rw [eU9]; exact Xi_ne (by omega)).trans ((show Xi U8 904 98 = Xi S 904 98 from by rw [eU8]; exact Xi_ne (by omega))))))
      have w809 : 0 ≤ Xi S 904 98 ∧ Xi S 904 98 ≤ 1700 := hH.c _ _
      refine l_callV rfl rfl rfl (t_mo_run hHU57 n (c + 1) (by first | assumption | exact (TK_FR hFU57 rfl (by assumption : TK S _))) (by first | assumption | exact (AT_FR (FR_e eU57) rfl (by assumption : AT U11 _ _))) (by first | assumption | exact (RNV_FR (FR_e eU57) rfl (RNV_FR (FR_e eU11) rfl (RNV_FR (FR_e eU10) rfl (RNV_FR (FR_e eU9) rfl (RNV_FR (FR_e eU8) rfl (by assumption : RNV S _))))))) _) ?_
      rintro _ T58 ⟨hHT58, w815, z814, rfl, w814, w810, w811, w812, r297, w813⟩
      have hFT58 : FR md_mo_phrase S T58 := FR.tr hFU57 w815 rfl
      show Rl _ _ _ _ _ [iv z814, iv (Xi S 904 93), .ref 956] _ _
      have w817 : 0 ≤ Xi T58 904 8 ∧ Xi T58 904 8 ≤ 5010 := hHT58.c _ _
      have w818 : 0 ≤ Xi T58 904 65 ∧ Xi T58 904 65 ≤ 1 := hHT58.c _ _
      have w819 : 0 ≤ Xi T58 904 69 ∧ Xi T58 904 69 ≤ 2600 := hHT58.c _ _
      have w820 : Xi T58 904 93 = Xi S 904 93 := (show Xi T58 904 93 = Xi U57 904 93 from w815.x _ _ rfl).trans ( (show Xi U57 904 93 = Xi U11 904 93 from by rw [eU57]; exact Xi_ne (by omega)).trans ( (show Xi U11 904 93 = Xi U10 904 93 from by rw [eU11]; exact Xi_ne (by omega)).trans ( (show Xi U10 904 93 = Xi U9 904 93 from by rw [eU10]; exact Xi_ne (by omega)).trans ( (show Xi U9 904 93 = Xi U8 904 93 from by rw [eU9]; exact Xi_ne (by omega)).trans ((show Xi U8 904 93 = Xi S 904 93 from by rw [eU8]; exact Xi_ne (by omega)))))))
      have w821 : 0 ≤ Xi S 904 93 ∧ Xi S 904 93 ≤ 1700 := hH.c _ _
      have w816 : Xi S 904 8 ≤ Xi T58 904 8 ∧ Xi T58 904 8 ≤ n ∧ Xi S 904 69 ≤ Xi T58 904 69 ∧ (Xi T58 904 65 = 0 → Xi S 904 65 = 0) := by omega
      clear w811 w813
      refine l_iastore (n := 1700) rfl rfl (by omega) (by omega) (by unfold rg; omega) ?_
      obtain ⟨U59, eU59⟩ : ∃ T : sS, T = uI T58 956 (((Xi S 904 93)).toNat) (Int32.ofInt z814) := ⟨_, rfl⟩
      rw [← eU59]
      have hHU59 : HI U59 := by rw [eU59]; exact HI_w hHT58 (show 0 ≤ z814 by omega) (show z814 ≤ 2600 by omega)
      have hFU59 : FR md_mo_phrase S U59 := by rw [eU59]; exact FR.wI hFT58 (mdf_i (r := (956, 957, 0, 100000)) (List.mem_of_getElem? (i := 16) rfl) (inR_i (by omega) (by omega) (by omega) (by omega)))
      have w822 : Xi U59 956 (((Xi S 904 93)).toNat) = z814 := by rw [eU59]; exact Xi_same (by unfold rg; omega)
      have p300 : Xi U59 904 65 = 0 → Xi U59 956 (Xi S 904 93).toNat < Xi U59 904 69 := fun q => (by rw [eU59, Xi_ne (by omega)] at q; have t := r297 q; have u : Xi U59 904 69 = Xi T58 904 69 := (by rw [eU59, Xi_ne (by omega)]); omega)
      have k300 : Xi U59 904 65 = 0 → Xi S 904 65 = 0 := fun q => (by rw [eU59, Xi_ne (by omega)] at q; omega)
      clear r297
      refine l_aload_n rfl rfl ?_
      refine l_gfr rfl rfl rfl rfl rfl (hHU59.r 904 83 953 rfl) ?_
      refine l_aload_n rfl rfl ?_
      refine l_gfi rfl rfl rfl rfl rfl ?_
      have w823 : (Xi U59 904 93) = (Xi S 904 93) := (show Xi U59 904 93 = Xi T58 904 93 from by rw [eU59]; exact Xi_ne (by omega)).trans ( (show Xi T58 904 93 = Xi U57 904 93 from w815.x _ _ rfl).trans ( (show Xi U57 904 93 = Xi U11 904 93 from by rw [eU57]; exact Xi_ne (by omega)).trans ( (show Xi U11 904 93 = Xi U10 904 93 from by rw [eU11]; exact Xi_ne (by omega)).trans ( (show Xi U10 904 93 = Xi U9 904 93 from by rw [eU10]; exact Xi_ne (by omega)).trans ( (show Xi U9 904 93 = Xi U8 904 93 from by rw [eU9]; exact Xi_ne (by omega)).trans ((show Xi U8 904 93 = Xi S 904 93 from by rw [eU8]; exact Xi_ne (by omega))))))))
      rw [w823]
      refine l_aload_n rfl rfl ?_
      refine l_sipush rfl rfl ?_
      have w824 : Xi U59 904 65 = Xi T58 904 65 := (show Xi U59 904 65 = Xi T58 904 65 from by rw [eU59]; exact Xi_ne (by omega))
      have w825 : 0 ≤ Xi T58 904 65 ∧ Xi T58 904 65 ≤ 1 := hHT58.c _ _
      have w826 : Xi U59 904 69 = Xi T58 904 69 := (show Xi U59 904 69 = Xi T58 904 69 from by rw [eU59]; exact Xi_ne (by omega))
      have w827 : 0 ≤ Xi T58 904 69 ∧ Xi T58 904 69 ≤ 2600 := hHT58.c _ _
      have w828 : Xi U59 904 8 = Xi T58 904 8 := (show Xi U59 904 8 = Xi T58 904 8 from by rw [eU59]; exact Xi_ne (by omega))
      have w829 : 0 ≤ Xi T58 904 8 ∧ Xi T58 904 8 ≤ 5010 := hHT58.c _ _
      have w830 : Xi U59 904 93 = Xi S 904 93 := (show Xi U59 904 93 = Xi T58 904 93 from by rw [eU59]; exact Xi_ne (by omega)).trans ( (show Xi T58 904 93 = Xi U57 904 93 from w815.x _ _ rfl).trans ( (show Xi U57 904 93 = Xi U11 904 93 from by rw [eU57]; exact Xi_ne (by omega)).trans ( (show Xi U11 904 93 = Xi U10 904 93 from by rw [eU11]; exact Xi_ne (by omega)).trans ( (show Xi U10 904 93 = Xi U9 904 93 from by rw [eU10]; exact Xi_ne (by omega)).trans ( (show Xi U9 904 93 = Xi U8 904 93 from by rw [eU9]; exact Xi_ne (by omega)).trans ((show Xi U8 904 93 = Xi S 904 93 from by rw [eU8]; exact Xi_ne (by omega))))))))
      have w831 : 0 ≤ Xi S 904 93 ∧ Xi S 904 93 ≤ 1700 := hH.c _ _
      have w832 : Xi U59 904 98 = Xi S 904 98 := (show Xi U59 904 98 = Xi T58 904 98 from by rw [eU59]; exact Xi_ne (by omega)).trans ( (show Xi T58 904 98 = Xi U57 904 98 from w815.x _ _ rfl).trans ( (show Xi U57 904 98 = Xi U11 904 98 from by rw [eU57]; exact Xi_ne (by omega)).trans ( (show Xi U11 904 98 = Xi U10 904 98 from by rw [eU11]; exact Xi_ne (by omega)).trans ( (show Xi U10 904 98 = Xi U9 904 98 from by rw [eU10]; exact Xi_ne (by omega)).trans ( (show Xi U9 904 98 = Xi U8 904 98 from by rw [eU9]; exact Xi_ne (by omega)).trans ((show Xi U8 904 98 = Xi S 904 98 from by rw [eU8]; exact Xi_ne (by omega))))))))
      have w833 : 0 ≤ Xi S 904 98 ∧ Xi S 904 98 ≤ 1700 := hH.c _ _
      refine l_callV rfl rfl rfl (t_mo_isNext hHU59 n (c + 1) 154 ⟨by omega, by omega⟩ (by first | assumption | exact (TK_FR hFU59 rfl (by assumption : TK S _))) (by first | assumption | exact (AT_FR (FR_e eU59) rfl (by assumption : AT T58 _ _))) _) ?_
      rintro _ _ ⟨rfl, z834, rfl, w834, p313, n313⟩
      show Rl _ _ _ _ _ [iv z834, iv (Xi S 904 93), .ref 953] _ _
      clear p313 n313
      refine l_if_ne rfl rfl (by unfold rg; omega) (fun w835 => ?_) (fun w836 => ?_)
      · refine l_iconst rfl ?_
        refine l_goto rfl rfl ?_
        refine l_bastoreZ1 (n := 1700) rfl rfl (by omega) (by omega) (by unfold rg; omega) ⟨by omega, by omega⟩ ?_
        obtain ⟨U60, eU60⟩ : ∃ T : sS, T = uI U59 953 (((Xi S 904 93)).toNat) (Int32.ofInt 1) := ⟨_, rfl⟩
        rw [← eU60]
        have hHU60 : HI U60 := by rw [eU60]; exact HI_w hHU59 (show 0 ≤ 1 by omega) (show 1 ≤ 1 by omega)
        have hFU60 : FR md_mo_phrase S U60 := by rw [eU60]; exact FR.wI hFU59 (mdf_i (r := (953, 954, 0, 100000)) (List.mem_of_getElem? (i := 13) rfl) (inR_i (by omega) (by omega) (by omega) (by omega)))
        have w837 : Xi U60 953 (((Xi S 904 93)).toNat) = 1 := by rw [eU60]; exact Xi_same (by unfold rg; omega)
        have p344 : Xi U60 904 65 = 0 → Xi U60 956 (Xi S 904 93).toNat < Xi U60 904 69 := fun q => (by rw [eU60, Xi_ne (by omega)] at q; have t := p300 q; rw [eU60, Xi_ne (by omega), Xi_ne (by omega)]; exact t)
        have w838 : Xi U60 963 (Xi S 904 98).toNat = Xi U57 963 (Xi S 904 98).toNat := (show Xi U60 963 (Xi S 904 98).toNat = Xi U59 963 (Xi S 904 98).toNat from by rw [eU60]; exact Xi_ne (by omega)).trans ( (show Xi U59 963 (Xi S 904 98).toNat = Xi T58 963 (Xi S 904 98).toNat from by rw [eU59]; exact Xi_ne (by omega)).trans ((show Xi T58 963 (Xi S 904 98).toNat = Xi U57 963 (Xi S 904 98).toNat from (w815.cx 963 rfl _).1)))
        have w839 : Xi U60 964 (Xi S 904 98).toNat = Xi U9 964 (Xi S 904 98).toNat := (show Xi U60 964 (Xi S 904 98).toNat = Xi U59 964 (Xi S 904 98).toNat from by rw [eU60]; exact Xi_ne (by omega)).trans ( (show Xi U59 964 (Xi S 904 98).toNat = Xi T58 964 (Xi S 904 98).toNat from by rw [eU59]; exact Xi_ne (by omega)).trans ( (show Xi T58 964 (Xi S 904 98).toNat = Xi U57 964 (Xi S 904 98).toNat from (w815.cx 964 rfl _).1).trans ( (show Xi U57 964 (Xi S 904 98).toNat = Xi U11 964 (Xi S 904 98).toNat from by rw [eU57]; exact Xi_ne (by omega)).trans ( (show Xi U11 964 (Xi S 904 98).toNat = Xi U10 964 (Xi S 904 98).toNat from by rw [eU11]; exact Xi_ne (by omega)).trans ((show Xi U10 964 (Xi S 904 98).toNat = Xi U9 964 (Xi S 904 98).toNat from by rw [eU10]; exact Xi_ne (by omega)))))))
        have w840 : Xi U60 904 65 = Xi T58 904 65 := (show Xi U60 904 65 = Xi U59 904 65 from by rw [eU60]; exact Xi_ne (by omega)).trans ((show Xi U59 904 65 = Xi T58 904 65 from by rw [eU59]; exact Xi_ne (by omega)))
        have w841 : 0 ≤ Xi T58 904 65 ∧ Xi T58 904 65 ≤ 1 := hHT58.c _ _
        have w842 : Xi U60 904 69 = Xi T58 904 69 := (show Xi U60 904 69 = Xi U59 904 69 from by rw [eU60]; exact Xi_ne (by omega)).trans ((show Xi U59 904 69 = Xi T58 904 69 from by rw [eU59]; exact Xi_ne (by omega)))
        have w843 : 0 ≤ Xi T58 904 69 ∧ Xi T58 904 69 ≤ 2600 := hHT58.c _ _
        have w844 : Xi U60 904 8 = Xi T58 904 8 := (show Xi U60 904 8 = Xi U59 904 8 from by rw [eU60]; exact Xi_ne (by omega)).trans ((show Xi U59 904 8 = Xi T58 904 8 from by rw [eU59]; exact Xi_ne (by omega)))
        have w845 : 0 ≤ Xi T58 904 8 ∧ Xi T58 904 8 ≤ 5010 := hHT58.c _ _
        have w846 : Xi U60 904 93 = Xi S 904 93 := (show Xi U60 904 93 = Xi U59 904 93 from by rw [eU60]; exact Xi_ne (by omega)).trans ( (show Xi U59 904 93 = Xi T58 904 93 from by rw [eU59]; exact Xi_ne (by omega)).trans ( (show Xi T58 904 93 = Xi U57 904 93 from w815.x _ _ rfl).trans ( (show Xi U57 904 93 = Xi U11 904 93 from by rw [eU57]; exact Xi_ne (by omega)).trans ( (show Xi U11 904 93 = Xi U10 904 93 from by rw [eU11]; exact Xi_ne (by omega)).trans ( (show Xi U10 904 93 = Xi U9 904 93 from by rw [eU10]; exact Xi_ne (by omega)).trans ( (show Xi U9 904 93 = Xi U8 904 93 from by rw [eU9]; exact Xi_ne (by omega)).trans ((show Xi U8 904 93 = Xi S 904 93 from by rw [eU8]; exact Xi_ne (by omega)))))))))
        have w847 : 0 ≤ Xi S 904 93 ∧ Xi S 904 93 ≤ 1700 := hH.c _ _
        have w848 : Xi U60 904 98 = Xi S 904 98 := (show Xi U60 904 98 = Xi U59 904 98 from by rw [eU60]; exact Xi_ne (by omega)).trans ( (show Xi U59 904 98 = Xi T58 904 98 from by rw [eU59]; exact Xi_ne (by omega)).trans ( (show Xi T58 904 98 = Xi U57 904 98 from w815.x _ _ rfl).trans ( (show Xi U57 904 98 = Xi U11 904 98 from by rw [eU57]; exact Xi_ne (by omega)).trans ( (show Xi U11 904 98 = Xi U10 904 98 from by rw [eU11]; exact Xi_ne (by omega)).trans ( (show Xi U10 904 98 = Xi U9 904 98 from by rw [eU10]; exact Xi_ne (by omega)).trans ( (show Xi U9 904 98 = Xi U8 904 98 from by rw [eU9]; exact Xi_ne (by omega)).trans ((show Xi U8 904 98 = Xi S 904 98 from by rw [eU8]; exact Xi_ne (by omega)))))))))
        have w849 : 0 ≤ Xi S 904 98 ∧ Xi S 904 98 ≤ 1700 := hH.c _ _
        exact Rl_weak (C345 U60 hHU60 hFU60  (by first | assumption | exact AT_FR (FR_e eU60) rfl (AT_FR (FR_e eU59) rfl (by assumption)) | exact AT_FR (FR_e eU60) rfl (by assumption)) (by first | assumption | exact (RNV_FR (FR_e eU60) rfl (RNV_FR (FR_e eU59) rfl (by assumption : RNV T58 _)))) (by omega) (by omega) (by omega) (by omega) (by omega) (by omega) (by omega) (by omega) (p344) ((KT.w (KT.w (KT_FR w815 rfl (KT_FR (FR_e eU57) rfl (KT_FR (FR_e eU11) rfl (KT.w (KT_FR (FR_e eU9) rfl (KT_FR (FR_e eU8) rfl KT.rf)) eU10 (by omega))))) eU59 (by omega)) eU60 (by omega))) ((KP.w (KP.w (KP_FR w815 rfl (KP.w (KP.w (KP.w (KP.w (KP.w KP.rf eU8 (by omega)) eU9 (by omega)) eU10 (by omega)) eU11 (by omega)) eU57 (by omega))) eU59 (by omega)) eU60 (by omega)))) (And.intro rfl (True.intro))
      · refine l_aload_n rfl rfl ?_
        refine l_sipush rfl rfl ?_
        have w850 : Xi U59 904 65 = Xi T58 904 65 := (show Xi U59 904 65 = Xi T58 904 65 from by rw [eU59]; exact Xi_ne (by omega))
        have w851 : 0 ≤ Xi T58 904 65 ∧ Xi T58 904 65 ≤ 1 := hHT58.c _ _
        have w852 : Xi U59 904 69 = Xi T58 904 69 := (show Xi U59 904 69 = Xi T58 904 69 from by rw [eU59]; exact Xi_ne (by omega))
        have w853 : 0 ≤ Xi T58 904 69 ∧ Xi T58 904 69 ≤ 2600 := hHT58.c _ _
        have w854 : Xi U59 904 8 = Xi T58 904 8 := (show Xi U59 904 8 = Xi T58 904 8 from by rw [eU59]; exact Xi_ne (by omega))
        have w855 : 0 ≤ Xi T58 904 8 ∧ Xi T58 904 8 ≤ 5010 := hHT58.c _ _
        have w856 : Xi U59 904 93 = Xi S 904 93 := (show Xi U59 904 93 = Xi T58 904 93 from by rw [eU59]; exact Xi_ne (by omega)).trans ( (show Xi T58 904 93 = Xi U57 904 93 from w815.x _ _ rfl).trans ( (show Xi U57 904 93 = Xi U11 904 93 from by rw [eU57]; exact Xi_ne (by omega)).trans ( (show Xi U11 904 93 = Xi U10 904 93 from by rw [eU11]; exact Xi_ne (by omega)).trans ( (show Xi U10 904 93 = Xi U9 904 93 from by rw [eU10]; exact Xi_ne (by omega)).trans ( (show Xi U9 904 93 = Xi U8 904 93 from by rw [eU9]; exact Xi_ne (by omega)).trans ((show Xi U8 904 93 = Xi S 904 93 from by rw [eU8]; exact Xi_ne (by omega))))))))
        have w857 : 0 ≤ Xi S 904 93 ∧ Xi S 904 93 ≤ 1700 := hH.c _ _
        have w858 : Xi U59 904 98 = Xi S 904 98 := (show Xi U59 904 98 = Xi T58 904 98 from by rw [eU59]; exact Xi_ne (by omega)).trans ( (show Xi T58 904 98 = Xi U57 904 98 from w815.x _ _ rfl).trans ( (show Xi U57 904 98 = Xi U11 904 98 from by rw [eU57]; exact Xi_ne (by omega)).trans ( (show Xi U11 904 98 = Xi U10 904 98 from by rw [eU11]; exact Xi_ne (by omega)).trans ( (show Xi U10 904 98 = Xi U9 904 98 from by rw [eU10]; exact Xi_ne (by omega)).trans ( (show Xi U9 904 98 = Xi U8 904 98 from by rw [eU9]; exact Xi_ne (by omega)).trans ((show Xi U8 904 98 = Xi S 904 98 from by rw [eU8]; exact Xi_ne (by omega))))))))
        have w859 : 0 ≤ Xi S 904 98 ∧ Xi S 904 98 ≤ 1700 := hH.c _ _
        refine l_callV rfl rfl rfl (t_mo_isNext hHU59 n (c + 1) 153 ⟨by omega, by omega⟩ (by first | assumption | exact (TK_FR hFU59 rfl (by assumption : TK S _))) (by first | assumption | exact (AT_FR (FR_e eU59) rfl (by assumption : AT T58 _ _))) _) ?_
        rintro _ _ ⟨rfl, z860, rfl, w860, p323, n323⟩
        show Rl _ _ _ _ _ [iv z860, iv (Xi S 904 93), .ref 953] _ _
        clear p323 n323
        refine l_if_ne rfl rfl (by unfold rg; omega) (fun w861 => ?_) (fun w862 => ?_)
        · refine l_iconst rfl ?_
          refine l_goto rfl rfl ?_
          refine l_bastoreZ1 (n := 1700) rfl rfl (by omega) (by omega) (by unfold rg; omega) ⟨by omega, by omega⟩ ?_
          obtain ⟨U61, eU61⟩ : ∃ T : sS, T = uI U59 953 (((Xi S 904 93)).toNat) (Int32.ofInt 1) := ⟨_, rfl⟩
          rw [← eU61]
          have hHU61 : HI U61 := by rw [eU61]; exact HI_w hHU59 (show 0 ≤ 1 by omega) (show 1 ≤ 1 by omega)
          have hFU61 : FR md_mo_phrase S U61 := by rw [eU61]; exact FR.wI hFU59 (mdf_i (r := (953, 954, 0, 100000)) (List.mem_of_getElem? (i := 13) rfl) (inR_i (by omega) (by omega) (by omega) (by omega)))
          have w863 : Xi U61 953 (((Xi S 904 93)).toNat) = 1 := by rw [eU61]; exact Xi_same (by unfold rg; omega)
          have p344 : Xi U61 904 65 = 0 → Xi U61 956 (Xi S 904 93).toNat < Xi U61 904 69 := fun q => (by rw [eU61, Xi_ne (by omega)] at q; have t := p300 q; rw [eU61, Xi_ne (by omega), Xi_ne (by omega)]; exact t)
          have w864 : Xi U61 963 (Xi S 904 98).toNat = Xi U57 963 (Xi S 904 98).toNat := (show Xi U61 963 (Xi S 904 98).toNat = Xi U59 963 (Xi S 904 98).toNat from by rw [eU61]; exact Xi_ne (by omega)).trans ( (show Xi U59 963 (Xi S 904 98).toNat = Xi T58 963 (Xi S 904 98).toNat from by rw [eU59]; exact Xi_ne (by omega)).trans ((show Xi T58 963 (Xi S 904 98).toNat = Xi U57 963 (Xi S 904 98).toNat from (w815.cx 963 rfl _).1)))
          have w865 : Xi U61 964 (Xi S 904 98).toNat = Xi U9 964 (Xi S 904 98).toNat := (show Xi U61 964 (Xi S 904 98).toNat = Xi U59 964 (Xi S 904 98).toNat from by rw [eU61]; exact Xi_ne (by omega)).trans ( (show Xi U59 964 (Xi S 904 98).toNat = Xi T58 964 (Xi S 904 98).toNat from by rw [eU59]; exact Xi_ne (by omega)).trans ( (show Xi T58 964 (Xi S 904 98).toNat = Xi U57 964 (Xi S 904 98).toNat from (w815.cx 964 rfl _).1).trans ( (show Xi U57 964 (Xi S 904 98).toNat = Xi U11 964 (Xi S 904 98).toNat from by rw [eU57]; exact Xi_ne (by omega)).trans ( (show Xi U11 964 (Xi S 904 98).toNat = Xi U10 964 (Xi S 904 98).toNat from by rw [eU11]; exact Xi_ne (by omega)).trans ((show Xi U10 964 (Xi S 904 98).toNat = Xi U9 964 (Xi S 904 98).toNat from by rw [eU10]; exact Xi_ne (by omega)))))))
          have w866 : Xi U61 904 65 = Xi T58 904 65 := (show Xi U61 904 65 = Xi U59 904 65 from by rw [eU61]; exact Xi_ne (by omega)).trans ((show Xi U59 904 65 = Xi T58 904 65 from by rw [eU59]; exact Xi_ne (by omega)))
          have w867 : 0 ≤ Xi T58 904 65 ∧ Xi T58 904 65 ≤ 1 := hHT58.c _ _
          have w868 : Xi U61 904 69 = Xi T58 904 69 := (show Xi U61 904 69 = Xi U59 904 69 from by rw [eU61]; exact Xi_ne (by omega)).trans ((show Xi U59 904 69 = Xi T58 904 69 from by rw [eU59]; exact Xi_ne (by omega)))
          have w869 : 0 ≤ Xi T58 904 69 ∧ Xi T58 904 69 ≤ 2600 := hHT58.c _ _
          have w870 : Xi U61 904 8 = Xi T58 904 8 := (show Xi U61 904 8 = Xi U59 904 8 from by rw [eU61]; exact Xi_ne (by omega)).trans ((show Xi U59 904 8 = Xi T58 904 8 from by rw [eU59]; exact Xi_ne (by omega)))
          have w871 : 0 ≤ Xi T58 904 8 ∧ Xi T58 904 8 ≤ 5010 := hHT58.c _ _
          have w872 : Xi U61 904 93 = Xi S 904 93 := (show Xi U61 904 93 = Xi U59 904 93 from by rw [eU61]; exact Xi_ne (by omega)).trans ( (show Xi U59 904 93 = Xi T58 904 93 from by rw [eU59]; exact Xi_ne (by omega)).trans ( (show Xi T58 904 93 = Xi U57 904 93 from w815.x _ _ rfl).trans ( (show Xi U57 904 93 = Xi U11 904 93 from by rw [eU57]; exact Xi_ne (by omega)).trans ( (show Xi U11 904 93 = Xi U10 904 93 from by rw [eU11]; exact Xi_ne (by omega)).trans ( (show Xi U10 904 93 = Xi U9 904 93 from by rw [eU10]; exact Xi_ne (by omega)).trans ( (show Xi U9 904 93 = Xi U8 904 93 from by rw [eU9]; exact Xi_ne (by omega)).trans ((show Xi U8 904 93 = Xi S 904 93 from by rw [eU8]; exact Xi_ne (by omega)))))))))
          have w873 : 0 ≤ Xi S 904 93 ∧ Xi S 904 93 ≤ 1700 := hH.c _ _
          have w874 : Xi U61 904 98 = Xi S 904 98 := (show Xi U61 904 98 = Xi U59 904 98 from by rw [eU61]; exact Xi_ne (by omega)).trans ( (show Xi U59 904 98 = Xi T58 904 98 from by rw [eU59]; exact Xi_ne (by omega)).trans ( (show Xi T58 904 98 = Xi U57 904 98 from w815.x _ _ rfl).trans ( (show Xi U57 904 98 = Xi U11 904 98 from by rw [eU57]; exact Xi_ne (by omega)).trans ( (show Xi U11 904 98 = Xi U10 904 98 from by rw [eU11]; exact Xi_ne (by omega)).trans ( (show Xi U10 904 98 = Xi U9 904 98 from by rw [eU10]; exact Xi_ne (by omega)).trans ( (show Xi U9 904 98 = Xi U8 904 98 from by rw [eU9]; exact Xi_ne (by omega)).trans ((show Xi U8 904 98 = Xi S 904 98 from by rw [eU8]; exact Xi_ne (by omega)))))))))
          have w875 : 0 ≤ Xi S 904 98 ∧ Xi S 904 98 ≤ 1700 := hH.c _ _
          exact Rl_weak (C345 U61 hHU61 hFU61  (by first | assumption | exact AT_FR (FR_e eU61) rfl (AT_FR (FR_e eU59) rfl (by assumption)) | exact AT_FR (FR_e eU61) rfl (by assumption)) (by first | assumption | exact (RNV_FR (FR_e eU61) rfl (RNV_FR (FR_e eU59) rfl (by assumption : RNV T58 _)))) (by omega) (by omega) (by omega) (by omega) (by omega) (by omega) (by omega) (by omega) (p344) ((KT.w (KT.w (KT_FR w815 rfl (KT_FR (FR_e eU57) rfl (KT_FR (FR_e eU11) rfl (KT.w (KT_FR (FR_e eU9) rfl (KT_FR (FR_e eU8) rfl KT.rf)) eU10 (by omega))))) eU59 (by omega)) eU61 (by omega))) ((KP.w (KP.w (KP_FR w815 rfl (KP.w (KP.w (KP.w (KP.w (KP.w KP.rf eU8 (by omega)) eU9 (by omega)) eU10 (by omega)) eU11 (by omega)) eU57 (by omega))) eU59 (by omega)) eU61 (by omega)))) (And.intro rfl (True.intro))
        · refine l_aload_n rfl rfl ?_
          have w876 : Xi U59 904 65 = Xi T58 904 65 := (show Xi U59 904 65 = Xi T58 904 65 from by rw [eU59]; exact Xi_ne (by omega))
          have w877 : 0 ≤ Xi T58 904 65 ∧ Xi T58 904 65 ≤ 1 := hHT58.c _ _
          have w878 : Xi U59 904 69 = Xi T58 904 69 := (show Xi U59 904 69 = Xi T58 904 69 from by rw [eU59]; exact Xi_ne (by omega))
          have w879 : 0 ≤ Xi T58 904 69 ∧ Xi T58 904 69 ≤ 2600 := hHT58.c _ _
          have w880 : Xi U59 904 8 = Xi T58 904 8 := (show Xi U59 904 8 = Xi T58 904 8 from by rw [eU59]; exact Xi_ne (by omega))
          have w881 : 0 ≤ Xi T58 904 8 ∧ Xi T58 904 8 ≤ 5010 := hHT58.c _ _
          have w882 : Xi U59 904 93 = Xi S 904 93 := (show Xi U59 904 93 = Xi T58 904 93 from by rw [eU59]; exact Xi_ne (by omega)).trans ( (show Xi T58 904 93 = Xi U57 904 93 from w815.x _ _ rfl).trans ( (show Xi U57 904 93 = Xi U11 904 93 from by rw [eU57]; exact Xi_ne (by omega)).trans ( (show Xi U11 904 93 = Xi U10 904 93 from by rw [eU11]; exact Xi_ne (by omega)).trans ( (show Xi U10 904 93 = Xi U9 904 93 from by rw [eU10]; exact Xi_ne (by omega)).trans ( (show Xi U9 904 93 = Xi U8 904 93 from by rw [eU9]; exact Xi_ne (by omega)).trans ((show Xi U8 904 93 = Xi S 904 93 from by rw [eU8]; exact Xi_ne (by omega))))))))
          have w883 : 0 ≤ Xi S 904 93 ∧ Xi S 904 93 ≤ 1700 := hH.c _ _
          have w884 : Xi U59 904 98 = Xi S 904 98 := (show Xi U59 904 98 = Xi T58 904 98 from by rw [eU59]; exact Xi_ne (by omega)).trans ( (show Xi T58 904 98 = Xi U57 904 98 from w815.x _ _ rfl).trans ( (show Xi U57 904 98 = Xi U11 904 98 from by rw [eU57]; exact Xi_ne (by omega)).trans ( (show Xi U11 904 98 = Xi U10 904 98 from by rw [eU11]; exact Xi_ne (by omega)).trans ( (show Xi U10 904 98 = Xi U9 904 98 from by rw [eU10]; exact Xi_ne (by omega)).trans ( (show Xi U9 904 98 = Xi U8 904 98 from by rw [eU9]; exact Xi_ne (by omega)).trans ((show Xi U8 904 98 = Xi S 904 98 from by rw [eU8]; exact Xi_ne (by omega))))))))
          have w885 : 0 ≤ Xi S 904 98 ∧ Xi S 904 98 ≤ 1700 := hH.c _ _
          refine l_callV rfl rfl rfl (t_mo_look hHU59 n (c + 1) (by first | assumption | exact (TK_FR hFU59 rfl (by assumption : TK S _))) (by first | assumption | exact (AT_FR (FR_e eU59) rfl (by assumption : AT T58 _ _))) _) ?_
          rintro _ _ ⟨rfl, z887, rfl, w887, w886⟩
          show Rl _ _ _ _ _ [iv z887, iv (Xi S 904 93), .ref 953] _ _
          have w888 : Xi U59 904 65 = Xi T58 904 65 := (show Xi U59 904 65 = Xi T58 904 65 from by rw [eU59]; exact Xi_ne (by omega))
          have w889 : 0 ≤ Xi T58 904 65 ∧ Xi T58 904 65 ≤ 1 := hHT58.c _ _
          have w890 : Xi U59 904 69 = Xi T58 904 69 := (show Xi U59 904 69 = Xi T58 904 69 from by rw [eU59]; exact Xi_ne (by omega))
          have w891 : 0 ≤ Xi T58 904 69 ∧ Xi T58 904 69 ≤ 2600 := hHT58.c _ _
          have w892 : Xi U59 904 8 = Xi T58 904 8 := (show Xi U59 904 8 = Xi T58 904 8 from by rw [eU59]; exact Xi_ne (by omega))
          have w893 : 0 ≤ Xi T58 904 8 ∧ Xi T58 904 8 ≤ 5010 := hHT58.c _ _
          have w894 : Xi U59 904 93 = Xi S 904 93 := (show Xi U59 904 93 = Xi T58 904 93 from by rw [eU59]; exact Xi_ne (by omega)).trans ( (show Xi T58 904 93 = Xi U57 904 93 from w815.x _ _ rfl).trans ( (show Xi U57 904 93 = Xi U11 904 93 from by rw [eU57]; exact Xi_ne (by omega)).trans ( (show Xi U11 904 93 = Xi U10 904 93 from by rw [eU11]; exact Xi_ne (by omega)).trans ( (show Xi U10 904 93 = Xi U9 904 93 from by rw [eU10]; exact Xi_ne (by omega)).trans ( (show Xi U9 904 93 = Xi U8 904 93 from by rw [eU9]; exact Xi_ne (by omega)).trans ((show Xi U8 904 93 = Xi S 904 93 from by rw [eU8]; exact Xi_ne (by omega))))))))
          have w895 : 0 ≤ Xi S 904 93 ∧ Xi S 904 93 ≤ 1700 := hH.c _ _
          have w896 : Xi U59 904 98 = Xi S 904 98 := (show Xi U59 904 98 = Xi T58 904 98 from by rw [eU59]; exact Xi_ne (by omega)).trans ( (show Xi T58 904 98 = Xi U57 904 98 from w815.x _ _ rfl).trans ( (show Xi U57 904 98 = Xi U11 904 98 from by rw [eU57]; exact Xi_ne (by omega)).trans ( (show Xi U11 904 98 = Xi U10 904 98 from by rw [eU11]; exact Xi_ne (by omega)).trans ( (show Xi U10 904 98 = Xi U9 904 98 from by rw [eU10]; exact Xi_ne (by omega)).trans ( (show Xi U9 904 98 = Xi U8 904 98 from by rw [eU9]; exact Xi_ne (by omega)).trans ((show Xi U8 904 98 = Xi S 904 98 from by rw [eU8]; exact Xi_ne (by omega))))))))
          have w897 : 0 ≤ Xi S 904 98 ∧ Xi S 904 98 ≤ 1700 := hH.c _ _
          refine l_callS rfl rfl (by decide) rfl (t_mo_isArt hHU59 z887 ⟨by omega, by omega⟩ _) ?_
          rintro _ _ ⟨rfl, z899, rfl, w899, w898⟩
          show Rl _ _ _ _ _ [iv z899, iv (Xi S 904 93), .ref 953] _ _
          refine l_if_eq rfl rfl (by unfold rg; omega) (fun w900 => ?_) (fun w901 => ?_)
          · refine l_iconst rfl ?_
            refine l_bastoreZ1 (n := 1700) rfl rfl (by omega) (by omega) (by unfold rg; omega) ⟨by omega, by omega⟩ ?_
            obtain ⟨U62, eU62⟩ : ∃ T : sS, T = uI U59 953 (((Xi S 904 93)).toNat) (Int32.ofInt 0) := ⟨_, rfl⟩
            rw [← eU62]
            have hHU62 : HI U62 := by rw [eU62]; exact HI_w hHU59 (show 0 ≤ 0 by omega) (show 0 ≤ 1 by omega)
            have hFU62 : FR md_mo_phrase S U62 := by rw [eU62]; exact FR.wI hFU59 (mdf_i (r := (953, 954, 0, 100000)) (List.mem_of_getElem? (i := 13) rfl) (inR_i (by omega) (by omega) (by omega) (by omega)))
            have w902 : Xi U62 953 (((Xi S 904 93)).toNat) = 0 := by rw [eU62]; exact Xi_same (by unfold rg; omega)
            have p344 : Xi U62 904 65 = 0 → Xi U62 956 (Xi S 904 93).toNat < Xi U62 904 69 := fun q => (by rw [eU62, Xi_ne (by omega)] at q; have t := p300 q; rw [eU62, Xi_ne (by omega), Xi_ne (by omega)]; exact t)
            have w903 : Xi U62 963 (Xi S 904 98).toNat = Xi U57 963 (Xi S 904 98).toNat := (show Xi U62 963 (Xi S 904 98).toNat = Xi U59 963 (Xi S 904 98).toNat from by rw [eU62]; exact Xi_ne (by omega)).trans ( (show Xi U59 963 (Xi S 904 98).toNat = Xi T58 963 (Xi S 904 98).toNat from by rw [eU59]; exact Xi_ne (by omega)).trans ((show Xi T58 963 (Xi S 904 98).toNat = Xi U57 963 (Xi S 904 98).toNat from (w815.cx 963 rfl _).1)))
            have w904 : Xi U62 964 (Xi S 904 98).toNat = Xi U9 964 (Xi S 904 98).toNat := (show Xi U62 964 (Xi S 904 98).toNat = Xi U59 964 (Xi S 904 98).toNat from by rw [eU62]; exact Xi_ne (by omega)).trans ( (show Xi U59 964 (Xi S 904 98).toNat = Xi T58 964 (Xi S 904 98).toNat from by rw [eU59]; exact Xi_ne (by omega)).trans ( (show Xi T58 964 (Xi S 904 98).toNat = Xi U57 964 (Xi S 904 98).toNat from (w815.cx 964 rfl _).1).trans ( (show Xi U57 964 (Xi S 904 98).toNat = Xi U11 964 (Xi S 904 98).toNat from by rw [eU57]; exact Xi_ne (by omega)).trans ( (show Xi U11 964 (Xi S 904 98).toNat = Xi U10 964 (Xi S 904 98).toNat from by rw [eU11]; exact Xi_ne (by omega)).trans ((show Xi U10 964 (Xi S 904 98).toNat = Xi U9 964 (Xi S 904 98).toNat from by rw [eU10]; exact Xi_ne (by omega)))))))
            have w905 : Xi U62 904 65 = Xi T58 904 65 := (show Xi U62 904 65 = Xi U59 904 65 from by rw [eU62]; exact Xi_ne (by omega)).trans ((show Xi U59 904 65 = Xi T58 904 65 from by rw [eU59]; exact Xi_ne (by omega)))
            have w906 : 0 ≤ Xi T58 904 65 ∧ Xi T58 904 65 ≤ 1 := hHT58.c _ _
            have w907 : Xi U62 904 69 = Xi T58 904 69 := (show Xi U62 904 69 = Xi U59 904 69 from by rw [eU62]; exact Xi_ne (by omega)).trans ((show Xi U59 904 69 = Xi T58 904 69 from by rw [eU59]; exact Xi_ne (by omega)))
            have w908 : 0 ≤ Xi T58 904 69 ∧ Xi T58 904 69 ≤ 2600 := hHT58.c _ _
            have w909 : Xi U62 904 8 = Xi T58 904 8 := (show Xi U62 904 8 = Xi U59 904 8 from by rw [eU62]; exact Xi_ne (by omega)).trans ((show Xi U59 904 8 = Xi T58 904 8 from by rw [eU59]; exact Xi_ne (by omega)))
            have w910 : 0 ≤ Xi T58 904 8 ∧ Xi T58 904 8 ≤ 5010 := hHT58.c _ _
            have w911 : Xi U62 904 93 = Xi S 904 93 := (show Xi U62 904 93 = Xi U59 904 93 from by rw [eU62]; exact Xi_ne (by omega)).trans ( (show Xi U59 904 93 = Xi T58 904 93 from by rw [eU59]; exact Xi_ne (by omega)).trans ( (show Xi T58 904 93 = Xi U57 904 93 from w815.x _ _ rfl).trans ( (show Xi U57 904 93 = Xi U11 904 93 from by rw [eU57]; exact Xi_ne (by omega)).trans ( (show Xi U11 904 93 = Xi U10 904 93 from by rw [eU11]; exact Xi_ne (by omega)).trans ( (show Xi U10 904 93 = Xi U9 904 93 from by rw [eU10]; exact Xi_ne (by omega)).trans ( (show Xi U9 904 93 = Xi U8 904 93 from by rw [eU9]; exact Xi_ne (by omega)).trans ((show Xi U8 904 93 = Xi S 904 93 from by rw [eU8]; exact Xi_ne (by omega)))))))))
            have w912 : 0 ≤ Xi S 904 93 ∧ Xi S 904 93 ≤ 1700 := hH.c _ _
            have w913 : Xi U62 904 98 = Xi S 904 98 := (show Xi U62 904 98 = Xi U59 904 98 from by rw [eU62]; exact Xi_ne (by omega)).trans ( (show Xi U59 904 98 = Xi T58 904 98 from by rw [eU59]; exact Xi_ne (by omega)).trans ( (show Xi T58 904 98 = Xi U57 904 98 from w815.x _ _ rfl).trans ( (show Xi U57 904 98 = Xi U11 904 98 from by rw [eU57]; exact Xi_ne (by omega)).trans ( (show Xi U11 904 98 = Xi U10 904 98 from by rw [eU11]; exact Xi_ne (by omega)).trans ( (show Xi U10 904 98 = Xi U9 904 98 from by rw [eU10]; exact Xi_ne (by omega)).trans ( (show Xi U9 904 98 = Xi U8 904 98 from by rw [eU9]; exact Xi_ne (by omega)).trans ((show Xi U8 904 98 = Xi S 904 98 from by rw [eU8]; exact Xi_ne (by omega)))))))))
            have w914 : 0 ≤ Xi S 904 98 ∧ Xi S 904 98 ≤ 1700 := hH.c _ _
            exact Rl_weak (C345 U62 hHU62 hFU62  (by first | assumption | exact AT_FR (FR_e eU62) rfl (AT_FR (FR_e eU59) rfl (by assumption)) | exact AT_FR (FR_e eU62) rfl (by assumption)) (by first | assumption | exact (RNV_FR (FR_e eU62) rfl (RNV_FR (FR_e eU59) rfl (by assumption : RNV T58 _)))) (by omega) (by omega) (by omega) (by omega) (by omega) (by omega) (by omega) (by omega) (p344) ((KT.w (KT.w (KT_FR w815 rfl (KT_FR (FR_e eU57) rfl (KT_FR (FR_e eU11) rfl (KT.w (KT_FR (FR_e eU9) rfl (KT_FR (FR_e eU8) rfl KT.rf)) eU10 (by omega))))) eU59 (by omega)) eU62 (by omega))) ((KP.w (KP.w (KP_FR w815 rfl (KP.w (KP.w (KP.w (KP.w (KP.w KP.rf eU8 (by omega)) eU9 (by omega)) eU10 (by omega)) eU11 (by omega)) eU57 (by omega))) eU59 (by omega)) eU62 (by omega)))) (And.intro rfl (True.intro))
          · refine l_iconst rfl ?_
            refine l_goto rfl rfl ?_
            refine l_bastoreZ1 (n := 1700) rfl rfl (by omega) (by omega) (by unfold rg; omega) ⟨by omega, by omega⟩ ?_
            obtain ⟨U63, eU63⟩ : ∃ T : sS, T = uI U59 953 (((Xi S 904 93)).toNat) (Int32.ofInt 1) := ⟨_, rfl⟩
            rw [← eU63]
            have hHU63 : HI U63 := by rw [eU63]; exact HI_w hHU59 (show 0 ≤ 1 by omega) (show 1 ≤ 1 by omega)
            have hFU63 : FR md_mo_phrase S U63 := by rw [eU63]; exact FR.wI hFU59 (mdf_i (r := (953, 954, 0, 100000)) (List.mem_of_getElem? (i := 13) rfl) (inR_i (by omega) (by omega) (by omega) (by omega)))
            have w915 : Xi U63 953 (((Xi S 904 93)).toNat) = 1 := by rw [eU63]; exact Xi_same (by unfold rg; omega)
            have p344 : Xi U63 904 65 = 0 → Xi U63 956 (Xi S 904 93).toNat < Xi U63 904 69 := fun q => (by rw [eU63, Xi_ne (by omega)] at q; have t := p300 q; rw [eU63, Xi_ne (by omega), Xi_ne (by omega)]; exact t)
            have w916 : Xi U63 963 (Xi S 904 98).toNat = Xi U57 963 (Xi S 904 98).toNat := (show Xi U63 963 (Xi S 904 98).toNat = Xi U59 963 (Xi S 904 98).toNat from by rw [eU63]; exact Xi_ne (by omega)).trans ( (show Xi U59 963 (Xi S 904 98).toNat = Xi T58 963 (Xi S 904 98).toNat from by rw [eU59]; exact Xi_ne (by omega)).trans ((show Xi T58 963 (Xi S 904 98).toNat = Xi U57 963 (Xi S 904 98).toNat from (w815.cx 963 rfl _).1)))
            have w917 : Xi U63 964 (Xi S 904 98).toNat = Xi U9 964 (Xi S 904 98).toNat := (show Xi U63 964 (Xi S 904 98).toNat = Xi U59 964 (Xi S 904 98).toNat from by rw [eU63]; exact Xi_ne (by omega)).trans ( (show Xi U59 964 (Xi S 904 98).toNat = Xi T58 964 (Xi S 904 98).toNat from by rw [eU59]; exact Xi_ne (by omega)).trans ( (show Xi T58 964 (Xi S 904 98).toNat = Xi U57 964 (Xi S 904 98).toNat from (w815.cx 964 rfl _).1).trans ( (show Xi U57 964 (Xi S 904 98).toNat = Xi U11 964 (Xi S 904 98).toNat from by rw [eU57]; exact Xi_ne (by omega)).trans ( (show Xi U11 964 (Xi S 904 98).toNat = Xi U10 964 (Xi S 904 98).toNat from by rw [eU11]; exact Xi_ne (by omega)).trans ((show Xi U10 964 (Xi S 904 98).toNat = Xi U9 964 (Xi S 904 98).toNat from by rw [eU10]; exact Xi_ne (by omega)))))))
            have w918 : Xi U63 904 65 = Xi T58 904 65 := (show Xi U63 904 65 = Xi U59 904 65 from by rw [eU63]; exact Xi_ne (by omega)).trans ((show Xi U59 904 65 = Xi T58 904 65 from by rw [eU59]; exact Xi_ne (by omega)))
            have w919 : 0 ≤ Xi T58 904 65 ∧ Xi T58 904 65 ≤ 1 := hHT58.c _ _
            have w920 : Xi U63 904 69 = Xi T58 904 69 := (show Xi U63 904 69 = Xi U59 904 69 from by rw [eU63]; exact Xi_ne (by omega)).trans ((show Xi U59 904 69 = Xi T58 904 69 from by rw [eU59]; exact Xi_ne (by omega)))
            have w921 : 0 ≤ Xi T58 904 69 ∧ Xi T58 904 69 ≤ 2600 := hHT58.c _ _
            have w922 : Xi U63 904 8 = Xi T58 904 8 := (show Xi U63 904 8 = Xi U59 904 8 from by rw [eU63]; exact Xi_ne (by omega)).trans ((show Xi U59 904 8 = Xi T58 904 8 from by rw [eU59]; exact Xi_ne (by omega)))
            have w923 : 0 ≤ Xi T58 904 8 ∧ Xi T58 904 8 ≤ 5010 := hHT58.c _ _
            have w924 : Xi U63 904 93 = Xi S 904 93 := (show Xi U63 904 93 = Xi U59 904 93 from by rw [eU63]; exact Xi_ne (by omega)).trans ( (show Xi U59 904 93 = Xi T58 904 93 from by rw [eU59]; exact Xi_ne (by omega)).trans ( (show Xi T58 904 93 = Xi U57 904 93 from w815.x _ _ rfl).trans ( (show Xi U57 904 93 = Xi U11 904 93 from by rw [eU57]; exact Xi_ne (by omega)).trans ( (show Xi U11 904 93 = Xi U10 904 93 from by rw [eU11]; exact Xi_ne (by omega)).trans ( (show Xi U10 904 93 = Xi U9 904 93 from by rw [eU10]; exact Xi_ne (by omega)).trans ( (show Xi U9 904 93 = Xi U8 904 93 from by rw [eU9]; exact Xi_ne (by omega)).trans ((show Xi U8 904 93 = Xi S 904 93 from by rw [eU8]; exact Xi_ne (by omega)))))))))
            have w925 : 0 ≤ Xi S 904 93 ∧ Xi S 904 93 ≤ 1700 := hH.c _ _
            have w926 : Xi U63 904 98 = Xi S 904 98 := (show Xi U63 904 98 = Xi U59 904 98 from by rw [eU63]; exact Xi_ne (by omega)).trans ( (show Xi U59 904 98 = Xi T58 904 98 from by rw [eU59]; exact Xi_ne (by omega)).trans ( (show Xi T58 904 98 = Xi U57 904 98 from w815.x _ _ rfl).trans ( (show Xi U57 904 98 = Xi U11 904 98 from by rw [eU57]; exact Xi_ne (by omega)).trans ( (show Xi U11 904 98 = Xi U10 904 98 from by rw [eU11]; exact Xi_ne (by omega)).trans ( (show Xi U10 904 98 = Xi U9 904 98 from by rw [eU10]; exact Xi_ne (by omega)).trans ( (show Xi U9 904 98 = Xi U8 904 98 from by rw [eU9]; exact Xi_ne (by omega)).trans ((show Xi U8 904 98 = Xi S 904 98 from by rw [eU8]; exact Xi_ne (by omega)))))))))
            have w927 : 0 ≤ Xi S 904 98 ∧ Xi S 904 98 ≤ 1700 := hH.c _ _
            exact Rl_weak (C345 U63 hHU63 hFU63  (by first | assumption | exact AT_FR (FR_e eU63) rfl (AT_FR (FR_e eU59) rfl (by assumption)) | exact AT_FR (FR_e eU63) rfl (by assumption)) (by first | assumption | exact (RNV_FR (FR_e eU63) rfl (RNV_FR (FR_e eU59) rfl (by assumption : RNV T58 _)))) (by omega) (by omega) (by omega) (by omega) (by omega) (by omega) (by omega) (by omega) (p344) ((KT.w (KT.w (KT_FR w815 rfl (KT_FR (FR_e eU57) rfl (KT_FR (FR_e eU11) rfl (KT.w (KT_FR (FR_e eU9) rfl (KT_FR (FR_e eU8) rfl KT.rf)) eU10 (by omega))))) eU59 (by omega)) eU63 (by omega))) ((KP.w (KP.w (KP_FR w815 rfl (KP.w (KP.w (KP.w (KP.w (KP.w KP.rf eU8 (by omega)) eU9 (by omega)) eU10 (by omega)) eU11 (by omega)) eU57 (by omega))) eU59 (by omega)) eU63 (by omega)))) (And.intro rfl (True.intro))
    | n + 7, hii => exact absurd hii (by simp)
def md_mo_phrases : List rec := [(904, 905, 8, 9), (904, 905, 65, 66), (904, 905, 66, 67), (904, 905, 69, 70), (904, 905, 78, 79), (904, 905, 93, 94), (904, 905, 98, 99), (904, 905, 99, 100), (904, 905, 100, 101), (904, 905, 101, 102), (950, 951, 0, 100000), (951, 952, 0, 100000), (952, 953, 0, 100000), (953, 954, 0, 100000), (954, 955, 0, 100000), (955, 956, 0, 100000), (956, 957, 0, 100000), (957, 958, 0, 100000), (958, 959, 0, 100000), (959, 960, 0, 100000), (960, 961, 0, 100000), (961, 962, 0, 100000), (962, 963, 0, 100000), (963, 964, 0, 100000), (964, 965, 0, 100000), (965, 966, 0, 100000)]
abbrev Q_mo_phrases (S : sS) (n : Nat) (c : Nat) : pst := fun r S1 => HI S1 ∧ FR md_mo_phrases S S1 ∧ (r = none ∧ (AT S1 n c) ∧ (Xi S 904 8 ≤ Xi S1 904 8 ∧ (Xi S1 904 8 ≤ n ∨ Xi S1 904 8 = Xi S 904 8)) ∧ (RNV S1 n) ∧ (Xi S1 904 65 = 0 → Xi S 904 65 = 0) ∧ (Xi S 904 69 ≤ Xi S1 904 69) ∧ (Xi S1 904 65 = 0 → TVA S1 n (Xi S1 904 94)) ∧ (Xi S1 904 65 = 0 → PVA S1 n (Xi S1 904 98)) ∧ (Xi S1 904 65 = 0 → Xi S1 904 94 + Xi S1 904 98 ≤ Xi S1 904 93 ∧ Xi S1 904 93 ≤ 1666))
set_option maxRecDepth 100000 in
theorem t_mo_phrases {S : sS} (hH : HI S) (n : Nat) (c : Nat) (hT : TK S n) (hA : AT S n c) (hv : RNV S n) (hx : Xi S 904 8 ≤ n) (tc : Xi S 904 93 ≤ 1690) (p0 : Xi S 904 98 = 0) (hs : Xi S 904 94 ≤ Xi S 904 93) (tv : Xi S 904 65 = 0 → TVA S n (Xi S 904 94)) (d : Nat) : Mt lay0 (d + 8) m_mo_phrases [.ref 904] S (Q_mo_phrases S n c) := by
  refine Mt_R rfl rfl ?_
  have hF : FR md_mo_phrases S S := FR.rf
  have w1 : 0 ≤ Xi S 904 65 ∧ Xi S 904 65 ≤ 1 := hH.c _ _
  have w2 : 0 ≤ Xi S 904 69 ∧ Xi S 904 69 ≤ 2600 := hH.c _ _
  have w3 : 0 ≤ Xi S 904 8 ∧ Xi S 904 8 ≤ 5010 := hH.c _ _
  have w4 : 0 ≤ Xi S 904 93 ∧ Xi S 904 93 ≤ 1700 := hH.c _ _
  have w5 : 0 ≤ Xi S 904 94 ∧ Xi S 904 94 ≤ 1700 := hH.c _ _
  have w6 : 0 ≤ Xi S 904 98 ∧ Xi S 904 98 ≤ 1700 := hH.c _ _
  have hn5 := hT.1
  have hat := hA
  have h8 : 0 ≤ Xi S 904 8 ∧ Xi S 904 8 ≤ 5010 := hH.c _ _
  have h69 : 0 ≤ Xi S 904 69 ∧ Xi S 904 69 ≤ 2600 := hH.c _ _
  have ha0 : Xi S 904 65 = 0 → Xi S 904 8 ≤ n := fun q => (hA q).1
  have ha3 : Xi S 904 65 = 0 → 2 * Xi S 904 69 ≤ Xi S 904 8 + 1 := fun q => (hA q).2.1
  clear hat
  have C4 : ∀ (n4 : Nat) (T1 : sS) (_ : HI T1) (_ : FR md_mo_phrases S T1), (AT T1 n c) → (RNV T1 n) → (Xi S 904 8 ≤ Xi T1 904 8) → (Xi T1 904 8 ≤ n) → (Xi T1 904 93 ≤ 1691) → (Xi T1 904 98 ≤ 1691) → (Xi S 904 69 ≤ Xi T1 904 69) → (Xi T1 904 65 = 0 → Xi S 904 65 = 0) → (Xi T1 904 65 = 0 → Xi T1 904 94 + Xi T1 904 98 ≤ Xi T1 904 93) → (Xi T1 904 65 = 0 → TVA T1 n (Xi T1 904 94)) → (Xi T1 904 65 = 0 → PVA T1 n (Xi T1 904 98)) → n4 = (5002 - Xi T1 904 8).toNat → Rl lay0 (d + 7) m_mo_phrases 4 [(0, .ref 904)] [] T1 (Q_mo_phrases S n c) := by
    intro n4
    induction n4 using Nat.strongRecOn with
    | ind n4 ih4 =>
      intro T1 hHT1 hFT1 A4 V4 w7 w8 w9 w10 w11 w12 w13 E4 G4 hm4
      have w14 : Xi T1 904 94 = Xi S 904 94 := hFT1.x _ _ rfl
      have w15 : 0 ≤ Xi T1 904 65 ∧ Xi T1 904 65 ≤ 1 := hHT1.c _ _
      have w16 : 0 ≤ Xi T1 904 69 ∧ Xi T1 904 69 ≤ 2600 := hHT1.c _ _
      have w17 : 0 ≤ Xi T1 904 8 ∧ Xi T1 904 8 ≤ 5010 := hHT1.c _ _
      have w18 : 0 ≤ Xi T1 904 93 ∧ Xi T1 904 93 ≤ 1700 := hHT1.c _ _
      have w19 : 0 ≤ Xi T1 904 94 ∧ Xi T1 904 94 ≤ 1700 := hHT1.c _ _
      have w20 : 0 ≤ Xi T1 904 98 ∧ Xi T1 904 98 ≤ 1700 := hHT1.c _ _
      refine l_aload_n rfl rfl ?_
      refine l_bipush rfl rfl ?_
      have w21 : 0 ≤ Xi T1 904 65 ∧ Xi T1 904 65 ≤ 1 := hHT1.c _ _
      have w22 : 0 ≤ Xi T1 904 69 ∧ Xi T1 904 69 ≤ 2600 := hHT1.c _ _
      have w23 : 0 ≤ Xi T1 904 8 ∧ Xi T1 904 8 ≤ 5010 := hHT1.c _ _
      have w24 : 0 ≤ Xi T1 904 93 ∧ Xi T1 904 93 ≤ 1700 := hHT1.c _ _
      have w25 : 0 ≤ Xi T1 904 94 ∧ Xi T1 904 94 ≤ 1700 := hHT1.c _ _
      have w26 : 0 ≤ Xi T1 904 98 ∧ Xi T1 904 98 ≤ 1700 := hHT1.c _ _
      refine l_callV rfl rfl rfl (t_mo_isNext hHT1 n c 59 ⟨by omega, by omega⟩ (by first | assumption | exact (TK_FR hFT1 rfl (by assumption : TK S _))) (by first | assumption | exact (by assumption : AT T1 _ _)) _) ?_
      rintro _ _ ⟨rfl, z29, rfl, w29, w27, w28⟩
      show Rl _ _ _ _ _ [iv z29] _ _
      have j7 : z29 = 1 → Xi T1 904 65 = 0 ∧ Xi T1 907 (Xi T1 904 8).toNat = 59 := by assumption
      refine l_if_eq rfl rfl (by unfold rg; omega) (fun w30 => ?_) (fun w31 => ?_)
      · refine l_return rfl rfl ?_
        have w32 : 0 ≤ Xi T1 904 65 ∧ Xi T1 904 65 ≤ 1 := hHT1.c _ _
        have w33 : 0 ≤ Xi T1 904 69 ∧ Xi T1 904 69 ≤ 2600 := hHT1.c _ _
        have w34 : 0 ≤ Xi T1 904 8 ∧ Xi T1 904 8 ≤ 5010 := hHT1.c _ _
        have w35 : 0 ≤ Xi T1 904 93 ∧ Xi T1 904 93 ≤ 1700 := hHT1.c _ _
        have w36 : 0 ≤ Xi T1 904 94 ∧ Xi T1 904 94 ≤ 1700 := hHT1.c _ _
        have w37 : 0 ≤ Xi T1 904 98 ∧ Xi T1 904 98 ≤ 1700 := hHT1.c _ _
        exact ⟨hHT1, hFT1, rfl, (A4), (by omega), (V4), (by omega), (by omega), (E4), (G4), (fun q => by have t := at_tc A4 hHT1 q; omega)⟩
      · refine l_aload_n rfl rfl ?_
        refine l_dup rfl rfl ?_
        refine l_gfi rfl rfl rfl rfl rfl ?_
        refine l_iconst rfl ?_
        refine l_iadd rfl ?_
        refine l_pfi rfl rfl rfl rfl ?_
        obtain ⟨U2, eU2⟩ : ∃ T : sS, T = uI T1 904 8 (Int32.ofInt ((Xi T1 904 8) + 1)) := ⟨_, rfl⟩
        rw [← eU2]
        have hHU2 : HI U2 := by rw [eU2]; exact HI_w hHT1 (show 0 ≤ ((Xi T1 904 8) + 1) by omega) (show ((Xi T1 904 8) + 1) ≤ 5010 by omega)
        have hFU2 : FR md_mo_phrases S U2 := by rw [eU2]; exact FR.wI hFT1 (mdf_i (r := (904, 905, 8, 9)) (List.mem_of_getElem? (i := 0) rfl) (inR_i (by omega) (by omega) (by omega) (by omega)))
        have w38 : Xi U2 904 8 = ((Xi T1 904 8) + 1) := by rw [eU2]; exact Xi_same (by unfold rg; omega)
        have t20 : AT U2 n c ∧ _ := at_mv (S := T1) (P := T1) (c2 := c) (TK_FR hFT1 rfl hT) A4 (fun _ => rfl) (fun _ => rfl) rfl rfl rfl rfl eU2 (by omega) (by omega) (by omega) (by omega) (Or.inl rfl)
        have a20 : AT U2 n c := t20.1
        have l20 := t20.2
        have b20 : Xi T1 904 93 ≤ 1666 := by have t := at_tc A4 hHT1 (by omega); omega
        have K20 : KT U2 T1 (Xi T1 904 93) := KT_FR (FR_e eU2) rfl KT.rf
        have Q20 : KP U2 T1 (Xi T1 904 98) := KP_FR (FR_e eU2) rfl KP.rf
        have x20 : ∀ j, Xi U2 907 j = Xi T1 907 j := fun j => by rw [eU2, Xi_ne (by omega)]
        have s20_94 : Xi U2 904 94 = Xi T1 904 94 := by rw [eU2, Xi_ne (by omega)]
        have s20_98 : Xi U2 904 98 = Xi T1 904 98 := by rw [eU2, Xi_ne (by omega)]
        have s20_69 : Xi U2 904 69 = Xi T1 904 69 := by rw [eU2, Xi_ne (by omega)]
        have s20_93 : Xi U2 904 93 = Xi T1 904 93 := by rw [eU2, Xi_ne (by omega)]
        refine l_aload_n rfl rfl ?_
        have w39 : Xi U2 904 65 = Xi T1 904 65 := (show Xi U2 904 65 = Xi T1 904 65 from by rw [eU2]; exact Xi_ne (by omega))
        have w40 : 0 ≤ Xi T1 904 65 ∧ Xi T1 904 65 ≤ 1 := hHT1.c _ _
        have w41 : Xi U2 904 69 = Xi T1 904 69 := (show Xi U2 904 69 = Xi T1 904 69 from by rw [eU2]; exact Xi_ne (by omega))
        have w42 : 0 ≤ Xi T1 904 69 ∧ Xi T1 904 69 ≤ 2600 := hHT1.c _ _
        have w43 : 0 ≤ Xi U2 904 8 ∧ Xi U2 904 8 ≤ 5010 := hHU2.c _ _
        have w44 : Xi U2 904 93 = Xi T1 904 93 := (show Xi U2 904 93 = Xi T1 904 93 from by rw [eU2]; exact Xi_ne (by omega))
        have w45 : 0 ≤ Xi T1 904 93 ∧ Xi T1 904 93 ≤ 1700 := hHT1.c _ _
        have w46 : Xi U2 904 94 = Xi T1 904 94 := (show Xi U2 904 94 = Xi T1 904 94 from by rw [eU2]; exact Xi_ne (by omega))
        have w47 : 0 ≤ Xi T1 904 94 ∧ Xi T1 904 94 ≤ 1700 := hHT1.c _ _
        have w48 : Xi U2 904 98 = Xi T1 904 98 := (show Xi U2 904 98 = Xi T1 904 98 from by rw [eU2]; exact Xi_ne (by omega))
        have w49 : 0 ≤ Xi T1 904 98 ∧ Xi T1 904 98 ≤ 1700 := hHT1.c _ _
        refine l_callV rfl rfl rfl (t_mo_phrase hHU2 n c (by first | assumption | exact (TK_FR hFU2 rfl (by assumption : TK S _))) (by first | assumption | exact (by assumption : AT U2 _ _)) (by first | assumption | exact (RNV_FR (FR_e eU2) rfl (by assumption : RNV T1 _))) (by first | assumption | omega) (by first | assumption | omega) (by first | assumption | omega) _) ?_
        rintro _ T3 ⟨hHT3, w59, rfl, w50, w51, w52, w53, w54, k24, p24, w55, w56, w57, v24⟩
        have hFT3 : FR md_mo_phrases S T3 := FR.tr hFU2 w59 rfl
        show Rl _ _ _ _ _ [] _ _
        have f24 : ∀ j, Xi T3 907 j = Xi T1 907 j := fun j => ((by assumption : FR md_mo_phrase U2 T3).cx 907 rfl j).1.trans (x20 j)
        have y24 : Xi T3 904 94 = Xi U2 904 94 := (by assumption : FR md_mo_phrase U2 T3).x 904 94 rfl
        have K24 : KT T3 T1 (Xi T1 904 93) := KT.tr K20 k24 (by omega)
        have V24 : Xi T3 904 65 = 0 → TVA T3 n (Xi T3 904 94) := fun q => by rw [y24, s20_94]; exact (E4 (by omega)).mv (fun i hi k a b => K24 i (by omega) k a b) (by omega) (f24)
        have Q24 : KP T3 T1 (Xi T1 904 98) := fun i hi => by have a := p24 i (by omega); have b := Q20 i hi; exact ⟨a.1.trans b.1, a.2.1.trans b.2.1, a.2.2.trans b.2.2⟩
        have P24 : Xi T3 904 65 = 0 → PVA T3 n (Xi T3 904 98) := fun q => ((G4 (by omega)).mv hHT1 K24 Q24 (by omega) (by omega) f24).add (by omega) (by omega) (by rw [show (Xi T1 904 98).toNat = (Xi U2 904 98).toNat by omega]; exact v24 q)
        refine l_goto rfl rfl ?_
        have w60 : 0 ≤ Xi T3 904 65 ∧ Xi T3 904 65 ≤ 1 := hHT3.c _ _
        have w61 : 0 ≤ Xi T3 904 69 ∧ Xi T3 904 69 ≤ 2600 := hHT3.c _ _
        have w62 : 0 ≤ Xi T3 904 8 ∧ Xi T3 904 8 ≤ 5010 := hHT3.c _ _
        have w63 : 0 ≤ Xi T3 904 93 ∧ Xi T3 904 93 ≤ 1700 := hHT3.c _ _
        have w64 : Xi T3 904 94 = Xi T1 904 94 := (show Xi T3 904 94 = Xi U2 904 94 from w59.x _ _ rfl).trans ((show Xi U2 904 94 = Xi T1 904 94 from by rw [eU2]; exact Xi_ne (by omega)))
        have w65 : 0 ≤ Xi T1 904 94 ∧ Xi T1 904 94 ≤ 1700 := hHT1.c _ _
        have w66 : 0 ≤ Xi T3 904 98 ∧ Xi T3 904 98 ≤ 1700 := hHT3.c _ _
        exact Rl_weak (ih4 _ (by omega) T3 hHT3 hFT3  (by assumption) (by assumption) (by omega) (by omega) (by omega) (by omega) (by omega) (by omega) (by omega) (by first | exact V24 | exact V1) (by first | exact P24 | exact P1) rfl) (And.intro rfl (True.intro))
  refine l_aload_n rfl rfl ?_
  have w67 : 0 ≤ Xi S 904 65 ∧ Xi S 904 65 ≤ 1 := hH.c _ _
  have w68 : 0 ≤ Xi S 904 69 ∧ Xi S 904 69 ≤ 2600 := hH.c _ _
  have w69 : 0 ≤ Xi S 904 8 ∧ Xi S 904 8 ≤ 5010 := hH.c _ _
  have w70 : 0 ≤ Xi S 904 93 ∧ Xi S 904 93 ≤ 1700 := hH.c _ _
  have w71 : 0 ≤ Xi S 904 94 ∧ Xi S 904 94 ≤ 1700 := hH.c _ _
  have w72 : 0 ≤ Xi S 904 98 ∧ Xi S 904 98 ≤ 1700 := hH.c _ _
  refine l_callV rfl rfl rfl (t_mo_phrase hH n c (by first | assumption | exact (TK_FR hF rfl (by assumption : TK S _))) (by first | assumption | exact (by assumption : AT S _ _)) (by first | assumption | exact (by assumption : RNV S _)) (by first | assumption | omega) (by first | assumption | omega) (by first | assumption | omega) _) ?_
  rintro _ T4 ⟨hHT4, w82, rfl, w73, w74, w75, w76, w77, k1, p1, w78, w79, w80, v1_⟩
  have hFT4 : FR md_mo_phrases S T4 := FR.tr hF w82 rfl
  show Rl _ _ _ _ _ [] _ _
  have y1 : Xi T4 904 94 = Xi S 904 94 := hFT4.x 904 94 rfl
  have V1 : Xi T4 904 65 = 0 → TVA T4 n (Xi T4 904 94) := fun q => by rw [y1]; exact (tv (by omega)).mv (fun i hi k a b => k1 i (by omega) k a b) (by omega) (fun j => (hFT4.cx 907 rfl j).1)
  have P1 : Xi T4 904 65 = 0 → PVA T4 n (Xi T4 904 98) := fun q i hi => by rw [show i = (Xi S 904 98).toNat by omega]; exact v1_ q
  have w83 : 0 ≤ Xi T4 904 65 ∧ Xi T4 904 65 ≤ 1 := hHT4.c _ _
  have w84 : 0 ≤ Xi T4 904 69 ∧ Xi T4 904 69 ≤ 2600 := hHT4.c _ _
  have w85 : 0 ≤ Xi T4 904 8 ∧ Xi T4 904 8 ≤ 5010 := hHT4.c _ _
  have w86 : 0 ≤ Xi T4 904 93 ∧ Xi T4 904 93 ≤ 1700 := hHT4.c _ _
  have w87 : Xi T4 904 94 = Xi S 904 94 := (show Xi T4 904 94 = Xi S 904 94 from w82.x _ _ rfl)
  have w88 : 0 ≤ Xi S 904 94 ∧ Xi S 904 94 ≤ 1700 := hH.c _ _
  have w89 : 0 ≤ Xi T4 904 98 ∧ Xi T4 904 98 ≤ 1700 := hHT4.c _ _
  exact Rl_weak (C4 _ T4 hHT4 hFT4  (by assumption) (by assumption) (by omega) (by omega) (by omega) (by omega) (by omega) (by omega) (by omega) (by first | exact V24 | exact V1) (by first | exact P24 | exact P1) rfl) (And.intro rfl (True.intro))
def md_mo_rule : List rec := [(904, 905, 8, 9), (904, 905, 65, 66), (904, 905, 66, 67), (904, 905, 69, 70), (904, 905, 70, 71), (904, 905, 78, 79), (904, 905, 93, 94), (904, 905, 94, 95), (904, 905, 98, 99), (904, 905, 99, 100), (904, 905, 100, 101), (904, 905, 101, 102), (904, 905, 102, 103), (904, 905, 103, 104), (950, 951, 0, 100000), (951, 952, 0, 100000), (952, 953, 0, 100000), (953, 954, 0, 100000), (954, 955, 0, 100000), (955, 956, 0, 100000), (956, 957, 0, 100000), (957, 958, 0, 100000), (958, 959, 0, 100000), (959, 960, 0, 100000), (960, 961, 0, 100000), (961, 962, 0, 100000), (962, 963, 0, 100000), (963, 964, 0, 100000), (964, 965, 0, 100000), (965, 966, 0, 100000)]
abbrev Q_mo_rule (S : sS) (n : Nat) (c : Nat) (s : Int) : pst := fun r S1 => HI S1 ∧ FR md_mo_rule S S1 ∧ (r = none ∧ (AT S1 n c) ∧ (Xi S 904 8 < Xi S1 904 8 ∧ Xi S1 904 8 ≤ n) ∧ (RNV S1 n) ∧ (Xi S 904 69 ≤ Xi S1 904 69) ∧ (Xi S1 904 70 = s) ∧ (Xi S1 904 65 = 0 → s ≠ 6 → Xi S1 904 102 < Xi S1 904 69 ∧ Xi S1 904 103 < Xi S1 904 69) ∧ (Xi S1 904 65 = 0 → TVA S1 n (Xi S1 904 94)) ∧ (Xi S1 904 65 = 0 → PVA S1 n (Xi S1 904 98)) ∧ (Xi S1 904 65 = 0 → Xi S1 904 94 + Xi S1 904 98 ≤ Xi S1 904 93 ∧ Xi S1 904 93 ≤ 1666))
set_option maxRecDepth 100000 in
set_option maxHeartbeats 4000000 in
theorem t_mo_rule {S : sS} (hH : HI S) (n : Nat) (c : Nat) (s : Int) (hs : 3 ≤ s ∧ s ≤ 6) (hT : TK S n) (hA : AT S n c) (hv : RNV S n) (hb : Xi S 904 65 = 0) (hk : Xi S 907 (Xi S 904 8).toNat ≠ 1) (z1 : Xi S 904 93 = 0) (z2 : Xi S 904 94 = 0) (z3 : Xi S 904 98 = 0) (d : Nat) : Mt lay0 (d + 9) m_mo_rule [.ref 904, iv s] S (Q_mo_rule S n c s) := by
  refine Mt_R rfl rfl ?_
  have hF : FR md_mo_rule S S := FR.rf
  have w1 : 0 ≤ Xi S 904 102 ∧ Xi S 904 102 ≤ 2600 := hH.c _ _
  have w2 : -1 ≤ Xi S 904 103 ∧ Xi S 904 103 ≤ 2600 := hH.c _ _
  have w3 : 0 ≤ Xi S 904 65 ∧ Xi S 904 65 ≤ 1 := hH.c _ _
  have w4 : 0 ≤ Xi S 904 69 ∧ Xi S 904 69 ≤ 2600 := hH.c _ _
  have w5 : 0 ≤ Xi S 904 70 ∧ Xi S 904 70 ≤ 20 := hH.c _ _
  have w6 : 0 ≤ Xi S 904 8 ∧ Xi S 904 8 ≤ 5010 := hH.c _ _
  have w7 : 0 ≤ Xi S 904 93 ∧ Xi S 904 93 ≤ 1700 := hH.c _ _
  have w8 : 0 ≤ Xi S 904 94 ∧ Xi S 904 94 ≤ 1700 := hH.c _ _
  have w9 : 0 ≤ Xi S 904 98 ∧ Xi S 904 98 ≤ 1700 := hH.c _ _
  have hn5 := hT.1
  have hat := hA
  have h8 : 0 ≤ Xi S 904 8 ∧ Xi S 904 8 ≤ 5010 := hH.c _ _
  have h69 : 0 ≤ Xi S 904 69 ∧ Xi S 904 69 ≤ 2600 := hH.c _ _
  have ha0 : Xi S 904 65 = 0 → Xi S 904 8 ≤ n := fun q => (hA q).1
  have ha3 : Xi S 904 65 = 0 → 2 * Xi S 904 69 ≤ Xi S 904 8 + 1 := fun q => (hA q).2.1
  clear hat
  have hx := ha0 hb
  have C83 : ∀  (T1 : sS) (_ : HI T1) (_ : FR md_mo_rule S T1), (AT T1 n c) → (RNV T1 n) → (Xi S 904 8 < Xi T1 904 8) → (Xi T1 904 8 ≤ n) → (Xi S 904 69 ≤ Xi T1 904 69) → (Xi T1 904 93 = 0 ∧ Xi T1 904 94 = 0 ∧ Xi T1 904 98 = 0) → (Xi T1 904 70 = s) → (Xi T1 904 65 = 0 → s ≠ 6 → Xi T1 904 102 < Xi T1 904 69 ∧ Xi T1 904 103 < Xi T1 904 69) → Rl lay0 (d + 8) m_mo_rule 83 [(0, .ref 904)] [] T1 (Q_mo_rule S n c s) := by
    intro T1 hHT1 hFT1 A83 V83 w10 w11 w12 w13 w14 w15
    have w16 : 0 ≤ Xi T1 904 102 ∧ Xi T1 904 102 ≤ 2600 := hHT1.c _ _
    have w17 : -1 ≤ Xi T1 904 103 ∧ Xi T1 904 103 ≤ 2600 := hHT1.c _ _
    have w18 : 0 ≤ Xi T1 904 65 ∧ Xi T1 904 65 ≤ 1 := hHT1.c _ _
    have w19 : 0 ≤ Xi T1 904 69 ∧ Xi T1 904 69 ≤ 2600 := hHT1.c _ _
    have w20 : 0 ≤ Xi T1 904 70 ∧ Xi T1 904 70 ≤ 20 := hHT1.c _ _
    have w21 : 0 ≤ Xi T1 904 8 ∧ Xi T1 904 8 ≤ 5010 := hHT1.c _ _
    have w22 : 0 ≤ Xi T1 904 93 ∧ Xi T1 904 93 ≤ 1700 := hHT1.c _ _
    have w23 : 0 ≤ Xi T1 904 94 ∧ Xi T1 904 94 ≤ 1700 := hHT1.c _ _
    have w24 : 0 ≤ Xi T1 904 98 ∧ Xi T1 904 98 ≤ 1700 := hHT1.c _ _
    have C107 : ∀  (T2 : sS) (_ : HI T2) (_ : FR md_mo_rule S T2), (AT T2 n c) → (RNV T2 n) → (Xi S 904 8 < Xi T2 904 8) → (Xi T2 904 8 ≤ n) → (Xi S 904 69 ≤ Xi T2 904 69) → (Xi T2 904 93 ≤ 1668 ∧ Xi T2 904 94 = Xi T2 904 93 ∧ Xi T2 904 98 = 0) → (Xi T2 904 70 = s) → (Xi T2 904 65 = 0 → s ≠ 6 → Xi T2 904 102 < Xi T2 904 69 ∧ Xi T2 904 103 < Xi T2 904 69) → (Xi T2 904 65 = 0 → TVA T2 n (Xi T2 904 94)) → Rl lay0 (d + 8) m_mo_rule 107 [(0, .ref 904)] [] T2 (Q_mo_rule S n c s) := by
      intro T2 hHT2 hFT2 A107 V107 w25 w26 w27 w28 w29 w30 E107
      have w31 : 0 ≤ Xi T2 904 102 ∧ Xi T2 904 102 ≤ 2600 := hHT2.c _ _
      have w32 : -1 ≤ Xi T2 904 103 ∧ Xi T2 904 103 ≤ 2600 := hHT2.c _ _
      have w33 : 0 ≤ Xi T2 904 65 ∧ Xi T2 904 65 ≤ 1 := hHT2.c _ _
      have w34 : 0 ≤ Xi T2 904 69 ∧ Xi T2 904 69 ≤ 2600 := hHT2.c _ _
      have w35 : 0 ≤ Xi T2 904 70 ∧ Xi T2 904 70 ≤ 20 := hHT2.c _ _
      have w36 : 0 ≤ Xi T2 904 8 ∧ Xi T2 904 8 ≤ 5010 := hHT2.c _ _
      have w37 : 0 ≤ Xi T2 904 93 ∧ Xi T2 904 93 ≤ 1700 := hHT2.c _ _
      have w38 : 0 ≤ Xi T2 904 94 ∧ Xi T2 904 94 ≤ 1700 := hHT2.c _ _
      have w39 : 0 ≤ Xi T2 904 98 ∧ Xi T2 904 98 ≤ 1700 := hHT2.c _ _
      refine l_aload_n rfl rfl ?_
      refine l_bipush rfl rfl ?_
      have w40 : 0 ≤ Xi T2 904 102 ∧ Xi T2 904 102 ≤ 2600 := hHT2.c _ _
      have w41 : -1 ≤ Xi T2 904 103 ∧ Xi T2 904 103 ≤ 2600 := hHT2.c _ _
      have w42 : 0 ≤ Xi T2 904 65 ∧ Xi T2 904 65 ≤ 1 := hHT2.c _ _
      have w43 : 0 ≤ Xi T2 904 69 ∧ Xi T2 904 69 ≤ 2600 := hHT2.c _ _
      have w44 : 0 ≤ Xi T2 904 70 ∧ Xi T2 904 70 ≤ 20 := hHT2.c _ _
      have w45 : 0 ≤ Xi T2 904 8 ∧ Xi T2 904 8 ≤ 5010 := hHT2.c _ _
      have w46 : 0 ≤ Xi T2 904 93 ∧ Xi T2 904 93 ≤ 1700 := hHT2.c _ _
      have w47 : 0 ≤ Xi T2 904 94 ∧ Xi T2 904 94 ≤ 1700 := hHT2.c _ _
      have w48 : 0 ≤ Xi T2 904 98 ∧ Xi T2 904 98 ≤ 1700 := hHT2.c _ _
      refine l_callV rfl rfl rfl (t_mo_take__2 hHT2 n c 58 ⟨by omega, by omega⟩ (by first | assumption | exact (TK_FR hFT2 rfl (by assumption : TK S _))) (by first | assumption | exact (by assumption : AT T2 _ _)) (by first | assumption | omega) _) ?_
      rintro _ T3 ⟨hHT3, w54, rfl, w49, w50, w51, w52⟩
      have hFT3 : FR md_mo_rule S T3 := FR.tr hFT2 w54 rfl
      show Rl _ _ _ _ _ [] _ _
      have T110 : Xi T3 904 65 = 0 → TVA T3 n (Xi T3 904 94) := fun q => by rw [(by assumption : FR md_mo_take T2 T3).x 904 94 rfl]; exact (E107 (by omega)).mv (KT_FR (by assumption : FR md_mo_take T2 T3) rfl KT.rf) (by rw [(by assumption : FR md_mo_take T2 T3).x 904 69 rfl]; exact Int.le_refl _) (fun j => ((by assumption : FR md_mo_take T2 T3).cx 907 rfl j).1)
      refine l_aload_n rfl rfl ?_
      have w55 : Xi T3 904 102 = Xi T2 904 102 := (show Xi T3 904 102 = Xi T2 904 102 from w54.x _ _ rfl)
      have w56 : 0 ≤ Xi T2 904 102 ∧ Xi T2 904 102 ≤ 2600 := hHT2.c _ _
      have w57 : Xi T3 904 103 = Xi T2 904 103 := (show Xi T3 904 103 = Xi T2 904 103 from w54.x _ _ rfl)
      have w58 : -1 ≤ Xi T2 904 103 ∧ Xi T2 904 103 ≤ 2600 := hHT2.c _ _
      have w59 : 0 ≤ Xi T3 904 65 ∧ Xi T3 904 65 ≤ 1 := hHT3.c _ _
      have w60 : Xi T3 904 69 = Xi T2 904 69 := (show Xi T3 904 69 = Xi T2 904 69 from w54.x _ _ rfl)
      have w61 : 0 ≤ Xi T2 904 69 ∧ Xi T2 904 69 ≤ 2600 := hHT2.c _ _
      have w62 : Xi T3 904 70 = Xi T2 904 70 := (show Xi T3 904 70 = Xi T2 904 70 from w54.x _ _ rfl)
      have w63 : 0 ≤ Xi T2 904 70 ∧ Xi T2 904 70 ≤ 20 := hHT2.c _ _
      have w64 : 0 ≤ Xi T3 904 8 ∧ Xi T3 904 8 ≤ 5010 := hHT3.c _ _
      have w65 : Xi T3 904 93 = Xi T2 904 93 := (show Xi T3 904 93 = Xi T2 904 93 from w54.x _ _ rfl)
      have w66 : 0 ≤ Xi T2 904 93 ∧ Xi T2 904 93 ≤ 1700 := hHT2.c _ _
      have w67 : Xi T3 904 94 = Xi T2 904 94 := (show Xi T3 904 94 = Xi T2 904 94 from w54.x _ _ rfl)
      have w68 : 0 ≤ Xi T2 904 94 ∧ Xi T2 904 94 ≤ 1700 := hHT2.c _ _
      have w69 : Xi T3 904 98 = Xi T2 904 98 := (show Xi T3 904 98 = Xi T2 904 98 from w54.x _ _ rfl)
      have w70 : 0 ≤ Xi T2 904 98 ∧ Xi T2 904 98 ≤ 1700 := hHT2.c _ _
      refine l_callV rfl rfl rfl (t_mo_phrases hHT3 n c (by first | assumption | exact (TK_FR hFT3 rfl (by assumption : TK S _))) (by first | assumption | exact (by assumption : AT T3 _ _)) (by first | assumption | exact (RNV_FR w54 rfl (by assumption : RNV T2 _))) (by first | assumption | omega) (by first | assumption | omega) (by first | assumption | omega) (by first | assumption | omega) (by first | assumption | omega) _) ?_
      rintro _ T4 ⟨hHT4, w80, rfl, w71, w72, w73, w74, w75, w76, w77, w78⟩
      have hFT4 : FR md_mo_rule S T4 := FR.tr hFT3 w80 rfl
      show Rl _ _ _ _ _ [] _ _
      refine l_return rfl rfl ?_
      have w81 : Xi T4 904 102 = Xi T2 904 102 := (show Xi T4 904 102 = Xi T3 904 102 from w80.x _ _ rfl).trans ((show Xi T3 904 102 = Xi T2 904 102 from w54.x _ _ rfl))
      have w82 : 0 ≤ Xi T2 904 102 ∧ Xi T2 904 102 ≤ 2600 := hHT2.c _ _
      have w83 : Xi T4 904 103 = Xi T2 904 103 := (show Xi T4 904 103 = Xi T3 904 103 from w80.x _ _ rfl).trans ((show Xi T3 904 103 = Xi T2 904 103 from w54.x _ _ rfl))
      have w84 : -1 ≤ Xi T2 904 103 ∧ Xi T2 904 103 ≤ 2600 := hHT2.c _ _
      have w85 : 0 ≤ Xi T4 904 65 ∧ Xi T4 904 65 ≤ 1 := hHT4.c _ _
      have w86 : 0 ≤ Xi T4 904 69 ∧ Xi T4 904 69 ≤ 2600 := hHT4.c _ _
      have w87 : Xi T4 904 70 = Xi T2 904 70 := (show Xi T4 904 70 = Xi T3 904 70 from w80.x _ _ rfl).trans ((show Xi T3 904 70 = Xi T2 904 70 from w54.x _ _ rfl))
      have w88 : 0 ≤ Xi T2 904 70 ∧ Xi T2 904 70 ≤ 20 := hHT2.c _ _
      have w89 : 0 ≤ Xi T4 904 8 ∧ Xi T4 904 8 ≤ 5010 := hHT4.c _ _
      have w90 : 0 ≤ Xi T4 904 93 ∧ Xi T4 904 93 ≤ 1700 := hHT4.c _ _
      have w91 : Xi T4 904 94 = Xi T2 904 94 := (show Xi T4 904 94 = Xi T3 904 94 from w80.x _ _ rfl).trans ((show Xi T3 904 94 = Xi T2 904 94 from w54.x _ _ rfl))
      have w92 : 0 ≤ Xi T2 904 94 ∧ Xi T2 904 94 ≤ 1700 := hHT2.c _ _
      have w93 : 0 ≤ Xi T4 904 98 ∧ Xi T4 904 98 ≤ 1700 := hHT4.c _ _
      exact ⟨hHT4, hFT4, rfl, (by first | assumption | exact (by assumption : AT T4 _ _)), (by omega), (by first | assumption | exact (by assumption : RNV T4 _)), (by omega), (by omega), (by omega), (by first | assumption | omega), (by first | assumption | omega), (by first | assumption | omega)⟩
    refine l_aload_n rfl rfl ?_
    refine l_sipush rfl rfl ?_
    have w94 : 0 ≤ Xi T1 904 102 ∧ Xi T1 904 102 ≤ 2600 := hHT1.c _ _
    have w95 : -1 ≤ Xi T1 904 103 ∧ Xi T1 904 103 ≤ 2600 := hHT1.c _ _
    have w96 : 0 ≤ Xi T1 904 65 ∧ Xi T1 904 65 ≤ 1 := hHT1.c _ _
    have w97 : 0 ≤ Xi T1 904 69 ∧ Xi T1 904 69 ≤ 2600 := hHT1.c _ _
    have w98 : 0 ≤ Xi T1 904 70 ∧ Xi T1 904 70 ≤ 20 := hHT1.c _ _
    have w99 : 0 ≤ Xi T1 904 8 ∧ Xi T1 904 8 ≤ 5010 := hHT1.c _ _
    have w100 : 0 ≤ Xi T1 904 93 ∧ Xi T1 904 93 ≤ 1700 := hHT1.c _ _
    have w101 : 0 ≤ Xi T1 904 94 ∧ Xi T1 904 94 ≤ 1700 := hHT1.c _ _
    have w102 : 0 ≤ Xi T1 904 98 ∧ Xi T1 904 98 ≤ 1700 := hHT1.c _ _
    refine l_callV rfl rfl rfl (t_mo_isNext hHT1 n c 137 ⟨by omega, by omega⟩ (by first | assumption | exact (TK_FR hFT1 rfl (by assumption : TK S _))) (by first | assumption | exact (by assumption : AT T1 _ _)) _) ?_
    rintro _ _ ⟨rfl, z105, rfl, w105, w103, w104⟩
    show Rl _ _ _ _ _ [iv z105] _ _
    have j87 : z105 = 1 → Xi T1 904 65 = 0 ∧ Xi T1 907 (Xi T1 904 8).toNat = 137 := by assumption
    refine l_if_eq rfl rfl (by unfold rg; omega) (fun w106 => ?_) (fun w107 => ?_)
    · have w108 : 0 ≤ Xi T1 904 102 ∧ Xi T1 904 102 ≤ 2600 := hHT1.c _ _
      have w109 : -1 ≤ Xi T1 904 103 ∧ Xi T1 904 103 ≤ 2600 := hHT1.c _ _
      have w110 : 0 ≤ Xi T1 904 65 ∧ Xi T1 904 65 ≤ 1 := hHT1.c _ _
      have w111 : 0 ≤ Xi T1 904 69 ∧ Xi T1 904 69 ≤ 2600 := hHT1.c _ _
      have w112 : 0 ≤ Xi T1 904 70 ∧ Xi T1 904 70 ≤ 20 := hHT1.c _ _
      have w113 : 0 ≤ Xi T1 904 8 ∧ Xi T1 904 8 ≤ 5010 := hHT1.c _ _
      have w114 : 0 ≤ Xi T1 904 93 ∧ Xi T1 904 93 ≤ 1700 := hHT1.c _ _
      have w115 : 0 ≤ Xi T1 904 94 ∧ Xi T1 904 94 ≤ 1700 := hHT1.c _ _
      have w116 : 0 ≤ Xi T1 904 98 ∧ Xi T1 904 98 ≤ 1700 := hHT1.c _ _
      exact Rl_weak (C107 T1 hHT1 hFT1  (by assumption) (by assumption) (by omega) (by omega) (by omega) (by omega) (by omega) (by omega) (by first | exact T104 | exact fun q i hi => absurd hi (by omega))) (And.intro rfl (True.intro))
    · refine l_aload_n rfl rfl ?_
      refine l_dup rfl rfl ?_
      refine l_gfi rfl rfl rfl rfl rfl ?_
      refine l_iconst rfl ?_
      refine l_iadd rfl ?_
      refine l_pfi rfl rfl rfl rfl ?_
      obtain ⟨U5, eU5⟩ : ∃ T : sS, T = uI T1 904 8 (Int32.ofInt ((Xi T1 904 8) + 1)) := ⟨_, rfl⟩
      rw [← eU5]
      have hHU5 : HI U5 := by rw [eU5]; exact HI_w hHT1 (show 0 ≤ ((Xi T1 904 8) + 1) by omega) (show ((Xi T1 904 8) + 1) ≤ 5010 by omega)
      have hFU5 : FR md_mo_rule S U5 := by rw [eU5]; exact FR.wI hFT1 (mdf_i (r := (904, 905, 8, 9)) (List.mem_of_getElem? (i := 0) rfl) (inR_i (by omega) (by omega) (by omega) (by omega)))
      have w117 : Xi U5 904 8 = ((Xi T1 904 8) + 1) := by rw [eU5]; exact Xi_same (by unfold rg; omega)
      have t100 : AT U5 n (c + 1) ∧ _ := at_mv (S := T1) (P := T1) (c2 := c + 1) (TK_FR hFT1 rfl hT) A83 (fun _ => rfl) (fun _ => rfl) rfl rfl rfl rfl eU5 (by omega) (by omega) (by omega) (by omega) (Or.inr ⟨rfl, by unfold K3; omega⟩)
      have a100 : AT U5 n (c + 1) := t100.1
      have l100 := t100.2
      refine l_aload_n rfl rfl ?_
      have w118 : Xi U5 904 102 = Xi T1 904 102 := (show Xi U5 904 102 = Xi T1 904 102 from by rw [eU5]; exact Xi_ne (by omega))
      have w119 : 0 ≤ Xi T1 904 102 ∧ Xi T1 904 102 ≤ 2600 := hHT1.c _ _
      have w120 : Xi U5 904 103 = Xi T1 904 103 := (show Xi U5 904 103 = Xi T1 904 103 from by rw [eU5]; exact Xi_ne (by omega))
      have w121 : -1 ≤ Xi T1 904 103 ∧ Xi T1 904 103 ≤ 2600 := hHT1.c _ _
      have w122 : Xi U5 904 65 = Xi T1 904 65 := (show Xi U5 904 65 = Xi T1 904 65 from by rw [eU5]; exact Xi_ne (by omega))
      have w123 : 0 ≤ Xi T1 904 65 ∧ Xi T1 904 65 ≤ 1 := hHT1.c _ _
      have w124 : Xi U5 904 69 = Xi T1 904 69 := (show Xi U5 904 69 = Xi T1 904 69 from by rw [eU5]; exact Xi_ne (by omega))
      have w125 : 0 ≤ Xi T1 904 69 ∧ Xi T1 904 69 ≤ 2600 := hHT1.c _ _
      have w126 : Xi U5 904 70 = Xi T1 904 70 := (show Xi U5 904 70 = Xi T1 904 70 from by rw [eU5]; exact Xi_ne (by omega))
      have w127 : 0 ≤ Xi T1 904 70 ∧ Xi T1 904 70 ≤ 20 := hHT1.c _ _
      have w128 : 0 ≤ Xi U5 904 8 ∧ Xi U5 904 8 ≤ 5010 := hHU5.c _ _
      have w129 : Xi U5 904 93 = Xi T1 904 93 := (show Xi U5 904 93 = Xi T1 904 93 from by rw [eU5]; exact Xi_ne (by omega))
      have w130 : 0 ≤ Xi T1 904 93 ∧ Xi T1 904 93 ≤ 1700 := hHT1.c _ _
      have w131 : Xi U5 904 94 = Xi T1 904 94 := (show Xi U5 904 94 = Xi T1 904 94 from by rw [eU5]; exact Xi_ne (by omega))
      have w132 : 0 ≤ Xi T1 904 94 ∧ Xi T1 904 94 ≤ 1700 := hHT1.c _ _
      have w133 : Xi U5 904 98 = Xi T1 904 98 := (show Xi U5 904 98 = Xi T1 904 98 from by rw [eU5]; exact Xi_ne (by omega))
      have w134 : 0 ≤ Xi T1 904 98 ∧ Xi T1 904 98 ≤ 1700 := hHT1.c _ _
      refine l_callV rfl rfl rfl (t_mo_tests hHU5 n (c + 1) (by first | assumption | exact (TK_FR hFU5 rfl (by assumption : TK S _))) (by first | assumption | exact (by assumption : AT U5 _ _)) (by first | assumption | exact (RNV_FR (FR_e eU5) rfl (by assumption : RNV T1 _))) (by first | assumption | omega) (by first | assumption | omega) (by first | assumption | omega) _) ?_
      rintro _ T6 ⟨hHT6, w144, rfl, w135, w136, w137, w138, w139, w140, w141, w142⟩
      have hFT6 : FR md_mo_rule S T6 := FR.tr hFU5 w144 rfl
      show Rl _ _ _ _ _ [] _ _
      have a104 : AT T6 n c := (by assumption : AT T6 n (c + 1 - 1))
      have T104 : Xi T6 904 65 = 0 → TVA T6 n (Xi T6 904 94) := fun q => by rw [(by omega : Xi T6 904 94 = Xi T6 904 93)]; exact (by assumption : Xi T6 904 65 = 0 → TVA T6 n (Xi T6 904 93)) q
      have w145 : Xi T6 904 102 = Xi T1 904 102 := (show Xi T6 904 102 = Xi U5 904 102 from w144.x _ _ rfl).trans ((show Xi U5 904 102 = Xi T1 904 102 from by rw [eU5]; exact Xi_ne (by omega)))
      have w146 : 0 ≤ Xi T1 904 102 ∧ Xi T1 904 102 ≤ 2600 := hHT1.c _ _
      have w147 : Xi T6 904 103 = Xi T1 904 103 := (show Xi T6 904 103 = Xi U5 904 103 from w144.x _ _ rfl).trans ((show Xi U5 904 103 = Xi T1 904 103 from by rw [eU5]; exact Xi_ne (by omega)))
      have w148 : -1 ≤ Xi T1 904 103 ∧ Xi T1 904 103 ≤ 2600 := hHT1.c _ _
      have w149 : 0 ≤ Xi T6 904 65 ∧ Xi T6 904 65 ≤ 1 := hHT6.c _ _
      have w150 : 0 ≤ Xi T6 904 69 ∧ Xi T6 904 69 ≤ 2600 := hHT6.c _ _
      have w151 : Xi T6 904 70 = Xi T1 904 70 := (show Xi T6 904 70 = Xi U5 904 70 from w144.x _ _ rfl).trans ((show Xi U5 904 70 = Xi T1 904 70 from by rw [eU5]; exact Xi_ne (by omega)))
      have w152 : 0 ≤ Xi T1 904 70 ∧ Xi T1 904 70 ≤ 20 := hHT1.c _ _
      have w153 : 0 ≤ Xi T6 904 8 ∧ Xi T6 904 8 ≤ 5010 := hHT6.c _ _
      have w154 : 0 ≤ Xi T6 904 93 ∧ Xi T6 904 93 ≤ 1700 := hHT6.c _ _
      have w155 : 0 ≤ Xi T6 904 94 ∧ Xi T6 904 94 ≤ 1700 := hHT6.c _ _
      have w156 : Xi T6 904 98 = Xi T1 904 98 := (show Xi T6 904 98 = Xi U5 904 98 from w144.x _ _ rfl).trans ((show Xi U5 904 98 = Xi T1 904 98 from by rw [eU5]; exact Xi_ne (by omega)))
      have w157 : 0 ≤ Xi T1 904 98 ∧ Xi T1 904 98 ≤ 1700 := hHT1.c _ _
      exact Rl_weak (C107 T6 hHT6 hFT6  (by assumption) (by assumption) (by omega) (by omega) (by omega) (by omega) (by omega) (by omega) (by first | exact T104 | exact fun q i hi => absurd hi (by omega))) (And.intro rfl (True.intro))
  refine l_aload_n rfl rfl ?_
  refine l_iload_n rfl rfl ?_
  refine l_pfi rfl rfl rfl rfl ?_
  obtain ⟨U7, eU7⟩ : ∃ T : sS, T = uI S 904 70 (Int32.ofInt s) := ⟨_, rfl⟩
  rw [← eU7]
  have hHU7 : HI U7 := by rw [eU7]; exact HI_w hH (show 0 ≤ s by omega) (show s ≤ 20 by omega)
  have hFU7 : FR md_mo_rule S U7 := by rw [eU7]; exact FR.wI hF (mdf_i (r := (904, 905, 70, 71)) (List.mem_of_getElem? (i := 4) rfl) (inR_i (by omega) (by omega) (by omega) (by omega)))
  have w158 : Xi U7 904 70 = s := by rw [eU7]; exact Xi_same (by unfold rg; omega)
  have s2_8 : Xi U7 904 8 = Xi S 904 8 := by rw [eU7, Xi_ne (by omega)]
  have s2_65 : Xi U7 904 65 = Xi S 904 65 := by rw [eU7, Xi_ne (by omega)]
  have s2_69 : Xi U7 904 69 = Xi S 904 69 := by rw [eU7, Xi_ne (by omega)]
  have s2_93 : Xi U7 904 93 = Xi S 904 93 := by rw [eU7, Xi_ne (by omega)]
  refine l_aload_n rfl rfl ?_
  refine l_dup rfl rfl ?_
  refine l_gfi rfl rfl rfl rfl rfl ?_
  have w159 : (Xi U7 904 8) = (Xi S 904 8) := (show Xi U7 904 8 = Xi S 904 8 from by rw [eU7]; exact Xi_ne (by omega))
  rw [w159]
  refine l_iconst rfl ?_
  refine l_iadd rfl ?_
  refine l_pfi rfl rfl rfl rfl ?_
  obtain ⟨U8, eU8⟩ : ∃ T : sS, T = uI U7 904 8 (Int32.ofInt ((Xi S 904 8) + 1)) := ⟨_, rfl⟩
  rw [← eU8]
  have hHU8 : HI U8 := by rw [eU8]; exact HI_w hHU7 (show 0 ≤ ((Xi S 904 8) + 1) by omega) (show ((Xi S 904 8) + 1) ≤ 5010 by omega)
  have hFU8 : FR md_mo_rule S U8 := by rw [eU8]; exact FR.wI hFU7 (mdf_i (r := (904, 905, 8, 9)) (List.mem_of_getElem? (i := 0) rfl) (inR_i (by omega) (by omega) (by omega) (by omega)))
  have w160 : Xi U8 904 8 = ((Xi S 904 8) + 1) := by rw [eU8]; exact Xi_same (by unfold rg; omega)
  have t12 : AT U8 n c ∧ _ := at_mv hT hA (fun j => (hFU7.cx 907 rfl j).1) (fun j => (hFU7.cx 908 rfl j).1) (by omega) (by omega) (by omega) (by omega) eU8 (by omega) (by omega) (by omega) (by omega) (Or.inl rfl)
  have a12 : AT U8 n c := t12.1
  refine l_iload_n rfl rfl ?_
  refine l_iconst rfl ?_
  refine l_icmp_ne rfl rfl (by unfold rg; omega) (by unfold rg; omega) (fun w161 => ?_) (fun w162 => ?_)
  · refine l_iload_n rfl rfl ?_
    refine l_bipush rfl rfl ?_
    refine l_icmp_ne rfl rfl (by unfold rg; omega) (by unfold rg; omega) (fun w163 => ?_) (fun w164 => ?_)
    · refine l_aload_n rfl rfl ?_
      refine l_aload_n rfl rfl ?_
      have w165 : Xi U8 904 102 = Xi S 904 102 := (show Xi U8 904 102 = Xi U7 904 102 from by rw [eU8]; exact Xi_ne (by omega)).trans ((show Xi U7 904 102 = Xi S 904 102 from by rw [eU7]; exact Xi_ne (by omega)))
      have w166 : 0 ≤ Xi S 904 102 ∧ Xi S 904 102 ≤ 2600 := hH.c _ _
      have w167 : Xi U8 904 103 = Xi S 904 103 := (show Xi U8 904 103 = Xi U7 904 103 from by rw [eU8]; exact Xi_ne (by omega)).trans ((show Xi U7 904 103 = Xi S 904 103 from by rw [eU7]; exact Xi_ne (by omega)))
      have w168 : -1 ≤ Xi S 904 103 ∧ Xi S 904 103 ≤ 2600 := hH.c _ _
      have w169 : Xi U8 904 65 = Xi S 904 65 := (show Xi U8 904 65 = Xi U7 904 65 from by rw [eU8]; exact Xi_ne (by omega)).trans ((show Xi U7 904 65 = Xi S 904 65 from by rw [eU7]; exact Xi_ne (by omega)))
      have w170 : 0 ≤ Xi S 904 65 ∧ Xi S 904 65 ≤ 1 := hH.c _ _
      have w171 : Xi U8 904 69 = Xi S 904 69 := (show Xi U8 904 69 = Xi U7 904 69 from by rw [eU8]; exact Xi_ne (by omega)).trans ((show Xi U7 904 69 = Xi S 904 69 from by rw [eU7]; exact Xi_ne (by omega)))
      have w172 : 0 ≤ Xi S 904 69 ∧ Xi S 904 69 ≤ 2600 := hH.c _ _
      have w173 : Xi U8 904 70 = Xi U7 904 70 := (show Xi U8 904 70 = Xi U7 904 70 from by rw [eU8]; exact Xi_ne (by omega))
      have w174 : 0 ≤ Xi U7 904 70 ∧ Xi U7 904 70 ≤ 20 := hHU7.c _ _
      have w175 : 0 ≤ Xi U8 904 8 ∧ Xi U8 904 8 ≤ 5010 := hHU8.c _ _
      have w176 : Xi U8 904 93 = Xi S 904 93 := (show Xi U8 904 93 = Xi U7 904 93 from by rw [eU8]; exact Xi_ne (by omega)).trans ((show Xi U7 904 93 = Xi S 904 93 from by rw [eU7]; exact Xi_ne (by omega)))
      have w177 : 0 ≤ Xi S 904 93 ∧ Xi S 904 93 ≤ 1700 := hH.c _ _
      have w178 : Xi U8 904 94 = Xi S 904 94 := (show Xi U8 904 94 = Xi U7 904 94 from by rw [eU8]; exact Xi_ne (by omega)).trans ((show Xi U7 904 94 = Xi S 904 94 from by rw [eU7]; exact Xi_ne (by omega)))
      have w179 : 0 ≤ Xi S 904 94 ∧ Xi S 904 94 ≤ 1700 := hH.c _ _
      have w180 : Xi U8 904 98 = Xi S 904 98 := (show Xi U8 904 98 = Xi U7 904 98 from by rw [eU8]; exact Xi_ne (by omega)).trans ((show Xi U7 904 98 = Xi S 904 98 from by rw [eU7]; exact Xi_ne (by omega)))
      have w181 : 0 ≤ Xi S 904 98 ∧ Xi S 904 98 ≤ 1700 := hH.c _ _
      refine l_callV rfl rfl rfl (t_mo_run hHU8 n c (by first | assumption | exact (TK_FR hFU8 rfl (by assumption : TK S _))) (by first | assumption | exact (by assumption : AT U8 _ _)) (by first | assumption | exact (RNV_FR (FR_e eU8) rfl (RNV_FR (FR_e eU7) rfl (by assumption : RNV S _)))) _) ?_
      rintro _ T9 ⟨hHT9, w188, z187, rfl, w187, w182, w183, w184, w185, w186⟩
      have hFT9 : FR md_mo_rule S T9 := FR.tr hFU8 w188 rfl
      show Rl _ _ _ _ _ [iv z187, .ref 904] _ _
      refine l_pfi rfl rfl rfl rfl ?_
      obtain ⟨U10, eU10⟩ : ∃ T : sS, T = uI T9 904 102 (Int32.ofInt z187) := ⟨_, rfl⟩
      rw [← eU10]
      have hHU10 : HI U10 := by rw [eU10]; exact HI_w hHT9 (show 0 ≤ z187 by omega) (show z187 ≤ 2600 by omega)
      have hFU10 : FR md_mo_rule S U10 := by rw [eU10]; exact FR.wI hFT9 (mdf_i (r := (904, 905, 102, 103)) (List.mem_of_getElem? (i := 12) rfl) (inR_i (by omega) (by omega) (by omega) (by omega)))
      have w189 : Xi U10 904 102 = z187 := by rw [eU10]; exact Xi_same (by unfold rg; omega)
      have a47 : AT U10 n c := AT_FR (FR_e eU10) rfl (by assumption)
      have v47 : RNV U10 n := RNV_FR (FR_e eU10) rfl (by assumption)
      have s47_8 : Xi U10 904 8 = Xi T9 904 8 := by rw [eU10, Xi_ne (by omega)]
      have s47_65 : Xi U10 904 65 = Xi T9 904 65 := by rw [eU10, Xi_ne (by omega)]
      have s47_69 : Xi U10 904 69 = Xi T9 904 69 := by rw [eU10, Xi_ne (by omega)]
      have s47_8 : Xi U10 904 8 = Xi T9 904 8 := by rw [eU10, Xi_ne (by omega)]
      refine l_aload_n rfl rfl ?_
      refine l_iconst rfl ?_
      refine l_pfi rfl rfl rfl rfl ?_
      obtain ⟨U11, eU11⟩ : ∃ T : sS, T = uI U10 904 103 (Int32.ofInt (-1)) := ⟨_, rfl⟩
      rw [← eU11]
      have hHU11 : HI U11 := by rw [eU11]; exact HI_w hHU10 (show -1 ≤ (-1) by omega) (show (-1) ≤ 2600 by omega)
      have hFU11 : FR md_mo_rule S U11 := by rw [eU11]; exact FR.wI hFU10 (mdf_i (r := (904, 905, 103, 104)) (List.mem_of_getElem? (i := 13) rfl) (inR_i (by omega) (by omega) (by omega) (by omega)))
      have w190 : Xi U11 904 103 = (-1) := by rw [eU11]; exact Xi_same (by unfold rg; omega)
      have a52 : AT U11 n c := AT_FR (FR_e eU11) rfl a47
      refine l_aload_n rfl rfl ?_
      have w191 : Xi U11 904 102 = Xi U10 904 102 := (show Xi U11 904 102 = Xi U10 904 102 from by rw [eU11]; exact Xi_ne (by omega))
      have w192 : 0 ≤ Xi U10 904 102 ∧ Xi U10 904 102 ≤ 2600 := hHU10.c _ _
      have w193 : -1 ≤ Xi U11 904 103 ∧ Xi U11 904 103 ≤ 2600 := hHU11.c _ _
      have w194 : Xi U11 904 65 = Xi T9 904 65 := (show Xi U11 904 65 = Xi U10 904 65 from by rw [eU11]; exact Xi_ne (by omega)).trans ((show Xi U10 904 65 = Xi T9 904 65 from by rw [eU10]; exact Xi_ne (by omega)))
      have w195 : 0 ≤ Xi T9 904 65 ∧ Xi T9 904 65 ≤ 1 := hHT9.c _ _
      have w196 : Xi U11 904 69 = Xi T9 904 69 := (show Xi U11 904 69 = Xi U10 904 69 from by rw [eU11]; exact Xi_ne (by omega)).trans ((show Xi U10 904 69 = Xi T9 904 69 from by rw [eU10]; exact Xi_ne (by omega)))
      have w197 : 0 ≤ Xi T9 904 69 ∧ Xi T9 904 69 ≤ 2600 := hHT9.c _ _
      have w198 : Xi U11 904 70 = Xi U7 904 70 := (show Xi U11 904 70 = Xi U10 904 70 from by rw [eU11]; exact Xi_ne (by omega)).trans ( (show Xi U10 904 70 = Xi T9 904 70 from by rw [eU10]; exact Xi_ne (by omega)).trans ( (show Xi T9 904 70 = Xi U8 904 70 from w188.x _ _ rfl).trans ((show Xi U8 904 70 = Xi U7 904 70 from by rw [eU8]; exact Xi_ne (by omega)))))
      have w199 : 0 ≤ Xi U7 904 70 ∧ Xi U7 904 70 ≤ 20 := hHU7.c _ _
      have w200 : Xi U11 904 8 = Xi T9 904 8 := (show Xi U11 904 8 = Xi U10 904 8 from by rw [eU11]; exact Xi_ne (by omega)).trans ((show Xi U10 904 8 = Xi T9 904 8 from by rw [eU10]; exact Xi_ne (by omega)))
      have w201 : 0 ≤ Xi T9 904 8 ∧ Xi T9 904 8 ≤ 5010 := hHT9.c _ _
      have w202 : Xi U11 904 93 = Xi S 904 93 := (show Xi U11 904 93 = Xi U10 904 93 from by rw [eU11]; exact Xi_ne (by omega)).trans ( (show Xi U10 904 93 = Xi T9 904 93 from by rw [eU10]; exact Xi_ne (by omega)).trans ( (show Xi T9 904 93 = Xi U8 904 93 from w188.x _ _ rfl).trans ( (show Xi U8 904 93 = Xi U7 904 93 from by rw [eU8]; exact Xi_ne (by omega)).trans ((show Xi U7 904 93 = Xi S 904 93 from by rw [eU7]; exact Xi_ne (by omega))))))
      have w203 : 0 ≤ Xi S 904 93 ∧ Xi S 904 93 ≤ 1700 := hH.c _ _
      have w204 : Xi U11 904 94 = Xi S 904 94 := (show Xi U11 904 94 = Xi U10 904 94 from by rw [eU11]; exact Xi_ne (by omega)).trans ( (show Xi U10 904 94 = Xi T9 904 94 from by rw [eU10]; exact Xi_ne (by omega)).trans ( (show Xi T9 904 94 = Xi U8 904 94 from w188.x _ _ rfl).trans ( (show Xi U8 904 94 = Xi U7 904 94 from by rw [eU8]; exact Xi_ne (by omega)).trans ((show Xi U7 904 94 = Xi S 904 94 from by rw [eU7]; exact Xi_ne (by omega))))))
      have w205 : 0 ≤ Xi S 904 94 ∧ Xi S 904 94 ≤ 1700 := hH.c _ _
      have w206 : Xi U11 904 98 = Xi S 904 98 := (show Xi U11 904 98 = Xi U10 904 98 from by rw [eU11]; exact Xi_ne (by omega)).trans ( (show Xi U10 904 98 = Xi T9 904 98 from by rw [eU10]; exact Xi_ne (by omega)).trans ( (show Xi T9 904 98 = Xi U8 904 98 from w188.x _ _ rfl).trans ( (show Xi U8 904 98 = Xi U7 904 98 from by rw [eU8]; exact Xi_ne (by omega)).trans ((show Xi U7 904 98 = Xi S 904 98 from by rw [eU7]; exact Xi_ne (by omega))))))
      have w207 : 0 ≤ Xi S 904 98 ∧ Xi S 904 98 ≤ 1700 := hH.c _ _
      refine l_callV rfl rfl rfl (t_mo_look hHU11 n c (by first | assumption | exact (TK_FR hFU11 rfl (by assumption : TK S _))) (by first | assumption | exact (AT_FR (FR_e eU11) rfl (AT_FR (FR_e eU10) rfl (by assumption : AT T9 _ _)))) _) ?_
      rintro _ _ ⟨rfl, z209, rfl, w209, w208⟩
      show Rl _ _ _ _ _ [iv z209] _ _
      have l56 : z209 ≠ 1 → Xi U11 904 65 = 0 ∧ Xi U11 907 (Xi U11 904 8).toNat = z209 := by assumption
      have w210 : Xi U11 904 102 = Xi U10 904 102 := (show Xi U11 904 102 = Xi U10 904 102 from by rw [eU11]; exact Xi_ne (by omega))
      have w211 : 0 ≤ Xi U10 904 102 ∧ Xi U10 904 102 ≤ 2600 := hHU10.c _ _
      have w212 : -1 ≤ Xi U11 904 103 ∧ Xi U11 904 103 ≤ 2600 := hHU11.c _ _
      have w213 : Xi U11 904 65 = Xi T9 904 65 := (show Xi U11 904 65 = Xi U10 904 65 from by rw [eU11]; exact Xi_ne (by omega)).trans ((show Xi U10 904 65 = Xi T9 904 65 from by rw [eU10]; exact Xi_ne (by omega)))
      have w214 : 0 ≤ Xi T9 904 65 ∧ Xi T9 904 65 ≤ 1 := hHT9.c _ _
      have w215 : Xi U11 904 69 = Xi T9 904 69 := (show Xi U11 904 69 = Xi U10 904 69 from by rw [eU11]; exact Xi_ne (by omega)).trans ((show Xi U10 904 69 = Xi T9 904 69 from by rw [eU10]; exact Xi_ne (by omega)))
      have w216 : 0 ≤ Xi T9 904 69 ∧ Xi T9 904 69 ≤ 2600 := hHT9.c _ _
      have w217 : Xi U11 904 70 = Xi U7 904 70 := (show Xi U11 904 70 = Xi U10 904 70 from by rw [eU11]; exact Xi_ne (by omega)).trans ( (show Xi U10 904 70 = Xi T9 904 70 from by rw [eU10]; exact Xi_ne (by omega)).trans ( (show Xi T9 904 70 = Xi U8 904 70 from w188.x _ _ rfl).trans ((show Xi U8 904 70 = Xi U7 904 70 from by rw [eU8]; exact Xi_ne (by omega)))))
      have w218 : 0 ≤ Xi U7 904 70 ∧ Xi U7 904 70 ≤ 20 := hHU7.c _ _
      have w219 : Xi U11 904 8 = Xi T9 904 8 := (show Xi U11 904 8 = Xi U10 904 8 from by rw [eU11]; exact Xi_ne (by omega)).trans ((show Xi U10 904 8 = Xi T9 904 8 from by rw [eU10]; exact Xi_ne (by omega)))
      have w220 : 0 ≤ Xi T9 904 8 ∧ Xi T9 904 8 ≤ 5010 := hHT9.c _ _
      have w221 : Xi U11 904 93 = Xi S 904 93 := (show Xi U11 904 93 = Xi U10 904 93 from by rw [eU11]; exact Xi_ne (by omega)).trans ( (show Xi U10 904 93 = Xi T9 904 93 from by rw [eU10]; exact Xi_ne (by omega)).trans ( (show Xi T9 904 93 = Xi U8 904 93 from w188.x _ _ rfl).trans ( (show Xi U8 904 93 = Xi U7 904 93 from by rw [eU8]; exact Xi_ne (by omega)).trans ((show Xi U7 904 93 = Xi S 904 93 from by rw [eU7]; exact Xi_ne (by omega))))))
      have w222 : 0 ≤ Xi S 904 93 ∧ Xi S 904 93 ≤ 1700 := hH.c _ _
      have w223 : Xi U11 904 94 = Xi S 904 94 := (show Xi U11 904 94 = Xi U10 904 94 from by rw [eU11]; exact Xi_ne (by omega)).trans ( (show Xi U10 904 94 = Xi T9 904 94 from by rw [eU10]; exact Xi_ne (by omega)).trans ( (show Xi T9 904 94 = Xi U8 904 94 from w188.x _ _ rfl).trans ( (show Xi U8 904 94 = Xi U7 904 94 from by rw [eU8]; exact Xi_ne (by omega)).trans ((show Xi U7 904 94 = Xi S 904 94 from by rw [eU7]; exact Xi_ne (by omega))))))
      have w224 : 0 ≤ Xi S 904 94 ∧ Xi S 904 94 ≤ 1700 := hH.c _ _
      have w225 : Xi U11 904 98 = Xi S 904 98 := (show Xi U11 904 98 = Xi U10 904 98 from by rw [eU11]; exact Xi_ne (by omega)).trans ( (show Xi U10 904 98 = Xi T9 904 98 from by rw [eU10]; exact Xi_ne (by omega)).trans ( (show Xi T9 904 98 = Xi U8 904 98 from w188.x _ _ rfl).trans ( (show Xi U8 904 98 = Xi U7 904 98 from by rw [eU8]; exact Xi_ne (by omega)).trans ((show Xi U7 904 98 = Xi S 904 98 from by rw [eU7]; exact Xi_ne (by omega))))))
      have w226 : 0 ≤ Xi S 904 98 ∧ Xi S 904 98 ≤ 1700 := hH.c _ _
      refine l_callS rfl rfl (by decide) rfl (t_mo_isArt hHU11 z209 ⟨by omega, by omega⟩ _) ?_
      rintro _ _ ⟨rfl, z228, rfl, w228, w227⟩
      show Rl _ _ _ _ _ [iv z228] _ _
      refine l_if_eq rfl rfl (by unfold rg; omega) (fun w229 => ?_) (fun w230 => ?_)
      · have w231 : Xi U11 904 102 = Xi U10 904 102 := (show Xi U11 904 102 = Xi U10 904 102 from by rw [eU11]; exact Xi_ne (by omega))
        have w232 : 0 ≤ Xi U10 904 102 ∧ Xi U10 904 102 ≤ 2600 := hHU10.c _ _
        have w233 : -1 ≤ Xi U11 904 103 ∧ Xi U11 904 103 ≤ 2600 := hHU11.c _ _
        have w234 : Xi U11 904 65 = Xi T9 904 65 := (show Xi U11 904 65 = Xi U10 904 65 from by rw [eU11]; exact Xi_ne (by omega)).trans ((show Xi U10 904 65 = Xi T9 904 65 from by rw [eU10]; exact Xi_ne (by omega)))
        have w235 : 0 ≤ Xi T9 904 65 ∧ Xi T9 904 65 ≤ 1 := hHT9.c _ _
        have w236 : Xi U11 904 69 = Xi T9 904 69 := (show Xi U11 904 69 = Xi U10 904 69 from by rw [eU11]; exact Xi_ne (by omega)).trans ((show Xi U10 904 69 = Xi T9 904 69 from by rw [eU10]; exact Xi_ne (by omega)))
        have w237 : 0 ≤ Xi T9 904 69 ∧ Xi T9 904 69 ≤ 2600 := hHT9.c _ _
        have w238 : Xi U11 904 70 = Xi U7 904 70 := (show Xi U11 904 70 = Xi U10 904 70 from by rw [eU11]; exact Xi_ne (by omega)).trans ( (show Xi U10 904 70 = Xi T9 904 70 from by rw [eU10]; exact Xi_ne (by omega)).trans ( (show Xi T9 904 70 = Xi U8 904 70 from w188.x _ _ rfl).trans ((show Xi U8 904 70 = Xi U7 904 70 from by rw [eU8]; exact Xi_ne (by omega)))))
        have w239 : 0 ≤ Xi U7 904 70 ∧ Xi U7 904 70 ≤ 20 := hHU7.c _ _
        have w240 : Xi U11 904 8 = Xi T9 904 8 := (show Xi U11 904 8 = Xi U10 904 8 from by rw [eU11]; exact Xi_ne (by omega)).trans ((show Xi U10 904 8 = Xi T9 904 8 from by rw [eU10]; exact Xi_ne (by omega)))
        have w241 : 0 ≤ Xi T9 904 8 ∧ Xi T9 904 8 ≤ 5010 := hHT9.c _ _
        have w242 : Xi U11 904 93 = Xi S 904 93 := (show Xi U11 904 93 = Xi U10 904 93 from by rw [eU11]; exact Xi_ne (by omega)).trans ( (show Xi U10 904 93 = Xi T9 904 93 from by rw [eU10]; exact Xi_ne (by omega)).trans ( (show Xi T9 904 93 = Xi U8 904 93 from w188.x _ _ rfl).trans ( (show Xi U8 904 93 = Xi U7 904 93 from by rw [eU8]; exact Xi_ne (by omega)).trans ((show Xi U7 904 93 = Xi S 904 93 from by rw [eU7]; exact Xi_ne (by omega))))))
        have w243 : 0 ≤ Xi S 904 93 ∧ Xi S 904 93 ≤ 1700 := hH.c _ _
        have w244 : Xi U11 904 94 = Xi S 904 94 := (show Xi U11 904 94 = Xi U10 904 94 from by rw [eU11]; exact Xi_ne (by omega)).trans ( (show Xi U10 904 94 = Xi T9 904 94 from by rw [eU10]; exact Xi_ne (by omega)).trans ( (show Xi T9 904 94 = Xi U8 904 94 from w188.x _ _ rfl).trans ( (show Xi U8 904 94 = Xi U7 904 94 from by rw [eU8]; exact Xi_ne (by omega)).trans ((show Xi U7 904 94 = Xi S 904 94 from by rw [eU7]; exact Xi_ne (by omega))))))
        have w245 : 0 ≤ Xi S 904 94 ∧ Xi S 904 94 ≤ 1700 := hH.c _ _
        have w246 : Xi U11 904 98 = Xi S 904 98 := (show Xi U11 904 98 = Xi U10 904 98 from by rw [eU11]; exact Xi_ne (by omega)).trans ( (show Xi U10 904 98 = Xi T9 904 98 from by rw [eU10]; exact Xi_ne (by omega)).trans ( (show Xi T9 904 98 = Xi U8 904 98 from w188.x _ _ rfl).trans ( (show Xi U8 904 98 = Xi U7 904 98 from by rw [eU8]; exact Xi_ne (by omega)).trans ((show Xi U7 904 98 = Xi S 904 98 from by rw [eU7]; exact Xi_ne (by omega))))))
        have w247 : 0 ≤ Xi S 904 98 ∧ Xi S 904 98 ≤ 1700 := hH.c _ _
        exact Rl_weak (C83 U11 hHU11 hFU11  (by assumption) (by first | assumption | exact (RNV_FR (FR_e eU11) rfl (RNV_FR (FR_e eU10) rfl (by assumption : RNV T9 _)))) (by omega) (by omega) (by omega) (by omega) (by omega) (by omega)) (And.intro rfl (True.intro))
      · refine l_aload_n rfl rfl ?_
        refine l_dup rfl rfl ?_
        refine l_gfi rfl rfl rfl rfl rfl ?_
        have w248 : 0 ≤ (Xi U11 904 8) ∧ (Xi U11 904 8) ≤ 5010 := hHU11.c _ _
        refine l_iconst rfl ?_
        refine l_iadd rfl ?_
        refine l_pfi rfl rfl rfl rfl ?_
        obtain ⟨U12, eU12⟩ : ∃ T : sS, T = uI U11 904 8 (Int32.ofInt ((Xi U11 904 8) + 1)) := ⟨_, rfl⟩
        rw [← eU12]
        have hHU12 : HI U12 := by rw [eU12]; exact HI_w hHU11 (show 0 ≤ ((Xi U11 904 8) + 1) by omega) (show ((Xi U11 904 8) + 1) ≤ 5010 by omega)
        have hFU12 : FR md_mo_rule S U12 := by rw [eU12]; exact FR.wI hFU11 (mdf_i (r := (904, 905, 8, 9)) (List.mem_of_getElem? (i := 0) rfl) (inR_i (by omega) (by omega) (by omega) (by omega)))
        have w249 : Xi U12 904 8 = ((Xi U11 904 8) + 1) := by rw [eU12]; exact Xi_same (by unfold rg; omega)
        have t72 : AT U12 n c ∧ _ := at_mv (S := U11) (P := U11) (c2 := c) (TK_FR hFU11 rfl hT) (by assumption) (fun _ => rfl) (fun _ => rfl) rfl rfl rfl rfl eU12 (by omega) (by omega) (by omega) (by omega) (Or.inl rfl)
        have a72 : AT U12 n c := t72.1
        have l72 := t72.2
        refine l_aload_n rfl rfl ?_
        refine l_aload_n rfl rfl ?_
        have w250 : Xi U12 904 102 = Xi U10 904 102 := (show Xi U12 904 102 = Xi U11 904 102 from by rw [eU12]; exact Xi_ne (by omega)).trans ((show Xi U11 904 102 = Xi U10 904 102 from by rw [eU11]; exact Xi_ne (by omega)))
        have w251 : 0 ≤ Xi U10 904 102 ∧ Xi U10 904 102 ≤ 2600 := hHU10.c _ _
        have w252 : Xi U12 904 103 = Xi U11 904 103 := (show Xi U12 904 103 = Xi U11 904 103 from by rw [eU12]; exact Xi_ne (by omega))
        have w253 : -1 ≤ Xi U11 904 103 ∧ Xi U11 904 103 ≤ 2600 := hHU11.c _ _
        have w254 : Xi U12 904 65 = Xi T9 904 65 := (show Xi U12 904 65 = Xi U11 904 65 from by rw [eU12]; exact Xi_ne (by omega)).trans ( (show Xi U11 904 65 = Xi U10 904 65 from by rw [eU11]; exact Xi_ne (by omega)).trans ((show Xi U10 904 65 = Xi T9 904 65 from by rw [eU10]; exact Xi_ne (by omega))))
        have w255 : 0 ≤ Xi T9 904 65 ∧ Xi T9 904 65 ≤ 1 := hHT9.c _ _
        have w256 : Xi U12 904 69 = Xi T9 904 69 := (show Xi U12 904 69 = Xi U11 904 69 from by rw [eU12]; exact Xi_ne (by omega)).trans ( (show Xi U11 904 69 = Xi U10 904 69 from by rw [eU11]; exact Xi_ne (by omega)).trans ((show Xi U10 904 69 = Xi T9 904 69 from by rw [eU10]; exact Xi_ne (by omega))))
        have w257 : 0 ≤ Xi T9 904 69 ∧ Xi T9 904 69 ≤ 2600 := hHT9.c _ _
        have w258 : Xi U12 904 70 = Xi U7 904 70 := (show Xi U12 904 70 = Xi U11 904 70 from by rw [eU12]; exact Xi_ne (by omega)).trans ( (show Xi U11 904 70 = Xi U10 904 70 from by rw [eU11]; exact Xi_ne (by omega)).trans ( (show Xi U10 904 70 = Xi T9 904 70 from by rw [eU10]; exact Xi_ne (by omega)).trans ( (show Xi T9 904 70 = Xi U8 904 70 from w188.x _ _ rfl).trans ((show Xi U8 904 70 = Xi U7 904 70 from by rw [eU8]; exact Xi_ne (by omega))))))
        have w259 : 0 ≤ Xi U7 904 70 ∧ Xi U7 904 70 ≤ 20 := hHU7.c _ _
        have w260 : 0 ≤ Xi U12 904 8 ∧ Xi U12 904 8 ≤ 5010 := hHU12.c _ _
        have w261 : Xi U12 904 93 = Xi S 904 93 := (show Xi U12 904 93 = Xi U11 904 93 from by rw [eU12]; exact Xi_ne (by omega)).trans ( (show Xi U11 904 93 = Xi U10 904 93 from by rw [eU11]; exact Xi_ne (by omega)).trans ( (show Xi U10 904 93 = Xi T9 904 93 from by rw [eU10]; exact Xi_ne (by omega)).trans ( (show Xi T9 904 93 = Xi U8 904 93 from w188.x _ _ rfl).trans ( (show Xi U8 904 93 = Xi U7 904 93 from by rw [eU8]; exact Xi_ne (by omega)).trans ((show Xi U7 904 93 = Xi S 904 93 from by rw [eU7]; exact Xi_ne (by omega)))))))
        have w262 : 0 ≤ Xi S 904 93 ∧ Xi S 904 93 ≤ 1700 := hH.c _ _
        have w263 : Xi U12 904 94 = Xi S 904 94 := (show Xi U12 904 94 = Xi U11 904 94 from by rw [eU12]; exact Xi_ne (by omega)).trans ( (show Xi U11 904 94 = Xi U10 904 94 from by rw [eU11]; exact Xi_ne (by omega)).trans ( (show Xi U10 904 94 = Xi T9 904 94 from by rw [eU10]; exact Xi_ne (by omega)).trans ( (show Xi T9 904 94 = Xi U8 904 94 from w188.x _ _ rfl).trans ( (show Xi U8 904 94 = Xi U7 904 94 from by rw [eU8]; exact Xi_ne (by omega)).trans ((show Xi U7 904 94 = Xi S 904 94 from by rw [eU7]; exact Xi_ne (by omega)))))))
        have w264 : 0 ≤ Xi S 904 94 ∧ Xi S 904 94 ≤ 1700 := hH.c _ _
        have w265 : Xi U12 904 98 = Xi S 904 98 := (show Xi U12 904 98 = Xi U11 904 98 from by rw [eU12]; exact Xi_ne (by omega)).trans ( (show Xi U11 904 98 = Xi U10 904 98 from by rw [eU11]; exact Xi_ne (by omega)).trans ( (show Xi U10 904 98 = Xi T9 904 98 from by rw [eU10]; exact Xi_ne (by omega)).trans ( (show Xi T9 904 98 = Xi U8 904 98 from w188.x _ _ rfl).trans ( (show Xi U8 904 98 = Xi U7 904 98 from by rw [eU8]; exact Xi_ne (by omega)).trans ((show Xi U7 904 98 = Xi S 904 98 from by rw [eU7]; exact Xi_ne (by omega)))))))
        have w266 : 0 ≤ Xi S 904 98 ∧ Xi S 904 98 ≤ 1700 := hH.c _ _
        refine l_callV rfl rfl rfl (t_mo_run hHU12 n c (by first | assumption | exact (TK_FR hFU12 rfl (by assumption : TK S _))) (by first | assumption | exact (by assumption : AT U12 _ _)) (by first | assumption | exact (RNV_FR (FR_e eU12) rfl (RNV_FR (FR_e eU11) rfl (RNV_FR (FR_e eU10) rfl (by assumption : RNV T9 _))))) _) ?_
        rintro _ T13 ⟨hHT13, w273, z272, rfl, w272, w267, w268, w269, w270, w271⟩
        have hFT13 : FR md_mo_rule S T13 := FR.tr hFU12 w273 rfl
        show Rl _ _ _ _ _ [iv z272, .ref 904] _ _
        refine l_pfi rfl rfl rfl rfl ?_
        obtain ⟨U14, eU14⟩ : ∃ T : sS, T = uI T13 904 103 (Int32.ofInt z272) := ⟨_, rfl⟩
        rw [← eU14]
        have hHU14 : HI U14 := by rw [eU14]; exact HI_w hHT13 (show -1 ≤ z272 by omega) (show z272 ≤ 2600 by omega)
        have hFU14 : FR md_mo_rule S U14 := by rw [eU14]; exact FR.wI hFT13 (mdf_i (r := (904, 905, 103, 104)) (List.mem_of_getElem? (i := 13) rfl) (inR_i (by omega) (by omega) (by omega) (by omega)))
        have w274 : Xi U14 904 103 = z272 := by rw [eU14]; exact Xi_same (by unfold rg; omega)
        have a80 : AT U14 n c := AT_FR (FR_e eU14) rfl (by assumption)
        have w275 : Xi U14 904 102 = Xi U10 904 102 := (show Xi U14 904 102 = Xi T13 904 102 from by rw [eU14]; exact Xi_ne (by omega)).trans ( (show Xi T13 904 102 = Xi U12 904 102 from w273.x _ _ rfl).trans ( (show Xi U12 904 102 = Xi U11 904 102 from by rw [eU12]; exact Xi_ne (by omega)).trans ((show Xi U11 904 102 = Xi U10 904 102 from by rw [eU11]; exact Xi_ne (by omega)))))
        have w276 : 0 ≤ Xi U10 904 102 ∧ Xi U10 904 102 ≤ 2600 := hHU10.c _ _
        have w277 : -1 ≤ Xi U14 904 103 ∧ Xi U14 904 103 ≤ 2600 := hHU14.c _ _
        have w278 : Xi U14 904 65 = Xi T13 904 65 := (show Xi U14 904 65 = Xi T13 904 65 from by rw [eU14]; exact Xi_ne (by omega))
        have w279 : 0 ≤ Xi T13 904 65 ∧ Xi T13 904 65 ≤ 1 := hHT13.c _ _
        have w280 : Xi U14 904 69 = Xi T13 904 69 := (show Xi U14 904 69 = Xi T13 904 69 from by rw [eU14]; exact Xi_ne (by omega))
        have w281 : 0 ≤ Xi T13 904 69 ∧ Xi T13 904 69 ≤ 2600 := hHT13.c _ _
        have w282 : Xi U14 904 70 = Xi U7 904 70 := (show Xi U14 904 70 = Xi T13 904 70 from by rw [eU14]; exact Xi_ne (by omega)).trans ( (show Xi T13 904 70 = Xi U12 904 70 from w273.x _ _ rfl).trans ( (show Xi U12 904 70 = Xi U11 904 70 from by rw [eU12]; exact Xi_ne (by omega)).trans ( (show Xi U11 904 70 = Xi U10 904 70 from by rw [eU11]; exact Xi_ne (by omega)).trans ( (show Xi U10 904 70 = Xi T9 904 70 from by rw [eU10]; exact Xi_ne (by omega)).trans ( (show Xi T9 904 70 = Xi U8 904 70 from w188.x _ _ rfl).trans ((show Xi U8 904 70 = Xi U7 904 70 from by rw [eU8]; exact Xi_ne (by omega))))))))
        have w283 : 0 ≤ Xi U7 904 70 ∧ Xi U7 904 70 ≤ 20 := hHU7.c _ _
        have w284 : Xi U14 904 8 = Xi T13 904 8 := (show Xi U14 904 8 = Xi T13 904 8 from by rw [eU14]; exact Xi_ne (by omega))
        have w285 : 0 ≤ Xi T13 904 8 ∧ Xi T13 904 8 ≤ 5010 := hHT13.c _ _
        have w286 : Xi U14 904 93 = Xi S 904 93 := (show Xi U14 904 93 = Xi T13 904 93 from by rw [eU14]; exact Xi_ne (by omega)).trans ( (show Xi T13 904 93 = Xi U12 904 93 from w273.x _ _ rfl).trans ( (show Xi U12 904 93 = Xi U11 904 93 from by rw [eU12]; exact Xi_ne (by omega)).trans ( (show Xi U11 904 93 = Xi U10 904 93 from by rw [eU11]; exact Xi_ne (by omega)).trans ( (show Xi U10 904 93 = Xi T9 904 93 from by rw [eU10]; exact Xi_ne (by omega)).trans ( (show Xi T9 904 93 = Xi U8 904 93 from w188.x _ _ rfl).trans ( (show Xi U8 904 93 = Xi U7 904 93 from by rw [eU8]; exact Xi_ne (by omega)).trans ((show Xi U7 904 93 = Xi S 904 93 from by rw [eU7]; exact Xi_ne (by omega)))))))))
        have w287 : 0 ≤ Xi S 904 93 ∧ Xi S 904 93 ≤ 1700 := hH.c _ _
        have w288 : Xi U14 904 94 = Xi S 904 94 := (show Xi U14 904 94 = Xi T13 904 94 from by rw [eU14]; exact Xi_ne (by omega)).trans ( (show Xi T13 904 94 = Xi U12 904 94 from w273.x _ _ rfl).trans ( (show Xi U12 904 94 = Xi U11 904 94 from by rw [eU12]; exact Xi_ne (by omega)).trans ( (show Xi U11 904 94 = Xi U10 904 94 from by rw [eU11]; exact Xi_ne (by omega)).trans ( (show Xi U10 904 94 = Xi T9 904 94 from by rw [eU10]; exact Xi_ne (by omega)).trans ( (show Xi T9 904 94 = Xi U8 904 94 from w188.x _ _ rfl).trans ( (show Xi U8 904 94 = Xi U7 904 94 from by rw [eU8]; exact Xi_ne (by omega)).trans ((show Xi U7 904 94 = Xi S 904 94 from by rw [eU7]; exact Xi_ne (by omega)))))))))
        have w289 : 0 ≤ Xi S 904 94 ∧ Xi S 904 94 ≤ 1700 := hH.c _ _
        have w290 : Xi U14 904 98 = Xi S 904 98 := (show Xi U14 904 98 = Xi T13 904 98 from by rw [eU14]; exact Xi_ne (by omega)).trans ( (show Xi T13 904 98 = Xi U12 904 98 from w273.x _ _ rfl).trans ( (show Xi U12 904 98 = Xi U11 904 98 from by rw [eU12]; exact Xi_ne (by omega)).trans ( (show Xi U11 904 98 = Xi U10 904 98 from by rw [eU11]; exact Xi_ne (by omega)).trans ( (show Xi U10 904 98 = Xi T9 904 98 from by rw [eU10]; exact Xi_ne (by omega)).trans ( (show Xi T9 904 98 = Xi U8 904 98 from w188.x _ _ rfl).trans ( (show Xi U8 904 98 = Xi U7 904 98 from by rw [eU8]; exact Xi_ne (by omega)).trans ((show Xi U7 904 98 = Xi S 904 98 from by rw [eU7]; exact Xi_ne (by omega)))))))))
        have w291 : 0 ≤ Xi S 904 98 ∧ Xi S 904 98 ≤ 1700 := hH.c _ _
        exact Rl_weak (C83 U14 hHU14 hFU14  (by assumption) (by first | assumption | exact (RNV_FR (FR_e eU14) rfl (by assumption : RNV T13 _))) (by omega) (by omega) (by omega) (by omega) (by omega) (by omega)) (And.intro rfl (True.intro))
    · refine l_aload_n rfl rfl ?_
      refine l_sipush rfl rfl ?_
      have w292 : Xi U8 904 102 = Xi S 904 102 := (show Xi U8 904 102 = Xi U7 904 102 from by rw [eU8]; exact Xi_ne (by omega)).trans ((show Xi U7 904 102 = Xi S 904 102 from by rw [eU7]; exact Xi_ne (by omega)))
      have w293 : 0 ≤ Xi S 904 102 ∧ Xi S 904 102 ≤ 2600 := hH.c _ _
      have w294 : Xi U8 904 103 = Xi S 904 103 := (show Xi U8 904 103 = Xi U7 904 103 from by rw [eU8]; exact Xi_ne (by omega)).trans ((show Xi U7 904 103 = Xi S 904 103 from by rw [eU7]; exact Xi_ne (by omega)))
      have w295 : -1 ≤ Xi S 904 103 ∧ Xi S 904 103 ≤ 2600 := hH.c _ _
      have w296 : Xi U8 904 65 = Xi S 904 65 := (show Xi U8 904 65 = Xi U7 904 65 from by rw [eU8]; exact Xi_ne (by omega)).trans ((show Xi U7 904 65 = Xi S 904 65 from by rw [eU7]; exact Xi_ne (by omega)))
      have w297 : 0 ≤ Xi S 904 65 ∧ Xi S 904 65 ≤ 1 := hH.c _ _
      have w298 : Xi U8 904 69 = Xi S 904 69 := (show Xi U8 904 69 = Xi U7 904 69 from by rw [eU8]; exact Xi_ne (by omega)).trans ((show Xi U7 904 69 = Xi S 904 69 from by rw [eU7]; exact Xi_ne (by omega)))
      have w299 : 0 ≤ Xi S 904 69 ∧ Xi S 904 69 ≤ 2600 := hH.c _ _
      have w300 : Xi U8 904 70 = Xi U7 904 70 := (show Xi U8 904 70 = Xi U7 904 70 from by rw [eU8]; exact Xi_ne (by omega))
      have w301 : 0 ≤ Xi U7 904 70 ∧ Xi U7 904 70 ≤ 20 := hHU7.c _ _
      have w302 : 0 ≤ Xi U8 904 8 ∧ Xi U8 904 8 ≤ 5010 := hHU8.c _ _
      have w303 : Xi U8 904 93 = Xi S 904 93 := (show Xi U8 904 93 = Xi U7 904 93 from by rw [eU8]; exact Xi_ne (by omega)).trans ((show Xi U7 904 93 = Xi S 904 93 from by rw [eU7]; exact Xi_ne (by omega)))
      have w304 : 0 ≤ Xi S 904 93 ∧ Xi S 904 93 ≤ 1700 := hH.c _ _
      have w305 : Xi U8 904 94 = Xi S 904 94 := (show Xi U8 904 94 = Xi U7 904 94 from by rw [eU8]; exact Xi_ne (by omega)).trans ((show Xi U7 904 94 = Xi S 904 94 from by rw [eU7]; exact Xi_ne (by omega)))
      have w306 : 0 ≤ Xi S 904 94 ∧ Xi S 904 94 ≤ 1700 := hH.c _ _
      have w307 : Xi U8 904 98 = Xi S 904 98 := (show Xi U8 904 98 = Xi U7 904 98 from by rw [eU8]; exact Xi_ne (by omega)).trans ((show Xi U7 904 98 = Xi S 904 98 from by rw [eU7]; exact Xi_ne (by omega)))
      have w308 : 0 ≤ Xi S 904 98 ∧ Xi S 904 98 ≤ 1700 := hH.c _ _
      refine l_callV rfl rfl rfl (t_mo_take__2 hHU8 n c 142 ⟨by omega, by omega⟩ (by first | assumption | exact (TK_FR hFU8 rfl (by assumption : TK S _))) (by first | assumption | exact (by assumption : AT U8 _ _)) (by first | assumption | omega) _) ?_
      rintro _ T15 ⟨hHT15, w314, rfl, w309, w310, w311, w312⟩
      have hFT15 : FR md_mo_rule S T15 := FR.tr hFU8 w314 rfl
      show Rl _ _ _ _ _ [] _ _
      refine l_goto rfl rfl ?_
      have w315 : Xi T15 904 102 = Xi S 904 102 := (show Xi T15 904 102 = Xi U8 904 102 from w314.x _ _ rfl).trans ( (show Xi U8 904 102 = Xi U7 904 102 from by rw [eU8]; exact Xi_ne (by omega)).trans ((show Xi U7 904 102 = Xi S 904 102 from by rw [eU7]; exact Xi_ne (by omega))))
      have w316 : 0 ≤ Xi S 904 102 ∧ Xi S 904 102 ≤ 2600 := hH.c _ _
      have w317 : Xi T15 904 103 = Xi S 904 103 := (show Xi T15 904 103 = Xi U8 904 103 from w314.x _ _ rfl).trans ( (show Xi U8 904 103 = Xi U7 904 103 from by rw [eU8]; exact Xi_ne (by omega)).trans ((show Xi U7 904 103 = Xi S 904 103 from by rw [eU7]; exact Xi_ne (by omega))))
      have w318 : -1 ≤ Xi S 904 103 ∧ Xi S 904 103 ≤ 2600 := hH.c _ _
      have w319 : 0 ≤ Xi T15 904 65 ∧ Xi T15 904 65 ≤ 1 := hHT15.c _ _
      have w320 : Xi T15 904 69 = Xi S 904 69 := (show Xi T15 904 69 = Xi U8 904 69 from w314.x _ _ rfl).trans ( (show Xi U8 904 69 = Xi U7 904 69 from by rw [eU8]; exact Xi_ne (by omega)).trans ((show Xi U7 904 69 = Xi S 904 69 from by rw [eU7]; exact Xi_ne (by omega))))
      have w321 : 0 ≤ Xi S 904 69 ∧ Xi S 904 69 ≤ 2600 := hH.c _ _
      have w322 : Xi T15 904 70 = Xi U7 904 70 := (show Xi T15 904 70 = Xi U8 904 70 from w314.x _ _ rfl).trans ((show Xi U8 904 70 = Xi U7 904 70 from by rw [eU8]; exact Xi_ne (by omega)))
      have w323 : 0 ≤ Xi U7 904 70 ∧ Xi U7 904 70 ≤ 20 := hHU7.c _ _
      have w324 : 0 ≤ Xi T15 904 8 ∧ Xi T15 904 8 ≤ 5010 := hHT15.c _ _
      have w325 : Xi T15 904 93 = Xi S 904 93 := (show Xi T15 904 93 = Xi U8 904 93 from w314.x _ _ rfl).trans ( (show Xi U8 904 93 = Xi U7 904 93 from by rw [eU8]; exact Xi_ne (by omega)).trans ((show Xi U7 904 93 = Xi S 904 93 from by rw [eU7]; exact Xi_ne (by omega))))
      have w326 : 0 ≤ Xi S 904 93 ∧ Xi S 904 93 ≤ 1700 := hH.c _ _
      have w327 : Xi T15 904 94 = Xi S 904 94 := (show Xi T15 904 94 = Xi U8 904 94 from w314.x _ _ rfl).trans ( (show Xi U8 904 94 = Xi U7 904 94 from by rw [eU8]; exact Xi_ne (by omega)).trans ((show Xi U7 904 94 = Xi S 904 94 from by rw [eU7]; exact Xi_ne (by omega))))
      have w328 : 0 ≤ Xi S 904 94 ∧ Xi S 904 94 ≤ 1700 := hH.c _ _
      have w329 : Xi T15 904 98 = Xi S 904 98 := (show Xi T15 904 98 = Xi U8 904 98 from w314.x _ _ rfl).trans ( (show Xi U8 904 98 = Xi U7 904 98 from by rw [eU8]; exact Xi_ne (by omega)).trans ((show Xi U7 904 98 = Xi S 904 98 from by rw [eU7]; exact Xi_ne (by omega))))
      have w330 : 0 ≤ Xi S 904 98 ∧ Xi S 904 98 ≤ 1700 := hH.c _ _
      exact Rl_weak (C83 T15 hHT15 hFT15  (by assumption) (by first | assumption | exact (RNV_FR w314 rfl (RNV_FR (FR_e eU8) rfl (RNV_FR (FR_e eU7) rfl (by assumption : RNV S _))))) (by omega) (by omega) (by omega) (by omega) (by omega) (by omega)) (And.intro rfl (True.intro))
  · refine l_aload_n rfl rfl ?_
    refine l_bipush rfl rfl ?_
    have w331 : Xi U8 904 102 = Xi S 904 102 := (show Xi U8 904 102 = Xi U7 904 102 from by rw [eU8]; exact Xi_ne (by omega)).trans ((show Xi U7 904 102 = Xi S 904 102 from by rw [eU7]; exact Xi_ne (by omega)))
    have w332 : 0 ≤ Xi S 904 102 ∧ Xi S 904 102 ≤ 2600 := hH.c _ _
    have w333 : Xi U8 904 103 = Xi S 904 103 := (show Xi U8 904 103 = Xi U7 904 103 from by rw [eU8]; exact Xi_ne (by omega)).trans ((show Xi U7 904 103 = Xi S 904 103 from by rw [eU7]; exact Xi_ne (by omega)))
    have w334 : -1 ≤ Xi S 904 103 ∧ Xi S 904 103 ≤ 2600 := hH.c _ _
    have w335 : Xi U8 904 65 = Xi S 904 65 := (show Xi U8 904 65 = Xi U7 904 65 from by rw [eU8]; exact Xi_ne (by omega)).trans ((show Xi U7 904 65 = Xi S 904 65 from by rw [eU7]; exact Xi_ne (by omega)))
    have w336 : 0 ≤ Xi S 904 65 ∧ Xi S 904 65 ≤ 1 := hH.c _ _
    have w337 : Xi U8 904 69 = Xi S 904 69 := (show Xi U8 904 69 = Xi U7 904 69 from by rw [eU8]; exact Xi_ne (by omega)).trans ((show Xi U7 904 69 = Xi S 904 69 from by rw [eU7]; exact Xi_ne (by omega)))
    have w338 : 0 ≤ Xi S 904 69 ∧ Xi S 904 69 ≤ 2600 := hH.c _ _
    have w339 : Xi U8 904 70 = Xi U7 904 70 := (show Xi U8 904 70 = Xi U7 904 70 from by rw [eU8]; exact Xi_ne (by omega))
    have w340 : 0 ≤ Xi U7 904 70 ∧ Xi U7 904 70 ≤ 20 := hHU7.c _ _
    have w341 : 0 ≤ Xi U8 904 8 ∧ Xi U8 904 8 ≤ 5010 := hHU8.c _ _
    have w342 : Xi U8 904 93 = Xi S 904 93 := (show Xi U8 904 93 = Xi U7 904 93 from by rw [eU8]; exact Xi_ne (by omega)).trans ((show Xi U7 904 93 = Xi S 904 93 from by rw [eU7]; exact Xi_ne (by omega)))
    have w343 : 0 ≤ Xi S 904 93 ∧ Xi S 904 93 ≤ 1700 := hH.c _ _
    have w344 : Xi U8 904 94 = Xi S 904 94 := (show Xi U8 904 94 = Xi U7 904 94 from by rw [eU8]; exact Xi_ne (by omega)).trans ((show Xi U7 904 94 = Xi S 904 94 from by rw [eU7]; exact Xi_ne (by omega)))
    have w345 : 0 ≤ Xi S 904 94 ∧ Xi S 904 94 ≤ 1700 := hH.c _ _
    have w346 : Xi U8 904 98 = Xi S 904 98 := (show Xi U8 904 98 = Xi U7 904 98 from by rw [eU8]; exact Xi_ne (by omega)).trans ((show Xi U7 904 98 = Xi S 904 98 from by rw [eU7]; exact Xi_ne (by omega)))
    have w347 : 0 ≤ Xi S 904 98 ∧ Xi S 904 98 ≤ 1700 := hH.c _ _
    refine l_callV rfl rfl rfl (t_mo_take__2 hHU8 n c 107 ⟨by omega, by omega⟩ (by first | assumption | exact (TK_FR hFU8 rfl (by assumption : TK S _))) (by first | assumption | exact (by assumption : AT U8 _ _)) (by first | assumption | omega) _) ?_
    rintro _ T16 ⟨hHT16, w353, rfl, w348, w349, w350, w351⟩
    have hFT16 : FR md_mo_rule S T16 := FR.tr hFU8 w353 rfl
    show Rl _ _ _ _ _ [] _ _
    refine l_iload_n rfl rfl ?_
    refine l_bipush rfl rfl ?_
    refine l_icmp_ne rfl rfl (by unfold rg; omega) (by unfold rg; omega) (fun w354 => ?_) (fun w355 => ?_)
    · refine l_aload_n rfl rfl ?_
      refine l_aload_n rfl rfl ?_
      have w356 : Xi T16 904 102 = Xi S 904 102 := (show Xi T16 904 102 = Xi U8 904 102 from w353.x _ _ rfl).trans ( (show Xi U8 904 102 = Xi U7 904 102 from by rw [eU8]; exact Xi_ne (by omega)).trans ((show Xi U7 904 102 = Xi S 904 102 from by rw [eU7]; exact Xi_ne (by omega))))
      have w357 : 0 ≤ Xi S 904 102 ∧ Xi S 904 102 ≤ 2600 := hH.c _ _
      have w358 : Xi T16 904 103 = Xi S 904 103 := (show Xi T16 904 103 = Xi U8 904 103 from w353.x _ _ rfl).trans ( (show Xi U8 904 103 = Xi U7 904 103 from by rw [eU8]; exact Xi_ne (by omega)).trans ((show Xi U7 904 103 = Xi S 904 103 from by rw [eU7]; exact Xi_ne (by omega))))
      have w359 : -1 ≤ Xi S 904 103 ∧ Xi S 904 103 ≤ 2600 := hH.c _ _
      have w360 : 0 ≤ Xi T16 904 65 ∧ Xi T16 904 65 ≤ 1 := hHT16.c _ _
      have w361 : Xi T16 904 69 = Xi S 904 69 := (show Xi T16 904 69 = Xi U8 904 69 from w353.x _ _ rfl).trans ( (show Xi U8 904 69 = Xi U7 904 69 from by rw [eU8]; exact Xi_ne (by omega)).trans ((show Xi U7 904 69 = Xi S 904 69 from by rw [eU7]; exact Xi_ne (by omega))))
      have w362 : 0 ≤ Xi S 904 69 ∧ Xi S 904 69 ≤ 2600 := hH.c _ _
      have w363 : Xi T16 904 70 = Xi U7 904 70 := (show Xi T16 904 70 = Xi U8 904 70 from w353.x _ _ rfl).trans ((show Xi U8 904 70 = Xi U7 904 70 from by rw [eU8]; exact Xi_ne (by omega)))
      have w364 : 0 ≤ Xi U7 904 70 ∧ Xi U7 904 70 ≤ 20 := hHU7.c _ _
      have w365 : 0 ≤ Xi T16 904 8 ∧ Xi T16 904 8 ≤ 5010 := hHT16.c _ _
      have w366 : Xi T16 904 93 = Xi S 904 93 := (show Xi T16 904 93 = Xi U8 904 93 from w353.x _ _ rfl).trans ( (show Xi U8 904 93 = Xi U7 904 93 from by rw [eU8]; exact Xi_ne (by omega)).trans ((show Xi U7 904 93 = Xi S 904 93 from by rw [eU7]; exact Xi_ne (by omega))))
      have w367 : 0 ≤ Xi S 904 93 ∧ Xi S 904 93 ≤ 1700 := hH.c _ _
      have w368 : Xi T16 904 94 = Xi S 904 94 := (show Xi T16 904 94 = Xi U8 904 94 from w353.x _ _ rfl).trans ( (show Xi U8 904 94 = Xi U7 904 94 from by rw [eU8]; exact Xi_ne (by omega)).trans ((show Xi U7 904 94 = Xi S 904 94 from by rw [eU7]; exact Xi_ne (by omega))))
      have w369 : 0 ≤ Xi S 904 94 ∧ Xi S 904 94 ≤ 1700 := hH.c _ _
      have w370 : Xi T16 904 98 = Xi S 904 98 := (show Xi T16 904 98 = Xi U8 904 98 from w353.x _ _ rfl).trans ( (show Xi U8 904 98 = Xi U7 904 98 from by rw [eU8]; exact Xi_ne (by omega)).trans ((show Xi U7 904 98 = Xi S 904 98 from by rw [eU7]; exact Xi_ne (by omega))))
      have w371 : 0 ≤ Xi S 904 98 ∧ Xi S 904 98 ≤ 1700 := hH.c _ _
      refine l_callV rfl rfl rfl (t_mo_run hHT16 n c (by first | assumption | exact (TK_FR hFT16 rfl (by assumption : TK S _))) (by first | assumption | exact (by assumption : AT T16 _ _)) (by first | assumption | exact (RNV_FR w353 rfl (RNV_FR (FR_e eU8) rfl (RNV_FR (FR_e eU7) rfl (by assumption : RNV S _))))) _) ?_
      rintro _ T17 ⟨hHT17, w378, z377, rfl, w377, w372, w373, w374, w375, w376⟩
      have hFT17 : FR md_mo_rule S T17 := FR.tr hFT16 w378 rfl
      show Rl _ _ _ _ _ [iv z377, .ref 904] _ _
      refine l_pfi rfl rfl rfl rfl ?_
      obtain ⟨U18, eU18⟩ : ∃ T : sS, T = uI T17 904 102 (Int32.ofInt z377) := ⟨_, rfl⟩
      rw [← eU18]
      have hHU18 : HI U18 := by rw [eU18]; exact HI_w hHT17 (show 0 ≤ z377 by omega) (show z377 ≤ 2600 by omega)
      have hFU18 : FR md_mo_rule S U18 := by rw [eU18]; exact FR.wI hFT17 (mdf_i (r := (904, 905, 102, 103)) (List.mem_of_getElem? (i := 12) rfl) (inR_i (by omega) (by omega) (by omega) (by omega)))
      have w379 : Xi U18 904 102 = z377 := by rw [eU18]; exact Xi_same (by unfold rg; omega)
      have a47 : AT U18 n c := AT_FR (FR_e eU18) rfl (by assumption)
      have v47 : RNV U18 n := RNV_FR (FR_e eU18) rfl (by assumption)
      have s47_8 : Xi U18 904 8 = Xi T17 904 8 := by rw [eU18, Xi_ne (by omega)]
      have s47_65 : Xi U18 904 65 = Xi T17 904 65 := by rw [eU18, Xi_ne (by omega)]
      have s47_69 : Xi U18 904 69 = Xi T17 904 69 := by rw [eU18, Xi_ne (by omega)]
      have s47_8 : Xi U18 904 8 = Xi T17 904 8 := by rw [eU18, Xi_ne (by omega)]
      refine l_aload_n rfl rfl ?_
      refine l_iconst rfl ?_
      refine l_pfi rfl rfl rfl rfl ?_
      obtain ⟨U19, eU19⟩ : ∃ T : sS, T = uI U18 904 103 (Int32.ofInt (-1)) := ⟨_, rfl⟩
      rw [← eU19]
      have hHU19 : HI U19 := by rw [eU19]; exact HI_w hHU18 (show -1 ≤ (-1) by omega) (show (-1) ≤ 2600 by omega)
      have hFU19 : FR md_mo_rule S U19 := by rw [eU19]; exact FR.wI hFU18 (mdf_i (r := (904, 905, 103, 104)) (List.mem_of_getElem? (i := 13) rfl) (inR_i (by omega) (by omega) (by omega) (by omega)))
      have w380 : Xi U19 904 103 = (-1) := by rw [eU19]; exact Xi_same (by unfold rg; omega)
      have a52 : AT U19 n c := AT_FR (FR_e eU19) rfl a47
      refine l_aload_n rfl rfl ?_
      have w381 : Xi U19 904 102 = Xi U18 904 102 := (show Xi U19 904 102 = Xi U18 904 102 from by rw [eU19]; exact Xi_ne (by omega))
      have w382 : 0 ≤ Xi U18 904 102 ∧ Xi U18 904 102 ≤ 2600 := hHU18.c _ _
      have w383 : -1 ≤ Xi U19 904 103 ∧ Xi U19 904 103 ≤ 2600 := hHU19.c _ _
      have w384 : Xi U19 904 65 = Xi T17 904 65 := (show Xi U19 904 65 = Xi U18 904 65 from by rw [eU19]; exact Xi_ne (by omega)).trans ((show Xi U18 904 65 = Xi T17 904 65 from by rw [eU18]; exact Xi_ne (by omega)))
      have w385 : 0 ≤ Xi T17 904 65 ∧ Xi T17 904 65 ≤ 1 := hHT17.c _ _
      have w386 : Xi U19 904 69 = Xi T17 904 69 := (show Xi U19 904 69 = Xi U18 904 69 from by rw [eU19]; exact Xi_ne (by omega)).trans ((show Xi U18 904 69 = Xi T17 904 69 from by rw [eU18]; exact Xi_ne (by omega)))
      have w387 : 0 ≤ Xi T17 904 69 ∧ Xi T17 904 69 ≤ 2600 := hHT17.c _ _
      have w388 : Xi U19 904 70 = Xi U7 904 70 := (show Xi U19 904 70 = Xi U18 904 70 from by rw [eU19]; exact Xi_ne (by omega)).trans ( (show Xi U18 904 70 = Xi T17 904 70 from by rw [eU18]; exact Xi_ne (by omega)).trans ( (show Xi T17 904 70 = Xi T16 904 70 from w378.x _ _ rfl).trans ( (show Xi T16 904 70 = Xi U8 904 70 from w353.x _ _ rfl).trans ((show Xi U8 904 70 = Xi U7 904 70 from by rw [eU8]; exact Xi_ne (by omega))))))
      have w389 : 0 ≤ Xi U7 904 70 ∧ Xi U7 904 70 ≤ 20 := hHU7.c _ _
      have w390 : Xi U19 904 8 = Xi T17 904 8 := (show Xi U19 904 8 = Xi U18 904 8 from by rw [eU19]; exact Xi_ne (by omega)).trans ((show Xi U18 904 8 = Xi T17 904 8 from by rw [eU18]; exact Xi_ne (by omega)))
      have w391 : 0 ≤ Xi T17 904 8 ∧ Xi T17 904 8 ≤ 5010 := hHT17.c _ _
      have w392 : Xi U19 904 93 = Xi S 904 93 := (show Xi U19 904 93 = Xi U18 904 93 from by rw [eU19]; exact Xi_ne (by omega)).trans ( (show Xi U18 904 93 = Xi T17 904 93 from by rw [eU18]; exact Xi_ne (by omega)).trans ( (show Xi T17 904 93 = Xi T16 904 93 from w378.x _ _ rfl).trans ( (show Xi T16 904 93 = Xi U8 904 93 from w353.x _ _ rfl).trans ( (show Xi U8 904 93 = Xi U7 904 93 from by rw [eU8]; exact Xi_ne (by omega)).trans ((show Xi U7 904 93 = Xi S 904 93 from by rw [eU7]; exact Xi_ne (by omega)))))))
      have w393 : 0 ≤ Xi S 904 93 ∧ Xi S 904 93 ≤ 1700 := hH.c _ _
      have w394 : Xi U19 904 94 = Xi S 904 94 := (show Xi U19 904 94 = Xi U18 904 94 from by rw [eU19]; exact Xi_ne (by omega)).trans ( (show Xi U18 904 94 = Xi T17 904 94 from by rw [eU18]; exact Xi_ne (by omega)).trans ( (show Xi T17 904 94 = Xi T16 904 94 from w378.x _ _ rfl).trans ( (show Xi T16 904 94 = Xi U8 904 94 from w353.x _ _ rfl).trans ( (show Xi U8 904 94 = Xi U7 904 94 from by rw [eU8]; exact Xi_ne (by omega)).trans ((show Xi U7 904 94 = Xi S 904 94 from by rw [eU7]; exact Xi_ne (by omega)))))))
      have w395 : 0 ≤ Xi S 904 94 ∧ Xi S 904 94 ≤ 1700 := hH.c _ _
      have w396 : Xi U19 904 98 = Xi S 904 98 := (show Xi U19 904 98 = Xi U18 904 98 from by rw [eU19]; exact Xi_ne (by omega)).trans ( (show Xi U18 904 98 = Xi T17 904 98 from by rw [eU18]; exact Xi_ne (by omega)).trans ( (show Xi T17 904 98 = Xi T16 904 98 from w378.x _ _ rfl).trans ( (show Xi T16 904 98 = Xi U8 904 98 from w353.x _ _ rfl).trans ( (show Xi U8 904 98 = Xi U7 904 98 from by rw [eU8]; exact Xi_ne (by omega)).trans ((show Xi U7 904 98 = Xi S 904 98 from by rw [eU7]; exact Xi_ne (by omega)))))))
      have w397 : 0 ≤ Xi S 904 98 ∧ Xi S 904 98 ≤ 1700 := hH.c _ _
      refine l_callV rfl rfl rfl (t_mo_look hHU19 n c (by first | assumption | exact (TK_FR hFU19 rfl (by assumption : TK S _))) (by first | assumption | exact (AT_FR (FR_e eU19) rfl (AT_FR (FR_e eU18) rfl (by assumption : AT T17 _ _)))) _) ?_
      rintro _ _ ⟨rfl, z399, rfl, w399, w398⟩
      show Rl _ _ _ _ _ [iv z399] _ _
      have l56 : z399 ≠ 1 → Xi U19 904 65 = 0 ∧ Xi U19 907 (Xi U19 904 8).toNat = z399 := by assumption
      have w400 : Xi U19 904 102 = Xi U18 904 102 := (show Xi U19 904 102 = Xi U18 904 102 from by rw [eU19]; exact Xi_ne (by omega))
      have w401 : 0 ≤ Xi U18 904 102 ∧ Xi U18 904 102 ≤ 2600 := hHU18.c _ _
      have w402 : -1 ≤ Xi U19 904 103 ∧ Xi U19 904 103 ≤ 2600 := hHU19.c _ _
      have w403 : Xi U19 904 65 = Xi T17 904 65 := (show Xi U19 904 65 = Xi U18 904 65 from by rw [eU19]; exact Xi_ne (by omega)).trans ((show Xi U18 904 65 = Xi T17 904 65 from by rw [eU18]; exact Xi_ne (by omega)))
      have w404 : 0 ≤ Xi T17 904 65 ∧ Xi T17 904 65 ≤ 1 := hHT17.c _ _
      have w405 : Xi U19 904 69 = Xi T17 904 69 := (show Xi U19 904 69 = Xi U18 904 69 from by rw [eU19]; exact Xi_ne (by omega)).trans ((show Xi U18 904 69 = Xi T17 904 69 from by rw [eU18]; exact Xi_ne (by omega)))
      have w406 : 0 ≤ Xi T17 904 69 ∧ Xi T17 904 69 ≤ 2600 := hHT17.c _ _
      have w407 : Xi U19 904 70 = Xi U7 904 70 := (show Xi U19 904 70 = Xi U18 904 70 from by rw [eU19]; exact Xi_ne (by omega)).trans ( (show Xi U18 904 70 = Xi T17 904 70 from by rw [eU18]; exact Xi_ne (by omega)).trans ( (show Xi T17 904 70 = Xi T16 904 70 from w378.x _ _ rfl).trans ( (show Xi T16 904 70 = Xi U8 904 70 from w353.x _ _ rfl).trans ((show Xi U8 904 70 = Xi U7 904 70 from by rw [eU8]; exact Xi_ne (by omega))))))
      have w408 : 0 ≤ Xi U7 904 70 ∧ Xi U7 904 70 ≤ 20 := hHU7.c _ _
      have w409 : Xi U19 904 8 = Xi T17 904 8 := (show Xi U19 904 8 = Xi U18 904 8 from by rw [eU19]; exact Xi_ne (by omega)).trans ((show Xi U18 904 8 = Xi T17 904 8 from by rw [eU18]; exact Xi_ne (by omega)))
      have w410 : 0 ≤ Xi T17 904 8 ∧ Xi T17 904 8 ≤ 5010 := hHT17.c _ _
      have w411 : Xi U19 904 93 = Xi S 904 93 := (show Xi U19 904 93 = Xi U18 904 93 from by rw [eU19]; exact Xi_ne (by omega)).trans ( (show Xi U18 904 93 = Xi T17 904 93 from by rw [eU18]; exact Xi_ne (by omega)).trans ( (show Xi T17 904 93 = Xi T16 904 93 from w378.x _ _ rfl).trans ( (show Xi T16 904 93 = Xi U8 904 93 from w353.x _ _ rfl).trans ( (show Xi U8 904 93 = Xi U7 904 93 from by rw [eU8]; exact Xi_ne (by omega)).trans ((show Xi U7 904 93 = Xi S 904 93 from by rw [eU7]; exact Xi_ne (by omega)))))))
      have w412 : 0 ≤ Xi S 904 93 ∧ Xi S 904 93 ≤ 1700 := hH.c _ _
      have w413 : Xi U19 904 94 = Xi S 904 94 := (show Xi U19 904 94 = Xi U18 904 94 from by rw [eU19]; exact Xi_ne (by omega)).trans ( (show Xi U18 904 94 = Xi T17 904 94 from by rw [eU18]; exact Xi_ne (by omega)).trans ( (show Xi T17 904 94 = Xi T16 904 94 from w378.x _ _ rfl).trans ( (show Xi T16 904 94 = Xi U8 904 94 from w353.x _ _ rfl).trans ( (show Xi U8 904 94 = Xi U7 904 94 from by rw [eU8]; exact Xi_ne (by omega)).trans ((show Xi U7 904 94 = Xi S 904 94 from by rw [eU7]; exact Xi_ne (by omega)))))))
      have w414 : 0 ≤ Xi S 904 94 ∧ Xi S 904 94 ≤ 1700 := hH.c _ _
      have w415 : Xi U19 904 98 = Xi S 904 98 := (show Xi U19 904 98 = Xi U18 904 98 from by rw [eU19]; exact Xi_ne (by omega)).trans ( (show Xi U18 904 98 = Xi T17 904 98 from by rw [eU18]; exact Xi_ne (by omega)).trans ( (show Xi T17 904 98 = Xi T16 904 98 from w378.x _ _ rfl).trans ( (show Xi T16 904 98 = Xi U8 904 98 from w353.x _ _ rfl).trans ( (show Xi U8 904 98 = Xi U7 904 98 from by rw [eU8]; exact Xi_ne (by omega)).trans ((show Xi U7 904 98 = Xi S 904 98 from by rw [eU7]; exact Xi_ne (by omega)))))))
      have w416 : 0 ≤ Xi S 904 98 ∧ Xi S 904 98 ≤ 1700 := hH.c _ _
      refine l_callS rfl rfl (by decide) rfl (t_mo_isArt hHU19 z399 ⟨by omega, by omega⟩ _) ?_
      rintro _ _ ⟨rfl, z418, rfl, w418, w417⟩
      show Rl _ _ _ _ _ [iv z418] _ _
      refine l_if_eq rfl rfl (by unfold rg; omega) (fun w419 => ?_) (fun w420 => ?_)
      · have w421 : Xi U19 904 102 = Xi U18 904 102 := (show Xi U19 904 102 = Xi U18 904 102 from by rw [eU19]; exact Xi_ne (by omega))
        have w422 : 0 ≤ Xi U18 904 102 ∧ Xi U18 904 102 ≤ 2600 := hHU18.c _ _
        have w423 : -1 ≤ Xi U19 904 103 ∧ Xi U19 904 103 ≤ 2600 := hHU19.c _ _
        have w424 : Xi U19 904 65 = Xi T17 904 65 := (show Xi U19 904 65 = Xi U18 904 65 from by rw [eU19]; exact Xi_ne (by omega)).trans ((show Xi U18 904 65 = Xi T17 904 65 from by rw [eU18]; exact Xi_ne (by omega)))
        have w425 : 0 ≤ Xi T17 904 65 ∧ Xi T17 904 65 ≤ 1 := hHT17.c _ _
        have w426 : Xi U19 904 69 = Xi T17 904 69 := (show Xi U19 904 69 = Xi U18 904 69 from by rw [eU19]; exact Xi_ne (by omega)).trans ((show Xi U18 904 69 = Xi T17 904 69 from by rw [eU18]; exact Xi_ne (by omega)))
        have w427 : 0 ≤ Xi T17 904 69 ∧ Xi T17 904 69 ≤ 2600 := hHT17.c _ _
        have w428 : Xi U19 904 70 = Xi U7 904 70 := (show Xi U19 904 70 = Xi U18 904 70 from by rw [eU19]; exact Xi_ne (by omega)).trans ( (show Xi U18 904 70 = Xi T17 904 70 from by rw [eU18]; exact Xi_ne (by omega)).trans ( (show Xi T17 904 70 = Xi T16 904 70 from w378.x _ _ rfl).trans ( (show Xi T16 904 70 = Xi U8 904 70 from w353.x _ _ rfl).trans ((show Xi U8 904 70 = Xi U7 904 70 from by rw [eU8]; exact Xi_ne (by omega))))))
        have w429 : 0 ≤ Xi U7 904 70 ∧ Xi U7 904 70 ≤ 20 := hHU7.c _ _
        have w430 : Xi U19 904 8 = Xi T17 904 8 := (show Xi U19 904 8 = Xi U18 904 8 from by rw [eU19]; exact Xi_ne (by omega)).trans ((show Xi U18 904 8 = Xi T17 904 8 from by rw [eU18]; exact Xi_ne (by omega)))
        have w431 : 0 ≤ Xi T17 904 8 ∧ Xi T17 904 8 ≤ 5010 := hHT17.c _ _
        have w432 : Xi U19 904 93 = Xi S 904 93 := (show Xi U19 904 93 = Xi U18 904 93 from by rw [eU19]; exact Xi_ne (by omega)).trans ( (show Xi U18 904 93 = Xi T17 904 93 from by rw [eU18]; exact Xi_ne (by omega)).trans ( (show Xi T17 904 93 = Xi T16 904 93 from w378.x _ _ rfl).trans ( (show Xi T16 904 93 = Xi U8 904 93 from w353.x _ _ rfl).trans ( (show Xi U8 904 93 = Xi U7 904 93 from by rw [eU8]; exact Xi_ne (by omega)).trans ((show Xi U7 904 93 = Xi S 904 93 from by rw [eU7]; exact Xi_ne (by omega)))))))
        have w433 : 0 ≤ Xi S 904 93 ∧ Xi S 904 93 ≤ 1700 := hH.c _ _
        have w434 : Xi U19 904 94 = Xi S 904 94 := (show Xi U19 904 94 = Xi U18 904 94 from by rw [eU19]; exact Xi_ne (by omega)).trans ( (show Xi U18 904 94 = Xi T17 904 94 from by rw [eU18]; exact Xi_ne (by omega)).trans ( (show Xi T17 904 94 = Xi T16 904 94 from w378.x _ _ rfl).trans ( (show Xi T16 904 94 = Xi U8 904 94 from w353.x _ _ rfl).trans ( (show Xi U8 904 94 = Xi U7 904 94 from by rw [eU8]; exact Xi_ne (by omega)).trans ((show Xi U7 904 94 = Xi S 904 94 from by rw [eU7]; exact Xi_ne (by omega)))))))
        have w435 : 0 ≤ Xi S 904 94 ∧ Xi S 904 94 ≤ 1700 := hH.c _ _
        have w436 : Xi U19 904 98 = Xi S 904 98 := (show Xi U19 904 98 = Xi U18 904 98 from by rw [eU19]; exact Xi_ne (by omega)).trans ( (show Xi U18 904 98 = Xi T17 904 98 from by rw [eU18]; exact Xi_ne (by omega)).trans ( (show Xi T17 904 98 = Xi T16 904 98 from w378.x _ _ rfl).trans ( (show Xi T16 904 98 = Xi U8 904 98 from w353.x _ _ rfl).trans ( (show Xi U8 904 98 = Xi U7 904 98 from by rw [eU8]; exact Xi_ne (by omega)).trans ((show Xi U7 904 98 = Xi S 904 98 from by rw [eU7]; exact Xi_ne (by omega)))))))
        have w437 : 0 ≤ Xi S 904 98 ∧ Xi S 904 98 ≤ 1700 := hH.c _ _
        exact Rl_weak (C83 U19 hHU19 hFU19  (by assumption) (by first | assumption | exact (RNV_FR (FR_e eU19) rfl (RNV_FR (FR_e eU18) rfl (by assumption : RNV T17 _)))) (by omega) (by omega) (by omega) (by omega) (by omega) (by omega)) (And.intro rfl (True.intro))
      · refine l_aload_n rfl rfl ?_
        refine l_dup rfl rfl ?_
        refine l_gfi rfl rfl rfl rfl rfl ?_
        have w438 : 0 ≤ (Xi U19 904 8) ∧ (Xi U19 904 8) ≤ 5010 := hHU19.c _ _
        refine l_iconst rfl ?_
        refine l_iadd rfl ?_
        refine l_pfi rfl rfl rfl rfl ?_
        obtain ⟨U20, eU20⟩ : ∃ T : sS, T = uI U19 904 8 (Int32.ofInt ((Xi U19 904 8) + 1)) := ⟨_, rfl⟩
        rw [← eU20]
        have hHU20 : HI U20 := by rw [eU20]; exact HI_w hHU19 (show 0 ≤ ((Xi U19 904 8) + 1) by omega) (show ((Xi U19 904 8) + 1) ≤ 5010 by omega)
        have hFU20 : FR md_mo_rule S U20 := by rw [eU20]; exact FR.wI hFU19 (mdf_i (r := (904, 905, 8, 9)) (List.mem_of_getElem? (i := 0) rfl) (inR_i (by omega) (by omega) (by omega) (by omega)))
        have w439 : Xi U20 904 8 = ((Xi U19 904 8) + 1) := by rw [eU20]; exact Xi_same (by unfold rg; omega)
        have t72 : AT U20 n c ∧ _ := at_mv (S := U19) (P := U19) (c2 := c) (TK_FR hFU19 rfl hT) (by assumption) (fun _ => rfl) (fun _ => rfl) rfl rfl rfl rfl eU20 (by omega) (by omega) (by omega) (by omega) (Or.inl rfl)
        have a72 : AT U20 n c := t72.1
        have l72 := t72.2
        refine l_aload_n rfl rfl ?_
        refine l_aload_n rfl rfl ?_
        have w440 : Xi U20 904 102 = Xi U18 904 102 := (show Xi U20 904 102 = Xi U19 904 102 from by rw [eU20]; exact Xi_ne (by omega)).trans ((show Xi U19 904 102 = Xi U18 904 102 from by rw [eU19]; exact Xi_ne (by omega)))
        have w441 : 0 ≤ Xi U18 904 102 ∧ Xi U18 904 102 ≤ 2600 := hHU18.c _ _
        have w442 : Xi U20 904 103 = Xi U19 904 103 := (show Xi U20 904 103 = Xi U19 904 103 from by rw [eU20]; exact Xi_ne (by omega))
        have w443 : -1 ≤ Xi U19 904 103 ∧ Xi U19 904 103 ≤ 2600 := hHU19.c _ _
        have w444 : Xi U20 904 65 = Xi T17 904 65 := (show Xi U20 904 65 = Xi U19 904 65 from by rw [eU20]; exact Xi_ne (by omega)).trans ( (show Xi U19 904 65 = Xi U18 904 65 from by rw [eU19]; exact Xi_ne (by omega)).trans ((show Xi U18 904 65 = Xi T17 904 65 from by rw [eU18]; exact Xi_ne (by omega))))
        have w445 : 0 ≤ Xi T17 904 65 ∧ Xi T17 904 65 ≤ 1 := hHT17.c _ _
        have w446 : Xi U20 904 69 = Xi T17 904 69 := (show Xi U20 904 69 = Xi U19 904 69 from by rw [eU20]; exact Xi_ne (by omega)).trans ( (show Xi U19 904 69 = Xi U18 904 69 from by rw [eU19]; exact Xi_ne (by omega)).trans ((show Xi U18 904 69 = Xi T17 904 69 from by rw [eU18]; exact Xi_ne (by omega))))
        have w447 : 0 ≤ Xi T17 904 69 ∧ Xi T17 904 69 ≤ 2600 := hHT17.c _ _
        have w448 : Xi U20 904 70 = Xi U7 904 70 := (show Xi U20 904 70 = Xi U19 904 70 from by rw [eU20]; exact Xi_ne (by omega)).trans ( (show Xi U19 904 70 = Xi U18 904 70 from by rw [eU19]; exact Xi_ne (by omega)).trans ( (show Xi U18 904 70 = Xi T17 904 70 from by rw [eU18]; exact Xi_ne (by omega)).trans ( (show Xi T17 904 70 = Xi T16 904 70 from w378.x _ _ rfl).trans ( (show Xi T16 904 70 = Xi U8 904 70 from w353.x _ _ rfl).trans ((show Xi U8 904 70 = Xi U7 904 70 from by rw [eU8]; exact Xi_ne (by omega)))))))
        have w449 : 0 ≤ Xi U7 904 70 ∧ Xi U7 904 70 ≤ 20 := hHU7.c _ _
        have w450 : 0 ≤ Xi U20 904 8 ∧ Xi U20 904 8 ≤ 5010 := hHU20.c _ _
        have w451 : Xi U20 904 93 = Xi S 904 93 := (show Xi U20 904 93 = Xi U19 904 93 from by rw [eU20]; exact Xi_ne (by omega)).trans ( (show Xi U19 904 93 = Xi U18 904 93 from by rw [eU19]; exact Xi_ne (by omega)).trans ( (show Xi U18 904 93 = Xi T17 904 93 from by rw [eU18]; exact Xi_ne (by omega)).trans ( (show Xi T17 904 93 = Xi T16 904 93 from w378.x _ _ rfl).trans ( (show Xi T16 904 93 = Xi U8 904 93 from w353.x _ _ rfl).trans ( (show Xi U8 904 93 = Xi U7 904 93 from by rw [eU8]; exact Xi_ne (by omega)).trans ((show Xi U7 904 93 = Xi S 904 93 from by rw [eU7]; exact Xi_ne (by omega))))))))
        have w452 : 0 ≤ Xi S 904 93 ∧ Xi S 904 93 ≤ 1700 := hH.c _ _
        have w453 : Xi U20 904 94 = Xi S 904 94 := (show Xi U20 904 94 = Xi U19 904 94 from by rw [eU20]; exact Xi_ne (by omega)).trans ( (show Xi U19 904 94 = Xi U18 904 94 from by rw [eU19]; exact Xi_ne (by omega)).trans ( (show Xi U18 904 94 = Xi T17 904 94 from by rw [eU18]; exact Xi_ne (by omega)).trans ( (show Xi T17 904 94 = Xi T16 904 94 from w378.x _ _ rfl).trans ( (show Xi T16 904 94 = Xi U8 904 94 from w353.x _ _ rfl).trans ( (show Xi U8 904 94 = Xi U7 904 94 from by rw [eU8]; exact Xi_ne (by omega)).trans ((show Xi U7 904 94 = Xi S 904 94 from by rw [eU7]; exact Xi_ne (by omega))))))))
        have w454 : 0 ≤ Xi S 904 94 ∧ Xi S 904 94 ≤ 1700 := hH.c _ _
        have w455 : Xi U20 904 98 = Xi S 904 98 := (show Xi U20 904 98 = Xi U19 904 98 from by rw [eU20]; exact Xi_ne (by omega)).trans ( (show Xi U19 904 98 = Xi U18 904 98 from by rw [eU19]; exact Xi_ne (by omega)).trans ( (show Xi U18 904 98 = Xi T17 904 98 from by rw [eU18]; exact Xi_ne (by omega)).trans ( (show Xi T17 904 98 = Xi T16 904 98 from w378.x _ _ rfl).trans ( (show Xi T16 904 98 = Xi U8 904 98 from w353.x _ _ rfl).trans ( (show Xi U8 904 98 = Xi U7 904 98 from by rw [eU8]; exact Xi_ne (by omega)).trans ((show Xi U7 904 98 = Xi S 904 98 from by rw [eU7]; exact Xi_ne (by omega))))))))
        have w456 : 0 ≤ Xi S 904 98 ∧ Xi S 904 98 ≤ 1700 := hH.c _ _
        refine l_callV rfl rfl rfl (t_mo_run hHU20 n c (by first | assumption | exact (TK_FR hFU20 rfl (by assumption : TK S _))) (by first | assumption | exact (by assumption : AT U20 _ _)) (by first | assumption | exact (RNV_FR (FR_e eU20) rfl (RNV_FR (FR_e eU19) rfl (RNV_FR (FR_e eU18) rfl (by assumption : RNV T17 _))))) _) ?_
        rintro _ T21 ⟨hHT21, w463, z462, rfl, w462, w457, w458, w459, w460, w461⟩
        have hFT21 : FR md_mo_rule S T21 := FR.tr hFU20 w463 rfl
        show Rl _ _ _ _ _ [iv z462, .ref 904] _ _
        refine l_pfi rfl rfl rfl rfl ?_
        obtain ⟨U22, eU22⟩ : ∃ T : sS, T = uI T21 904 103 (Int32.ofInt z462) := ⟨_, rfl⟩
        rw [← eU22]
        have hHU22 : HI U22 := by rw [eU22]; exact HI_w hHT21 (show -1 ≤ z462 by omega) (show z462 ≤ 2600 by omega)
        have hFU22 : FR md_mo_rule S U22 := by rw [eU22]; exact FR.wI hFT21 (mdf_i (r := (904, 905, 103, 104)) (List.mem_of_getElem? (i := 13) rfl) (inR_i (by omega) (by omega) (by omega) (by omega)))
        have w464 : Xi U22 904 103 = z462 := by rw [eU22]; exact Xi_same (by unfold rg; omega)
        have a80 : AT U22 n c := AT_FR (FR_e eU22) rfl (by assumption)
        have w465 : Xi U22 904 102 = Xi U18 904 102 := (show Xi U22 904 102 = Xi T21 904 102 from by rw [eU22]; exact Xi_ne (by omega)).trans ( (show Xi T21 904 102 = Xi U20 904 102 from w463.x _ _ rfl).trans ( (show Xi U20 904 102 = Xi U19 904 102 from by rw [eU20]; exact Xi_ne (by omega)).trans ((show Xi U19 904 102 = Xi U18 904 102 from by rw [eU19]; exact Xi_ne (by omega)))))
        have w466 : 0 ≤ Xi U18 904 102 ∧ Xi U18 904 102 ≤ 2600 := hHU18.c _ _
        have w467 : -1 ≤ Xi U22 904 103 ∧ Xi U22 904 103 ≤ 2600 := hHU22.c _ _
        have w468 : Xi U22 904 65 = Xi T21 904 65 := (show Xi U22 904 65 = Xi T21 904 65 from by rw [eU22]; exact Xi_ne (by omega))
        have w469 : 0 ≤ Xi T21 904 65 ∧ Xi T21 904 65 ≤ 1 := hHT21.c _ _
        have w470 : Xi U22 904 69 = Xi T21 904 69 := (show Xi U22 904 69 = Xi T21 904 69 from by rw [eU22]; exact Xi_ne (by omega))
        have w471 : 0 ≤ Xi T21 904 69 ∧ Xi T21 904 69 ≤ 2600 := hHT21.c _ _
        have w472 : Xi U22 904 70 = Xi U7 904 70 := (show Xi U22 904 70 = Xi T21 904 70 from by rw [eU22]; exact Xi_ne (by omega)).trans ( (show Xi T21 904 70 = Xi U20 904 70 from w463.x _ _ rfl).trans ( (show Xi U20 904 70 = Xi U19 904 70 from by rw [eU20]; exact Xi_ne (by omega)).trans ( (show Xi U19 904 70 = Xi U18 904 70 from by rw [eU19]; exact Xi_ne (by omega)).trans ( (show Xi U18 904 70 = Xi T17 904 70 from by rw [eU18]; exact Xi_ne (by omega)).trans ( (show Xi T17 904 70 = Xi T16 904 70 from w378.x _ _ rfl).trans ( (show Xi T16 904 70 = Xi U8 904 70 from w353.x _ _ rfl).trans ((show Xi U8 904 70 = Xi U7 904 70 from by rw [eU8]; exact Xi_ne (by omega)))))))))
        have w473 : 0 ≤ Xi U7 904 70 ∧ Xi U7 904 70 ≤ 20 := hHU7.c _ _
        have w474 : Xi U22 904 8 = Xi T21 904 8 := (show Xi U22 904 8 = Xi T21 904 8 from by rw [eU22]; exact Xi_ne (by omega))
        have w475 : 0 ≤ Xi T21 904 8 ∧ Xi T21 904 8 ≤ 5010 := hHT21.c _ _
        have w476 : Xi U22 904 93 = Xi S 904 93 := (show Xi U22 904 93 = Xi T21 904 93 from by rw [eU22]; exact Xi_ne (by omega)).trans ( (show Xi T21 904 93 = Xi U20 904 93 from w463.x _ _ rfl).trans ( (show Xi U20 904 93 = Xi U19 904 93 from by rw [eU20]; exact Xi_ne (by omega)).trans ( (show Xi U19 904 93 = Xi U18 904 93 from by rw [eU19]; exact Xi_ne (by omega)).trans ( (show Xi U18 904 93 = Xi T17 904 93 from by rw [eU18]; exact Xi_ne (by omega)).trans ( (show Xi T17 904 93 = Xi T16 904 93 from w378.x _ _ rfl).trans ( (show Xi T16 904 93 = Xi U8 904 93 from w353.x _ _ rfl).trans ( (show Xi U8 904 93 = Xi U7 904 93 from by rw [eU8]; exact Xi_ne (by omega)).trans ((show Xi U7 904 93 = Xi S 904 93 from by rw [eU7]; exact Xi_ne (by omega))))))))))
        have w477 : 0 ≤ Xi S 904 93 ∧ Xi S 904 93 ≤ 1700 := hH.c _ _
        have w478 : Xi U22 904 94 = Xi S 904 94 := (show Xi U22 904 94 = Xi T21 904 94 from by rw [eU22]; exact Xi_ne (by omega)).trans ( (show Xi T21 904 94 = Xi U20 904 94 from w463.x _ _ rfl).trans ( (show Xi U20 904 94 = Xi U19 904 94 from by rw [eU20]; exact Xi_ne (by omega)).trans ( (show Xi U19 904 94 = Xi U18 904 94 from by rw [eU19]; exact Xi_ne (by omega)).trans ( (show Xi U18 904 94 = Xi T17 904 94 from by rw [eU18]; exact Xi_ne (by omega)).trans ( (show Xi T17 904 94 = Xi T16 904 94 from w378.x _ _ rfl).trans ( (show Xi T16 904 94 = Xi U8 904 94 from w353.x _ _ rfl).trans ( (show Xi U8 904 94 = Xi U7 904 94 from by rw [eU8]; exact Xi_ne (by omega)).trans ((show Xi U7 904 94 = Xi S 904 94 from by rw [eU7]; exact Xi_ne (by omega))))))))))
        have w479 : 0 ≤ Xi S 904 94 ∧ Xi S 904 94 ≤ 1700 := hH.c _ _
        have w480 : Xi U22 904 98 = Xi S 904 98 := (show Xi U22 904 98 = Xi T21 904 98 from by rw [eU22]; exact Xi_ne (by omega)).trans ( (show Xi T21 904 98 = Xi U20 904 98 from w463.x _ _ rfl).trans ( (show Xi U20 904 98 = Xi U19 904 98 from by rw [eU20]; exact Xi_ne (by omega)).trans ( (show Xi U19 904 98 = Xi U18 904 98 from by rw [eU19]; exact Xi_ne (by omega)).trans ( (show Xi U18 904 98 = Xi T17 904 98 from by rw [eU18]; exact Xi_ne (by omega)).trans ( (show Xi T17 904 98 = Xi T16 904 98 from w378.x _ _ rfl).trans ( (show Xi T16 904 98 = Xi U8 904 98 from w353.x _ _ rfl).trans ( (show Xi U8 904 98 = Xi U7 904 98 from by rw [eU8]; exact Xi_ne (by omega)).trans ((show Xi U7 904 98 = Xi S 904 98 from by rw [eU7]; exact Xi_ne (by omega))))))))))
        have w481 : 0 ≤ Xi S 904 98 ∧ Xi S 904 98 ≤ 1700 := hH.c _ _
        exact Rl_weak (C83 U22 hHU22 hFU22  (by assumption) (by first | assumption | exact (RNV_FR (FR_e eU22) rfl (by assumption : RNV T21 _))) (by omega) (by omega) (by omega) (by omega) (by omega) (by omega)) (And.intro rfl (True.intro))
    · refine l_aload_n rfl rfl ?_
      refine l_sipush rfl rfl ?_
      have w482 : Xi T16 904 102 = Xi S 904 102 := (show Xi T16 904 102 = Xi U8 904 102 from w353.x _ _ rfl).trans ( (show Xi U8 904 102 = Xi U7 904 102 from by rw [eU8]; exact Xi_ne (by omega)).trans ((show Xi U7 904 102 = Xi S 904 102 from by rw [eU7]; exact Xi_ne (by omega))))
      have w483 : 0 ≤ Xi S 904 102 ∧ Xi S 904 102 ≤ 2600 := hH.c _ _
      have w484 : Xi T16 904 103 = Xi S 904 103 := (show Xi T16 904 103 = Xi U8 904 103 from w353.x _ _ rfl).trans ( (show Xi U8 904 103 = Xi U7 904 103 from by rw [eU8]; exact Xi_ne (by omega)).trans ((show Xi U7 904 103 = Xi S 904 103 from by rw [eU7]; exact Xi_ne (by omega))))
      have w485 : -1 ≤ Xi S 904 103 ∧ Xi S 904 103 ≤ 2600 := hH.c _ _
      have w486 : 0 ≤ Xi T16 904 65 ∧ Xi T16 904 65 ≤ 1 := hHT16.c _ _
      have w487 : Xi T16 904 69 = Xi S 904 69 := (show Xi T16 904 69 = Xi U8 904 69 from w353.x _ _ rfl).trans ( (show Xi U8 904 69 = Xi U7 904 69 from by rw [eU8]; exact Xi_ne (by omega)).trans ((show Xi U7 904 69 = Xi S 904 69 from by rw [eU7]; exact Xi_ne (by omega))))
      have w488 : 0 ≤ Xi S 904 69 ∧ Xi S 904 69 ≤ 2600 := hH.c _ _
      have w489 : Xi T16 904 70 = Xi U7 904 70 := (show Xi T16 904 70 = Xi U8 904 70 from w353.x _ _ rfl).trans ((show Xi U8 904 70 = Xi U7 904 70 from by rw [eU8]; exact Xi_ne (by omega)))
      have w490 : 0 ≤ Xi U7 904 70 ∧ Xi U7 904 70 ≤ 20 := hHU7.c _ _
      have w491 : 0 ≤ Xi T16 904 8 ∧ Xi T16 904 8 ≤ 5010 := hHT16.c _ _
      have w492 : Xi T16 904 93 = Xi S 904 93 := (show Xi T16 904 93 = Xi U8 904 93 from w353.x _ _ rfl).trans ( (show Xi U8 904 93 = Xi U7 904 93 from by rw [eU8]; exact Xi_ne (by omega)).trans ((show Xi U7 904 93 = Xi S 904 93 from by rw [eU7]; exact Xi_ne (by omega))))
      have w493 : 0 ≤ Xi S 904 93 ∧ Xi S 904 93 ≤ 1700 := hH.c _ _
      have w494 : Xi T16 904 94 = Xi S 904 94 := (show Xi T16 904 94 = Xi U8 904 94 from w353.x _ _ rfl).trans ( (show Xi U8 904 94 = Xi U7 904 94 from by rw [eU8]; exact Xi_ne (by omega)).trans ((show Xi U7 904 94 = Xi S 904 94 from by rw [eU7]; exact Xi_ne (by omega))))
      have w495 : 0 ≤ Xi S 904 94 ∧ Xi S 904 94 ≤ 1700 := hH.c _ _
      have w496 : Xi T16 904 98 = Xi S 904 98 := (show Xi T16 904 98 = Xi U8 904 98 from w353.x _ _ rfl).trans ( (show Xi U8 904 98 = Xi U7 904 98 from by rw [eU8]; exact Xi_ne (by omega)).trans ((show Xi U7 904 98 = Xi S 904 98 from by rw [eU7]; exact Xi_ne (by omega))))
      have w497 : 0 ≤ Xi S 904 98 ∧ Xi S 904 98 ≤ 1700 := hH.c _ _
      refine l_callV rfl rfl rfl (t_mo_take__2 hHT16 n c 142 ⟨by omega, by omega⟩ (by first | assumption | exact (TK_FR hFT16 rfl (by assumption : TK S _))) (by first | assumption | exact (by assumption : AT T16 _ _)) (by first | assumption | omega) _) ?_
      rintro _ T23 ⟨hHT23, w503, rfl, w498, w499, w500, w501⟩
      have hFT23 : FR md_mo_rule S T23 := FR.tr hFT16 w503 rfl
      show Rl _ _ _ _ _ [] _ _
      refine l_goto rfl rfl ?_
      have w504 : Xi T23 904 102 = Xi S 904 102 := (show Xi T23 904 102 = Xi T16 904 102 from w503.x _ _ rfl).trans ( (show Xi T16 904 102 = Xi U8 904 102 from w353.x _ _ rfl).trans ( (show Xi U8 904 102 = Xi U7 904 102 from by rw [eU8]; exact Xi_ne (by omega)).trans ((show Xi U7 904 102 = Xi S 904 102 from by rw [eU7]; exact Xi_ne (by omega)))))
      have w505 : 0 ≤ Xi S 904 102 ∧ Xi S 904 102 ≤ 2600 := hH.c _ _
      have w506 : Xi T23 904 103 = Xi S 904 103 := (show Xi T23 904 103 = Xi T16 904 103 from w503.x _ _ rfl).trans ( (show Xi T16 904 103 = Xi U8 904 103 from w353.x _ _ rfl).trans ( (show Xi U8 904 103 = Xi U7 904 103 from by rw [eU8]; exact Xi_ne (by omega)).trans ((show Xi U7 904 103 = Xi S 904 103 from by rw [eU7]; exact Xi_ne (by omega)))))
      have w507 : -1 ≤ Xi S 904 103 ∧ Xi S 904 103 ≤ 2600 := hH.c _ _
      have w508 : 0 ≤ Xi T23 904 65 ∧ Xi T23 904 65 ≤ 1 := hHT23.c _ _
      have w509 : Xi T23 904 69 = Xi S 904 69 := (show Xi T23 904 69 = Xi T16 904 69 from w503.x _ _ rfl).trans ( (show Xi T16 904 69 = Xi U8 904 69 from w353.x _ _ rfl).trans ( (show Xi U8 904 69 = Xi U7 904 69 from by rw [eU8]; exact Xi_ne (by omega)).trans ((show Xi U7 904 69 = Xi S 904 69 from by rw [eU7]; exact Xi_ne (by omega)))))
      have w510 : 0 ≤ Xi S 904 69 ∧ Xi S 904 69 ≤ 2600 := hH.c _ _
      have w511 : Xi T23 904 70 = Xi U7 904 70 := (show Xi T23 904 70 = Xi T16 904 70 from w503.x _ _ rfl).trans ( (show Xi T16 904 70 = Xi U8 904 70 from w353.x _ _ rfl).trans ((show Xi U8 904 70 = Xi U7 904 70 from by rw [eU8]; exact Xi_ne (by omega))))
      have w512 : 0 ≤ Xi U7 904 70 ∧ Xi U7 904 70 ≤ 20 := hHU7.c _ _
      have w513 : 0 ≤ Xi T23 904 8 ∧ Xi T23 904 8 ≤ 5010 := hHT23.c _ _
      have w514 : Xi T23 904 93 = Xi S 904 93 := (show Xi T23 904 93 = Xi T16 904 93 from w503.x _ _ rfl).trans ( (show Xi T16 904 93 = Xi U8 904 93 from w353.x _ _ rfl).trans ( (show Xi U8 904 93 = Xi U7 904 93 from by rw [eU8]; exact Xi_ne (by omega)).trans ((show Xi U7 904 93 = Xi S 904 93 from by rw [eU7]; exact Xi_ne (by omega)))))
      have w515 : 0 ≤ Xi S 904 93 ∧ Xi S 904 93 ≤ 1700 := hH.c _ _
      have w516 : Xi T23 904 94 = Xi S 904 94 := (show Xi T23 904 94 = Xi T16 904 94 from w503.x _ _ rfl).trans ( (show Xi T16 904 94 = Xi U8 904 94 from w353.x _ _ rfl).trans ( (show Xi U8 904 94 = Xi U7 904 94 from by rw [eU8]; exact Xi_ne (by omega)).trans ((show Xi U7 904 94 = Xi S 904 94 from by rw [eU7]; exact Xi_ne (by omega)))))
      have w517 : 0 ≤ Xi S 904 94 ∧ Xi S 904 94 ≤ 1700 := hH.c _ _
      have w518 : Xi T23 904 98 = Xi S 904 98 := (show Xi T23 904 98 = Xi T16 904 98 from w503.x _ _ rfl).trans ( (show Xi T16 904 98 = Xi U8 904 98 from w353.x _ _ rfl).trans ( (show Xi U8 904 98 = Xi U7 904 98 from by rw [eU8]; exact Xi_ne (by omega)).trans ((show Xi U7 904 98 = Xi S 904 98 from by rw [eU7]; exact Xi_ne (by omega)))))
      have w519 : 0 ≤ Xi S 904 98 ∧ Xi S 904 98 ≤ 1700 := hH.c _ _
      exact Rl_weak (C83 T23 hHT23 hFT23  (by assumption) (by first | assumption | exact (RNV_FR w503 rfl (RNV_FR w353 rfl (RNV_FR (FR_e eU8) rfl (RNV_FR (FR_e eU7) rfl (by assumption : RNV S _)))))) (by omega) (by omega) (by omega) (by omega) (by omega) (by omega)) (And.intro rfl (True.intro))
