/-! SAFETY of methods: printed by wip/safe (vc.py, decl.py) -/
def md_mo_objectsOrNew : List rec := [(904, 905, 104, 105), (904, 905, 105, 106), (904, 905, 106, 107), (904, 905, 108, 109), (966, 967, 0, 100000)]
abbrev Q_mo_objectsOrNew (S : sS) (n : Nat) : pst := fun r S1 => HI S1 ∧ FR md_mo_objectsOrNew S S1 ∧ (r = none ∧ (Xi S 904 106 ≠ 0 → Xi S1 904 106 ≠ 0) ∧ (Xi S1 904 106 = 0 → ONA S) ∧ (NWV S1) ∧ (Xi S1 904 108 ≤ Xi S 904 72))
set_option maxRecDepth 100000 in
theorem t_mo_objectsOrNew {S : sS} (hH : HI S) (n : Nat) (hT : TK S n) (hv : RNV S n) (hM : LXM S) (hN : NWV S) (hl : Xi S 904 71 + Xi S 904 72 ≤ Xi S 904 69) (h9 : Xi S 904 108 = 0) (d : Nat) : Mt lay0 (d + 5) m_mo_objectsOrNew [.ref 904] S (Q_mo_objectsOrNew S n) := by
  refine Mt_R rfl rfl ?_
  have hF : FR md_mo_objectsOrNew S S := FR.rf
  have w1 : 0 ≤ Xi S 904 106 ∧ Xi S 904 106 ≤ 9 := hH.c _ _
  have w2 : 0 ≤ Xi S 904 108 ∧ Xi S 904 108 ≤ 2600 := hH.c _ _
  have w3 : 0 ≤ Xi S 904 69 ∧ Xi S 904 69 ≤ 2600 := hH.c _ _
  have w4 : 0 ≤ Xi S 904 71 ∧ Xi S 904 71 ≤ 2600 := hH.c _ _
  have w5 : 0 ≤ Xi S 904 72 ∧ Xi S 904 72 ≤ 2600 := hH.c _ _
  have hn5 := hT.1
  have hc69 : 0 ≤ Xi S 904 69 ∧ Xi S 904 69 ≤ 2600 := hH.c _ _
  have hc71 : 0 ≤ Xi S 904 71 ∧ Xi S 904 71 ≤ 2600 := hH.c _ _
  have hc72 : 0 ≤ Xi S 904 72 ∧ Xi S 904 72 ≤ 2600 := hH.c _ _
  have hrf : ∀ r : Int, 0 ≤ r → r < Xi S 904 69 → Xi S 950 r.toNat ≤ n := fun r a b => by have := hv r.toNat (by omega); omega
  have hc19 : 0 ≤ Xi S 904 19 ∧ Xi S 904 19 ≤ 24 := hH.c _ _
  have C7 : ∀ (n7 : Nat) (T1 : sS) (_ : HI T1) (_ : FR md_mo_objectsOrNew S T1) (v1 : Int) (v2 : Int), (0 ≤ v1 ∧ v1 ≤ 2700) → (0 ≤ v2 ∧ v2 ≤ 2600) → (Xi T1 904 69 = Xi S 904 69) → (Xi T1 904 71 = Xi S 904 71) → (Xi T1 904 72 = Xi S 904 72) → (Xi T1 904 108 ≤ v2) → (v2 ≤ Xi S 904 72) → (v1 ≤ 24 + v2) → (Xi S 904 106 ≠ 0 → Xi T1 904 106 ≠ 0) → (NWV T1) → (Xi T1 904 106 = 0 → ON S v1 v2) → n7 = (2601 - v2).toNat → Rl lay0 (d + 4) m_mo_objectsOrNew 7 [(0, .ref 904), (1, iv v1), (2, iv v2)] [] T1 (Q_mo_objectsOrNew S n) := by
    intro n7
    induction n7 using Nat.strongRecOn with
    | ind n7 ih7 =>
      intro T1 hHT1 hFT1 v1 v2 w6 w7 w8 w9 w10 w11 w12 w13 w14 N7 E7 hm7
      have w15 : Xi T1 904 69 = Xi S 904 69 := hFT1.x _ _ rfl
      have w16 : Xi T1 904 71 = Xi S 904 71 := hFT1.x _ _ rfl
      have w17 : Xi T1 904 72 = Xi S 904 72 := hFT1.x _ _ rfl
      have w18 : 0 ≤ Xi T1 904 106 ∧ Xi T1 904 106 ≤ 9 := hHT1.c _ _
      have w19 : 0 ≤ Xi T1 904 108 ∧ Xi T1 904 108 ≤ 2600 := hHT1.c _ _
      have w20 : 0 ≤ Xi T1 904 69 ∧ Xi T1 904 69 ≤ 2600 := hHT1.c _ _
      have w21 : 0 ≤ Xi T1 904 71 ∧ Xi T1 904 71 ≤ 2600 := hHT1.c _ _
      have w22 : 0 ≤ Xi T1 904 72 ∧ Xi T1 904 72 ≤ 2600 := hHT1.c _ _
      refine l_iload_n rfl rfl ?_
      refine l_aload_n rfl rfl ?_
      refine l_gfi rfl rfl rfl rfl rfl ?_
      refine l_icmp_ge rfl rfl (by unfold rg; omega) (by unfold rg; omega) (fun w23 => ?_) (fun w24 => ?_)
      · refine l_return rfl rfl ?_
        exact ⟨hHT1, hFT1, rfl, (by omega), (fun q => ⟨_, by rw [show Xi S 904 72 = v2 by omega]; exact E7 q⟩), (N7), (by omega)⟩
      · refine l_aload_n rfl rfl ?_
        refine l_gfi rfl rfl rfl rfl rfl ?_
        refine l_iload_n rfl rfl ?_
        refine l_iadd rfl ?_
        refine l_istore_n rfl rfl rfl ?_
        refine l_aload_n rfl rfl ?_
        refine l_iload_n rfl rfl ?_
        refine l_iconst rfl ?_
        refine l_callV rfl rfl rfl (t_mo_meansRun__2 hHT1 n ((Xi T1 904 71) + v2) 4 ⟨by omega, by omega⟩ ⟨by omega, by omega⟩ (by first | assumption | exact (TK_FR hFT1 rfl (by assumption : TK S _))) (by first | assumption | exact (RNV_FR hFT1 rfl (by assumption : RNV S _))) (by first | assumption | omega) (by first | assumption | exact (LXM_FR hFT1 rfl (by assumption : LXM S))) _) ?_
        rintro _ _ ⟨rfl, z37, rfl, w37, w35, w36⟩
        show Rl _ _ _ _ _ [iv z37] _ _
        have r25 : z37 = rnR S (Xi S 904 71 + v2) 4 := by have t := (by assumption : z37 = rnR T1 _ _).trans (rnR_FR hFT1 rfl rfl); rw [show Xi T1 904 71 = Xi S 904 71 by omega] at t; exact t
        refine l_iconst rfl ?_
        refine l_icmp_eq rfl rfl (by unfold rg; omega) (by unfold rg; omega) (fun w38 => ?_) (fun w39 => ?_)
        · refine l_aload_n rfl rfl ?_
          refine l_iload_n rfl rfl ?_
          refine l_callV rfl rfl rfl (t_mo_meansNothing__2 hHT1 n ((Xi T1 904 71) + v2) ⟨by omega, by omega⟩ (by first | assumption | exact (TK_FR hFT1 rfl (by assumption : TK S _))) (by first | assumption | exact (RNV_FR hFT1 rfl (by assumption : RNV S _))) (by first | assumption | omega) _) ?_
          rintro _ _ ⟨rfl, z46, rfl, w46, w45⟩
          show Rl _ _ _ _ _ [iv z46] _ _
          refine l_if_eq rfl rfl (by unfold rg; omega) (fun w47 => ?_) (fun w48 => ?_)
          · refine l_aload_n rfl rfl ?_
            refine l_iconst rfl ?_
            refine l_aload_n rfl rfl ?_
            refine l_gfr rfl rfl rfl rfl rfl (hHT1.r 904 67 950 rfl) ?_
            refine l_iload_n rfl rfl ?_
            refine l_iaload (n := 2600) rfl rfl (by omega) (by omega) (by unfold rg; omega) ?_
            have w49 : 0 ≤ (Xi T1 950 ((((Xi T1 904 71) + v2)).toNat)) ∧ (Xi T1 950 ((((Xi T1 904 71) + v2)).toNat)) ≤ 5010 := hHT1.c _ _
            have e81 : (Xi T1 950 ((((Xi T1 904 71) + v2)).toNat)) ≤ n := by rw [(hFT1.cx 950 rfl _).1]; exact hrf _ (by omega) (by omega)
            refine l_callV rfl rfl rfl (t_mo_note hHT1 4 (Xi T1 950 ((((Xi T1 904 71) + v2)).toNat)) ⟨by omega, by omega⟩ ⟨by omega, by omega⟩ _) ?_
            rintro _ T2 ⟨hHT2, w57, rfl, w55⟩
            have hFT2 : FR md_mo_objectsOrNew S T2 := FR.tr hFT1 w57 rfl
            show Rl _ _ _ _ _ [] _ _
            refine l_iinc rfl rfl rfl rfl ?_
            refine l_goto rfl rfl ?_
            have w58 : 0 ≤ Xi T2 904 106 ∧ Xi T2 904 106 ≤ 9 := hHT2.c _ _
            have w59 : Xi T2 904 108 = Xi T1 904 108 := (show Xi T2 904 108 = Xi T1 904 108 from w57.x _ _ rfl)
            have w61 : Xi T2 904 69 = Xi T1 904 69 := (show Xi T2 904 69 = Xi T1 904 69 from w57.x _ _ rfl)
            have w63 : Xi T2 904 71 = Xi T1 904 71 := (show Xi T2 904 71 = Xi T1 904 71 from w57.x _ _ rfl)
            have w65 : Xi T2 904 72 = Xi T1 904 72 := (show Xi T2 904 72 = Xi T1 904 72 from w57.x _ _ rfl)
            exact Rl_weak (ih7 _ (by omega) T2 hHT2 hFT2 (v1) ((v2 + 1)) (by omega) (by omega) (by omega) (by omega) (by omega) (by omega) (by omega) (by omega) (by omega) (by first | assumption | exact NWV_FR (by assumption : FR md_mo_note _ T2) rfl N7) (by first | exact fun _ => on_0 | exact fun q => on_skip (E7 (by omega)) (by omega) (by rw [← r25]; omega) | exact (fun _ q => on_new (E7 (by omega)) (by omega) (by rw [← r25]; omega) (s55 (by omega)) (by omega)) z55 | exact fun q => absurd q (by omega)) rfl) (And.intro rfl (And.intro rfl (And.intro rfl (True.intro))))
          · refine l_aload_n rfl rfl ?_
            refine l_iload_n rfl rfl ?_
            refine l_callV rfl rfl rfl (t_mo_isNew hHT1 n ((Xi T1 904 71) + v2) ⟨by omega, by omega⟩ (by first | assumption | exact (TK_FR hFT1 rfl (by assumption : TK S _))) (by first | assumption | exact (RNV_FR hFT1 rfl (by assumption : RNV S _))) (by first | assumption | omega) (by first | assumption | exact (by assumption : NWV T1)) _) ?_
            rintro _ _ ⟨rfl, z72, rfl, w72, f45⟩
            show Rl _ _ _ _ _ [iv z72] _ _
            refine l_istore rfl rfl rfl ?_
            refine l_aload_n rfl rfl ?_
            refine l_iload_n rfl rfl ?_
            refine l_iload_n rfl rfl ?_
            refine l_bipush rfl rfl ?_
            refine l_callV rfl rfl rfl (t_mo_mustBeNew hHT1 n ((Xi T1 904 71) + v2) v1 24 ⟨by omega, by omega⟩ ⟨by omega, by omega⟩ ⟨by omega, by omega⟩ (by first | assumption | exact (TK_FR hFT1 rfl (by assumption : TK S _))) (by first | assumption | exact (RNV_FR hFT1 rfl (by assumption : RNV S _))) (by first | assumption | omega) (by first | assumption | exact (by assumption : NWV T1)) (by first | assumption | omega) _) ?_
            rintro _ T3 ⟨hHT3, w82, rfl, w78, g55, w79, w80⟩
            have hFT3 : FR md_mo_objectsOrNew S T3 := FR.tr hFT1 w82 rfl
            show Rl _ _ _ _ _ [] _ _
            have z55 : Xi T3 904 106 = 0 → z72 = 1 := fun q => (Int.lt_or_le z72 1).elim (fun e => absurd (g55 q).2 (f45.2 (by omega))) (fun e => by omega)
            have s55 : Xi T3 904 106 = 0 → Xi S 951 (Xi S 904 71 + v2).toNat ≤ 3 := fun q => by have t := (g55 q).2.1; rw [(hFT1.cx 951 rfl _).1, show Xi T1 904 71 = Xi S 904 71 by omega] at t; exact t
            refine l_iload_n rfl rfl ?_
            refine l_iload rfl rfl ?_
            refine l_if_eq rfl rfl (by unfold rg; omega) (fun w83 => ?_) (fun w84 => ?_)
            · refine l_iconst rfl ?_
              refine l_iadd rfl ?_
              refine l_istore_n rfl rfl rfl ?_
              refine l_goto rfl rfl ?_
              refine l_iinc rfl rfl rfl rfl ?_
              refine l_goto rfl rfl ?_
              have w85 : 0 ≤ Xi T3 904 106 ∧ Xi T3 904 106 ≤ 9 := hHT3.c _ _
              have w86 : 0 ≤ Xi T3 904 108 ∧ Xi T3 904 108 ≤ 2600 := hHT3.c _ _
              have w87 : Xi T3 904 69 = Xi T1 904 69 := (show Xi T3 904 69 = Xi T1 904 69 from w82.x _ _ rfl)
              have w89 : Xi T3 904 71 = Xi T1 904 71 := (show Xi T3 904 71 = Xi T1 904 71 from w82.x _ _ rfl)
              have w91 : Xi T3 904 72 = Xi T1 904 72 := (show Xi T3 904 72 = Xi T1 904 72 from w82.x _ _ rfl)
              exact Rl_weak (ih7 _ (by omega) T3 hHT3 hFT3 ((v1 + 0)) ((v2 + 1)) (by omega) (by omega) (by omega) (by omega) (by omega) (by omega) (by omega) (by omega) (by omega) (by first | assumption | exact NWV_FR (by assumption : FR md_mo_note _ T3) rfl N7) (by first | exact fun _ => on_0 | exact fun q => on_skip (E7 (by omega)) (by omega) (by rw [← r25]; omega) | exact (fun _ q => on_new (E7 (by omega)) (by omega) (by rw [← r25]; omega) (s55 (by omega)) (by omega)) z55 | exact fun q => absurd q (by omega)) rfl) (And.intro rfl (And.intro rfl (And.intro rfl (True.intro))))
            · refine l_iconst rfl ?_
              refine l_goto rfl rfl ?_
              refine l_iadd rfl ?_
              refine l_istore_n rfl rfl rfl ?_
              refine l_goto rfl rfl ?_
              refine l_iinc rfl rfl rfl rfl ?_
              refine l_goto rfl rfl ?_
              have w93 : 0 ≤ Xi T3 904 106 ∧ Xi T3 904 106 ≤ 9 := hHT3.c _ _
              have w94 : 0 ≤ Xi T3 904 108 ∧ Xi T3 904 108 ≤ 2600 := hHT3.c _ _
              have w95 : Xi T3 904 69 = Xi T1 904 69 := (show Xi T3 904 69 = Xi T1 904 69 from w82.x _ _ rfl)
              have w97 : Xi T3 904 71 = Xi T1 904 71 := (show Xi T3 904 71 = Xi T1 904 71 from w82.x _ _ rfl)
              have w99 : Xi T3 904 72 = Xi T1 904 72 := (show Xi T3 904 72 = Xi T1 904 72 from w82.x _ _ rfl)
              exact Rl_weak (ih7 _ (by omega) T3 hHT3 hFT3 ((v1 + 1)) ((v2 + 1)) (by omega) (by omega) (by omega) (by omega) (by omega) (by omega) (by omega) (by omega) (by omega) (by first | assumption | exact NWV_FR (by assumption : FR md_mo_note _ T3) rfl N7) (by first | exact fun _ => on_0 | exact fun q => on_skip (E7 (by omega)) (by omega) (by rw [← r25]; omega) | exact (fun _ q => on_new (E7 (by omega)) (by omega) (by rw [← r25]; omega) (s55 (by omega)) (by omega)) z55 | exact fun q => absurd q (by omega)) rfl) (And.intro rfl (And.intro rfl (And.intro rfl (True.intro))))
        · refine l_goto rfl rfl ?_
          refine l_iinc rfl rfl rfl rfl ?_
          refine l_goto rfl rfl ?_
          exact Rl_weak (ih7 _ (by omega) T1 hHT1 hFT1 (v1) ((v2 + 1)) (by omega) (by omega) (by omega) (by omega) (by omega) (by omega) (by omega) (by omega) (by omega) (by first | assumption | exact NWV_FR (by assumption : FR md_mo_note _ T1) rfl N7) (by first | exact fun _ => on_0 | exact fun q => on_skip (E7 (by omega)) (by omega) (by rw [← r25]; omega) | exact (fun _ q => on_new (E7 (by omega)) (by omega) (by rw [← r25]; omega) (s55 (by omega)) (by omega)) z55 | exact fun q => absurd q (by omega)) rfl) (And.intro rfl (And.intro rfl (And.intro rfl (True.intro))))
  refine l_aload_n rfl rfl ?_
  refine l_gfi rfl rfl rfl rfl rfl ?_
  have w106 : 0 ≤ (Xi S 904 19) ∧ (Xi S 904 19) ≤ 24 := hH.c _ _
  refine l_istore_n rfl rfl rfl ?_
  refine l_iconst rfl ?_
  refine l_istore_n rfl rfl rfl ?_
  exact Rl_weak (C7 _ S hH hF ((Xi S 904 19)) (0) (by omega) (by omega) (by omega) (by omega) (by omega) (by omega) (by omega) (by omega) (by omega) (by first | assumption | exact NWV_FR (by assumption : FR md_mo_note _ S) rfl N7) (by first | exact fun _ => on_0 | exact fun q => on_skip (E7 (by omega)) (by omega) (by rw [← r25]; omega) | exact (fun _ q => on_new (E7 (by omega)) (by omega) (by rw [← r25]; omega) (s55 (by omega)) (by omega)) z55 | exact fun q => absurd q (by omega)) rfl) (And.intro rfl (And.intro rfl (And.intro rfl (True.intro))))
def ktR (S : sS) (th : Int) : Int := if th = -1 then Xi S 904 115 else if th = -2 then Xi S 904 116 else if th = -9 then -1 else Xi S 918 th.toNat
theorem ktR_i {S : sS} {th z : Int} (h : (th = -1 → z = Xi S 904 115) ∧ (th = -2 → z = Xi S 904 116) ∧ (th = -9 → z = -1) ∧ (0 ≤ th → z = Xi S 918 th.toNat)) (ht : th = -9 ∨ -2 ≤ th) : z = ktR S th := by
  unfold ktR
  split
  · exact h.1 (by assumption)
  · split
    · exact h.2.1 (by assumption)
    · split
      · exact h.2.2.1 (by assumption)
      · exact h.2.2.2 (by omega)
def md_mo_propertyMeant__2 : List rec := [(904, 905, 104, 105), (904, 905, 105, 106), (904, 905, 106, 107)]
abbrev Q_mo_propertyMeant__2 (S : sS) (n : Nat) (rn : Int) (th : Int) : pst := fun r S1 => HI S1 ∧ FR md_mo_propertyMeant__2 S S1 ∧ (∃ z : Int, r = some (iv z) ∧ (-1 ≤ z ∧ z ≤ 11) ∧ (z ≠ -1 → z < Xi S 904 32) ∧ (z ≠ -1 → th ≠ -9) ∧ (Xi S 904 106 ≠ 0 → Xi S1 904 106 ≠ 0) ∧ (z = -1 → th = -9 ∨ Xi S1 904 106 ≠ 0) ∧ (z ≠ -1 → z = rnR S rn 7))
set_option maxRecDepth 100000 in
theorem t_mo_propertyMeant__2 {S : sS} (hH : HI S) (n : Nat) (rn : Int) (th : Int) (hrn : 0 ≤ rn ∧ rn ≤ 2599) (hth : -9 ≤ th ∧ th ≤ 23) (hT : TK S n) (hv : RNV S n) (hrr : rn < Xi S 904 69) (hM : LXM S) (hB : ABV S) (ht : th ≠ -9 → -2 ≤ th) (d : Nat) : Mt lay0 (d + 5) m_mo_propertyMeant [.ref 904, iv rn, iv th] S (Q_mo_propertyMeant__2 S n rn th) := by
  refine Mt_R rfl rfl ?_
  have hF : FR md_mo_propertyMeant__2 S S := FR.rf
  have w1 : 0 ≤ Xi S 904 106 ∧ Xi S 904 106 ≤ 9 := hH.c _ _
  have w2 : -1 ≤ Xi S 904 115 ∧ Xi S 904 115 ≤ 15 := hH.c _ _
  have w3 : -1 ≤ Xi S 904 116 ∧ Xi S 904 116 ≤ 15 := hH.c _ _
  have w4 : 0 ≤ Xi S 904 32 ∧ Xi S 904 32 ≤ 12 := hH.c _ _
  have w5 : 0 ≤ Xi S 904 69 ∧ Xi S 904 69 ≤ 2600 := hH.c _ _
  have hn5 := hT.1
  have hq := hv rn.toNat (by omega)
  have hq0 : 0 ≤ Xi S 950 rn.toNat ∧ Xi S 950 rn.toNat ≤ 5010 := hH.c 950 rn.toNat
  have hc69 : 0 ≤ Xi S 904 69 ∧ Xi S 904 69 ≤ 2600 := hH.c _ _
  have hc32 : 0 ≤ Xi S 904 32 ∧ Xi S 904 32 ≤ 12 := hH.c _ _
  have C48 : ∀  (T1 : sS) (_ : HI T1) (_ : FR md_mo_propertyMeant__2 S T1) (v3 : Int), (-1 ≤ v3 ∧ v3 ≤ 11) → (v3 = rnR S rn 7) → (v3 ≠ -1 → v3 < Xi S 904 32) → (Xi S 904 106 ≠ 0 → Xi T1 904 106 ≠ 0) → (Xi T1 904 115 = Xi S 904 115 ∧ Xi T1 904 116 = Xi S 904 116) → (Xi T1 904 106 = 0 → v3 ≠ -1 ∧ (th = -9 ∨ hsR S (ktR S th) v3 ≠ 0)) → Rl lay0 (d + 4) m_mo_propertyMeant 48 [(0, .ref 904), (2, iv th), (3, iv v3)] [] T1 (Q_mo_propertyMeant__2 S n rn th) := by
    intro T1 hHT1 hFT1 v3 w6 w7 w8 w9 w10 w11
    have w12 : Xi T1 904 115 = Xi S 904 115 := hFT1.x _ _ rfl
    have w13 : Xi T1 904 116 = Xi S 904 116 := hFT1.x _ _ rfl
    have w14 : Xi T1 904 32 = Xi S 904 32 := hFT1.x _ _ rfl
    have w15 : Xi T1 904 69 = Xi S 904 69 := hFT1.x _ _ rfl
    have w16 : 0 ≤ Xi T1 904 106 ∧ Xi T1 904 106 ≤ 9 := hHT1.c _ _
    have w17 : -1 ≤ Xi T1 904 115 ∧ Xi T1 904 115 ≤ 15 := hHT1.c _ _
    have w18 : -1 ≤ Xi T1 904 116 ∧ Xi T1 904 116 ≤ 15 := hHT1.c _ _
    refine l_iload_n rfl rfl ?_
    refine l_iconst rfl ?_
    refine l_icmp_eq rfl rfl (by unfold rg; omega) (by unfold rg; omega) (fun w19 => ?_) (fun w20 => ?_)
    · refine l_iconst rfl ?_
      refine l_ireturn rfl rfl ?_
      exact ⟨hHT1, hFT1, _, rfl, ⟨by omega, by omega⟩, (by omega), (by omega), (by omega), (by omega), (by omega)⟩
    · refine l_iload_n rfl rfl ?_
      refine l_bipush rfl rfl ?_
      refine l_icmp_eq rfl rfl (by unfold rg; omega) (by unfold rg; omega) (fun w24 => ?_) (fun w25 => ?_)
      · refine l_iconst rfl ?_
        refine l_ireturn rfl rfl ?_
        exact ⟨hHT1, hFT1, _, rfl, ⟨by omega, by omega⟩, (by omega), (by omega), (by omega), (by omega), (by omega)⟩
      · refine l_aload_n rfl rfl ?_
        refine l_aload_n rfl rfl ?_
        refine l_iload_n rfl rfl ?_
        refine l_callV rfl rfl rfl (t_mo_kindOfThing__2 hHT1 th ⟨by omega, by omega⟩ (by first | assumption | omega) _) ?_
        rintro _ _ ⟨rfl, z33, rfl, w33, w32⟩
        show Rl _ _ _ _ _ [iv z33, .ref 904] _ _
        have k62 : z33 = ktR S th := ktR_i (S := S) ⟨by omega, by omega, by omega, fun q => by rw [← (hFT1.cx 918 rfl _).1]; omega⟩ (by omega)
        refine l_iload_n rfl rfl ?_
        refine l_callV rfl rfl rfl (t_mo_has__2 hHT1 z33 v3 ⟨by omega, by omega⟩ ⟨by omega, by omega⟩ (by first | assumption | exact (ABV_FR hFT1 rfl (by assumption : ABV S))) _) ?_
        rintro _ _ ⟨rfl, z39, rfl, w39, w37, w38⟩
        show Rl _ _ _ _ _ [iv z39] _ _
        have h66 : z39 = hsR S (ktR S th) v3 := by have t := (by assumption : z39 = hsR T1 _ v3).trans (hsN_k (fun j => (hFT1.cx 917 rfl j).1) (fun j => (hFT1.cx 929 rfl j).1) 17 _); rw [k62] at t; exact t
        refine l_if_eq rfl rfl (by unfold rg; omega) (fun w40 => ?_) (fun w41 => ?_)
        · refine l_iconst rfl ?_
          refine l_ireturn rfl rfl ?_
          exact ⟨hHT1, hFT1, _, rfl, ⟨by omega, by omega⟩, (by omega), (by omega), (by omega), (by omega), (by omega)⟩
        · refine l_iload_n rfl rfl ?_
          refine l_goto rfl rfl ?_
          refine l_ireturn rfl rfl ?_
          exact ⟨hHT1, hFT1, _, rfl, ⟨by omega, by omega⟩, (by omega), (by omega), (by omega), (by omega), (by omega)⟩
  refine l_aload_n rfl rfl ?_
  refine l_iload_n rfl rfl ?_
  refine l_bipush rfl rfl ?_
  refine l_callV rfl rfl rfl (t_mo_meansRun__2 hH n rn 7 ⟨by omega, by omega⟩ ⟨by omega, by omega⟩ (by first | assumption | exact (TK_FR hF rfl (by assumption : TK S _))) (by first | assumption | exact (RNV_FR hF rfl (by assumption : RNV S _))) (by first | assumption | omega) (by first | assumption | exact (LXM_FR hF rfl (by assumption : LXM S))) _) ?_
  rintro _ _ ⟨rfl, z54, rfl, w54, w52, w53⟩
  show Rl _ _ _ _ _ [iv z54] _ _
  have x4 : z54 ≠ -1 → z54 < Xi S 904 32 := fun q => by have t := (by assumption : z54 ≠ -1 → z54 < cM S 7) q; rw [cM7] at t; exact t
  refine l_istore_n rfl rfl rfl ?_
  refine l_aload_n rfl rfl ?_
  refine l_iload_n rfl rfl ?_
  refine l_iconst rfl ?_
  refine l_icmp_eq rfl rfl (by unfold rg; omega) (by unfold rg; omega) (fun w55 => ?_) (fun w56 => ?_)
  · refine l_iconst rfl ?_
    refine l_iconst rfl ?_
    refine l_aload_n rfl rfl ?_
    refine l_gfr rfl rfl rfl rfl rfl (hH.r 904 67 950 rfl) ?_
    refine l_iload_n rfl rfl ?_
    refine l_iaload (n := 2600) rfl rfl (by omega) (by omega) (by unfold rg; omega) ?_
    have w57 : 0 ≤ (Xi S 950 ((rn).toNat)) ∧ (Xi S 950 ((rn).toNat)) ≤ 5010 := hH.c _ _
    refine l_callV rfl rfl rfl (t_mo_need hH 0 4 (Xi S 950 ((rn).toNat)) ⟨by omega, by omega⟩ ⟨by omega, by omega⟩ ⟨by omega, by omega⟩ _) ?_
    rintro _ T2 ⟨hHT2, w64, rfl, w61, w62⟩
    have hFT2 : FR md_mo_propertyMeant__2 S T2 := FR.tr hF w64 rfl
    show Rl _ _ _ _ _ [] _ _
    have w65 : 0 ≤ Xi T2 904 106 ∧ Xi T2 904 106 ≤ 9 := hHT2.c _ _
    have w66 : Xi T2 904 115 = Xi S 904 115 := (show Xi T2 904 115 = Xi S 904 115 from w64.x _ _ rfl)
    have w68 : Xi T2 904 116 = Xi S 904 116 := (show Xi T2 904 116 = Xi S 904 116 from w64.x _ _ rfl)
    exact Rl_weak (C48 T2 hHT2 hFT2 (z54) (by omega) (by omega) (by omega) (by omega) (by omega) (by omega)) (And.intro rfl (And.intro rfl (And.intro rfl (True.intro))))
  · refine l_iload_n rfl rfl ?_
    refine l_bipush rfl rfl ?_
    refine l_icmp_eq rfl rfl (by unfold rg; omega) (by unfold rg; omega) (fun w70 => ?_) (fun w71 => ?_)
    · refine l_iconst rfl ?_
      refine l_goto rfl rfl ?_
      refine l_iconst rfl ?_
      refine l_aload_n rfl rfl ?_
      refine l_gfr rfl rfl rfl rfl rfl (hH.r 904 67 950 rfl) ?_
      refine l_iload_n rfl rfl ?_
      refine l_iaload (n := 2600) rfl rfl (by omega) (by omega) (by unfold rg; omega) ?_
      have w72 : 0 ≤ (Xi S 950 ((rn).toNat)) ∧ (Xi S 950 ((rn).toNat)) ≤ 5010 := hH.c _ _
      refine l_callV rfl rfl rfl (t_mo_need hH 1 4 (Xi S 950 ((rn).toNat)) ⟨by omega, by omega⟩ ⟨by omega, by omega⟩ ⟨by omega, by omega⟩ _) ?_
      rintro _ T3 ⟨hHT3, w79, rfl, w76, w77⟩
      have hFT3 : FR md_mo_propertyMeant__2 S T3 := FR.tr hF w79 rfl
      show Rl _ _ _ _ _ [] _ _
      have w80 : 0 ≤ Xi T3 904 106 ∧ Xi T3 904 106 ≤ 9 := hHT3.c _ _
      have w81 : Xi T3 904 115 = Xi S 904 115 := (show Xi T3 904 115 = Xi S 904 115 from w79.x _ _ rfl)
      have w83 : Xi T3 904 116 = Xi S 904 116 := (show Xi T3 904 116 = Xi S 904 116 from w79.x _ _ rfl)
      exact Rl_weak (C48 T3 hHT3 hFT3 (z54) (by omega) (by omega) (by omega) (by omega) (by omega) (by omega)) (And.intro rfl (And.intro rfl (And.intro rfl (True.intro))))
    · refine l_aload_n rfl rfl ?_
      refine l_aload_n rfl rfl ?_
      refine l_iload_n rfl rfl ?_
      refine l_callV rfl rfl rfl (t_mo_kindOfThing__2 hH th ⟨by omega, by omega⟩ (by first | assumption | omega) _) ?_
      rintro _ _ ⟨rfl, z89, rfl, w89, w88⟩
      show Rl _ _ _ _ _ [iv z89, .ref 904, .ref 904] _ _
      have k23 : z89 = ktR S th := ktR_i (by assumption) (by omega)
      refine l_iload_n rfl rfl ?_
      refine l_callV rfl rfl rfl (t_mo_has__2 hH z89 z54 ⟨by omega, by omega⟩ ⟨by omega, by omega⟩ (by first | assumption | exact (ABV_FR hF rfl (by assumption : ABV S))) _) ?_
      rintro _ _ ⟨rfl, z95, rfl, w95, w93, w94⟩
      show Rl _ _ _ _ _ [iv z95, .ref 904] _ _
      have h27 : z95 = hsR S (ktR S th) z54 := by rw [← k23]; assumption
      refine l_if_eq rfl rfl (by unfold rg; omega) (fun w96 => ?_) (fun w97 => ?_)
      · refine l_iconst rfl ?_
        refine l_iconst rfl ?_
        refine l_aload_n rfl rfl ?_
        refine l_gfr rfl rfl rfl rfl rfl (hH.r 904 67 950 rfl) ?_
        refine l_iload_n rfl rfl ?_
        refine l_iaload (n := 2600) rfl rfl (by omega) (by omega) (by unfold rg; omega) ?_
        have w98 : 0 ≤ (Xi S 950 ((rn).toNat)) ∧ (Xi S 950 ((rn).toNat)) ≤ 5010 := hH.c _ _
        refine l_callV rfl rfl rfl (t_mo_need hH 0 4 (Xi S 950 ((rn).toNat)) ⟨by omega, by omega⟩ ⟨by omega, by omega⟩ ⟨by omega, by omega⟩ _) ?_
        rintro _ T4 ⟨hHT4, w105, rfl, w102, w103⟩
        have hFT4 : FR md_mo_propertyMeant__2 S T4 := FR.tr hF w105 rfl
        show Rl _ _ _ _ _ [] _ _
        have w106 : 0 ≤ Xi T4 904 106 ∧ Xi T4 904 106 ≤ 9 := hHT4.c _ _
        have w107 : Xi T4 904 115 = Xi S 904 115 := (show Xi T4 904 115 = Xi S 904 115 from w105.x _ _ rfl)
        have w109 : Xi T4 904 116 = Xi S 904 116 := (show Xi T4 904 116 = Xi S 904 116 from w105.x _ _ rfl)
        exact Rl_weak (C48 T4 hHT4 hFT4 (z54) (by omega) (by omega) (by omega) (by omega) (by omega) (by omega)) (And.intro rfl (And.intro rfl (And.intro rfl (True.intro))))
      · refine l_iconst rfl ?_
        refine l_goto rfl rfl ?_
        refine l_iconst rfl ?_
        refine l_aload_n rfl rfl ?_
        refine l_gfr rfl rfl rfl rfl rfl (hH.r 904 67 950 rfl) ?_
        refine l_iload_n rfl rfl ?_
        refine l_iaload (n := 2600) rfl rfl (by omega) (by omega) (by unfold rg; omega) ?_
        have w111 : 0 ≤ (Xi S 950 ((rn).toNat)) ∧ (Xi S 950 ((rn).toNat)) ≤ 5010 := hH.c _ _
        refine l_callV rfl rfl rfl (t_mo_need hH 1 4 (Xi S 950 ((rn).toNat)) ⟨by omega, by omega⟩ ⟨by omega, by omega⟩ ⟨by omega, by omega⟩ _) ?_
        rintro _ T5 ⟨hHT5, w118, rfl, w115, w116⟩
        have hFT5 : FR md_mo_propertyMeant__2 S T5 := FR.tr hF w118 rfl
        show Rl _ _ _ _ _ [] _ _
        have w119 : 0 ≤ Xi T5 904 106 ∧ Xi T5 904 106 ≤ 9 := hHT5.c _ _
        have w120 : Xi T5 904 115 = Xi S 904 115 := (show Xi T5 904 115 = Xi S 904 115 from w118.x _ _ rfl)
        have w122 : Xi T5 904 116 = Xi S 904 116 := (show Xi T5 904 116 = Xi S 904 116 from w118.x _ _ rfl)
        exact Rl_weak (C48 T5 hHT5 hFT5 (z54) (by omega) (by omega) (by omega) (by omega) (by omega) (by omega)) (And.intro rfl (And.intro rfl (And.intro rfl (True.intro))))
def md_mo_actings : List rec := [(904, 905, 128, 129), (904, 905, 129, 130)]
abbrev Q_mo_actings (S : sS) (n : Nat) (rn : Int) (isTry : Int) : pst := fun r S1 => HI S1 ∧ FR md_mo_actings S S1 ∧ (∃ z : Int, r = some (iv z) ∧ (0 ≤ z ∧ z ≤ 4) ∧ (1 ≤ z → (0 ≤ Xi S1 904 128 ∧ Xi S1 904 128 < Xi S 904 49) ∧ (Xi S1 904 129 < Xi S 904 19) ∧ (Xi S1 904 129 ≠ -1 → 0 ≤ Xi S 942 (Xi S1 904 128).toNat) ∧ (isTry ≠ 0 → Xi S1 904 129 = -1 → Xi S 942 (Xi S1 904 128).toNat < 0)))
set_option maxRecDepth 100000 in
theorem t_mo_actings {S : sS} (hH : HI S) (n : Nat) (rn : Int) (isTry : Int) (hrn : 0 ≤ rn ∧ rn ≤ 2599) (hisTry : 0 ≤ isTry ∧ isTry ≤ 1) (hT : TK S n) (hv : RNV S n) (hrr : rn < Xi S 904 69) (hM : LXM S) (hB : ABV S) (d : Nat) : Mt lay0 (d + 4) m_mo_actings [.ref 904, iv rn, iv isTry] S (Q_mo_actings S n rn isTry) := by
  refine Mt_R rfl rfl ?_
  have hF : FR md_mo_actings S S := FR.rf
  have w1 : 0 ≤ Xi S 904 128 ∧ Xi S 904 128 ≤ 11 := hH.c _ _
  have w2 : -1 ≤ Xi S 904 129 ∧ Xi S 904 129 ≤ 23 := hH.c _ _
  have w3 : 0 ≤ Xi S 904 19 ∧ Xi S 904 19 ≤ 24 := hH.c _ _
  have w4 : 0 ≤ Xi S 904 49 ∧ Xi S 904 49 ≤ 12 := hH.c _ _
  have w5 : 0 ≤ Xi S 904 69 ∧ Xi S 904 69 ≤ 2600 := hH.c _ _
  have hn5 := hT.1
  have hq := hv rn.toNat (by omega)
  have hq0 : 0 ≤ Xi S 950 rn.toNat ∧ Xi S 950 rn.toNat ≤ 5010 := hH.c 950 rn.toNat
  have hc69 : 0 ≤ Xi S 904 69 ∧ Xi S 904 69 ≤ 2600 := hH.c _ _
  have hc49 : 0 ≤ Xi S 904 49 ∧ Xi S 904 49 ≤ 12 := hH.c _ _
  have hc19 : 0 ≤ Xi S 904 19 ∧ Xi S 904 19 ≤ 24 := hH.c _ _
  have hq1 : 0 ≤ Xi S 951 rn.toNat ∧ Xi S 951 rn.toNat ≤ 5010 := hH.c 951 rn.toNat
  have C64 : ∀  (T1 : sS) (_ : HI T1) (_ : FR md_mo_actings S T1) (v3 : Int) (v4 : Int) (v5 : Int), (0 ≤ v3 ∧ v3 ≤ 5010) → (0 ≤ v4 ∧ v4 ≤ 5010) → (0 ≤ v5 ∧ v5 ≤ 1) → (v3 = Xi S 950 rn.toNat) → (v4 = Xi S 951 rn.toNat) → (v5 ≤ 1) → (1 ≤ v5 → (0 ≤ Xi T1 904 128 ∧ Xi T1 904 128 < Xi S 904 49) ∧ (Xi T1 904 129 < Xi S 904 19) ∧ (Xi T1 904 129 ≠ -1 → 0 ≤ Xi S 942 (Xi T1 904 128).toNat) ∧ (isTry ≠ 0 → Xi T1 904 129 = -1 → Xi S 942 (Xi T1 904 128).toNat < 0)) → Rl lay0 (d + 3) m_mo_actings 64 [(0, .ref 904), (2, iv isTry), (3, iv v3), (4, iv v4), (5, iv v5)] [] T1 (Q_mo_actings S n rn isTry) := by
    intro T1 hHT1 hFT1 v3 v4 v5 w6 w7 w8 w9 w10 w11 E64
    have w12 : Xi T1 904 19 = Xi S 904 19 := hFT1.x _ _ rfl
    have w13 : Xi T1 904 49 = Xi S 904 49 := hFT1.x _ _ rfl
    have w14 : Xi T1 904 69 = Xi S 904 69 := hFT1.x _ _ rfl
    have w15 : 0 ≤ Xi T1 904 128 ∧ Xi T1 904 128 ≤ 11 := hHT1.c _ _
    have w16 : -1 ≤ Xi T1 904 129 ∧ Xi T1 904 129 ≤ 23 := hHT1.c _ _
    have C67 : ∀ (n67 : Nat) (T2 : sS) (_ : HI T2) (_ : FR md_mo_actings S T2) (v3 : Int) (v4 : Int) (v5 : Int) (v7 : Int), (0 ≤ v3 ∧ v3 ≤ 5010) → (0 ≤ v4 ∧ v4 ≤ 5010) → (0 ≤ v5 ∧ v5 ≤ 4) → (1 ≤ v7 ∧ v7 ≤ 4) → (v3 = Xi S 950 rn.toNat) → (v4 = Xi S 951 rn.toNat) → (1 ≤ v7) → (v5 ≤ v7) → (1 ≤ v5 → (0 ≤ Xi T2 904 128 ∧ Xi T2 904 128 < Xi S 904 49) ∧ (Xi T2 904 129 < Xi S 904 19) ∧ (Xi T2 904 129 ≠ -1 → 0 ≤ Xi S 942 (Xi T2 904 128).toNat) ∧ (isTry ≠ 0 → Xi T2 904 129 = -1 → Xi S 942 (Xi T2 904 128).toNat < 0)) → n67 = (5 - v7).toNat → Rl lay0 (d + 3) m_mo_actings 67 [(0, .ref 904), (2, iv isTry), (3, iv v3), (4, iv v4), (5, iv v5), (7, iv v7)] [] T2 (Q_mo_actings S n rn isTry) := by
      intro n67
      induction n67 using Nat.strongRecOn with
      | ind n67 ih67 =>
        intro T2 hHT2 hFT2 v3 v4 v5 v7 w17 w18 w19 w20 w21 w22 w23 w24 E67 hm67
        have w25 : Xi T2 904 19 = Xi S 904 19 := hFT2.x _ _ rfl
        have w26 : Xi T2 904 49 = Xi S 904 49 := hFT2.x _ _ rfl
        have w27 : Xi T2 904 69 = Xi S 904 69 := hFT2.x _ _ rfl
        have w28 : 0 ≤ Xi T2 904 128 ∧ Xi T2 904 128 ≤ 11 := hHT2.c _ _
        have w29 : -1 ≤ Xi T2 904 129 ∧ Xi T2 904 129 ≤ 23 := hHT2.c _ _
        have C107 : ∀  (T3 : sS) (_ : HI T3) (_ : FR md_mo_actings S T3) (v3 : Int) (v4 : Int) (v5 : Int) (v6 : Int) (v7 : Int) (v8 : Int), (0 ≤ v3 ∧ v3 ≤ 5010) → (2 ≤ v4 ∧ v4 ≤ 5010) → (0 ≤ v5 ∧ v5 ≤ 4) → (-1 ≤ v6 ∧ v6 ≤ 11) → (1 ≤ v7 ∧ v7 ≤ 3) → (-1 ≤ v8 ∧ v8 ≤ 23) → (v3 = Xi S 950 rn.toNat) → (v4 = Xi S 951 rn.toNat) → (1 ≤ v7) → (v7 ≤ 3) → (v7 < Xi S 951 rn.toNat) → (v5 ≤ v7) → (v6 ≠ -1 → v6 < Xi S 904 49) → (v8 ≠ -1 → v8 < Xi S 904 19) → (1 ≤ v5 → (0 ≤ Xi T3 904 128 ∧ Xi T3 904 128 < Xi S 904 49) ∧ (Xi T3 904 129 < Xi S 904 19) ∧ (Xi T3 904 129 ≠ -1 → 0 ≤ Xi S 942 (Xi T3 904 128).toNat) ∧ (isTry ≠ 0 → Xi T3 904 129 = -1 → Xi S 942 (Xi T3 904 128).toNat < 0)) → ((5 - v7).toNat ≤ n67) → Rl lay0 (d + 3) m_mo_actings 107 [(0, .ref 904), (2, iv isTry), (3, iv v3), (4, iv v4), (5, iv v5), (6, iv v6), (7, iv v7), (8, iv v8)] [] T3 (Q_mo_actings S n rn isTry) := by
          intro T3 hHT3 hFT3 v3 v4 v5 v6 v7 v8 w30 w31 w32 w33 w34 w35 w36 w37 w38 w39 w40 w41 w42 w43 E107 w44
          have w45 : Xi T3 904 19 = Xi S 904 19 := hFT3.x _ _ rfl
          have w46 : Xi T3 904 49 = Xi S 904 49 := hFT3.x _ _ rfl
          have w47 : Xi T3 904 69 = Xi S 904 69 := hFT3.x _ _ rfl
          have w48 : 0 ≤ Xi T3 904 128 ∧ Xi T3 904 128 ≤ 11 := hHT3.c _ _
          have w49 : -1 ≤ Xi T3 904 129 ∧ Xi T3 904 129 ≤ 23 := hHT3.c _ _
          have C193 : ∀  (T4 : sS) (_ : HI T4) (_ : FR md_mo_actings S T4) (v3 : Int) (v4 : Int) (v5 : Int) (v7 : Int), (0 ≤ v3 ∧ v3 ≤ 5010) → (2 ≤ v4 ∧ v4 ≤ 5010) → (0 ≤ v5 ∧ v5 ≤ 4) → (1 ≤ v7 ∧ v7 ≤ 3) → (v3 = Xi S 950 rn.toNat) → (v4 = Xi S 951 rn.toNat) → (1 ≤ v7) → (v7 ≤ 3) → (v5 ≤ v7 + 1) → (1 ≤ v5 → (0 ≤ Xi T4 904 128 ∧ Xi T4 904 128 < Xi S 904 49) ∧ (Xi T4 904 129 < Xi S 904 19) ∧ (Xi T4 904 129 ≠ -1 → 0 ≤ Xi S 942 (Xi T4 904 128).toNat) ∧ (isTry ≠ 0 → Xi T4 904 129 = -1 → Xi S 942 (Xi T4 904 128).toNat < 0)) → ((5 - v7).toNat ≤ n67) → Rl lay0 (d + 3) m_mo_actings 193 [(0, .ref 904), (2, iv isTry), (3, iv v3), (4, iv v4), (5, iv v5), (7, iv v7)] [] T4 (Q_mo_actings S n rn isTry) := by
            intro T4 hHT4 hFT4 v3 v4 v5 v7 w50 w51 w52 w53 w54 w55 w56 w57 w58 E193 w59
            have w60 : Xi T4 904 19 = Xi S 904 19 := hFT4.x _ _ rfl
            have w61 : Xi T4 904 49 = Xi S 904 49 := hFT4.x _ _ rfl
            have w62 : Xi T4 904 69 = Xi S 904 69 := hFT4.x _ _ rfl
            have w63 : 0 ≤ Xi T4 904 128 ∧ Xi T4 904 128 ≤ 11 := hHT4.c _ _
            have w64 : -1 ≤ Xi T4 904 129 ∧ Xi T4 904 129 ≤ 23 := hHT4.c _ _
            refine l_iinc rfl rfl rfl rfl ?_
            refine l_goto rfl rfl ?_
            exact Rl_weak (ih67 _ (by omega) T4 hHT4 hFT4 (v3) (v4) (v5) ((v7 + 1)) (by omega) (by omega) (by omega) (by omega) (by omega) (by omega) (by omega) (by omega) (by first | exact E64 | exact E193) rfl) (And.intro rfl (And.intro rfl (And.intro rfl (And.intro rfl (And.intro rfl (And.intro rfl (True.intro)))))))
          refine l_iload rfl rfl ?_
          refine l_iconst rfl ?_
          refine l_icmp_eq rfl rfl (by unfold rg; omega) (by unfold rg; omega) (fun w67 => ?_) (fun w68 => ?_)
          · have w69 : 0 ≤ Xi T3 904 128 ∧ Xi T3 904 128 ≤ 11 := hHT3.c _ _
            exact Rl_weak (C193 T3 hHT3 hFT3 (v3) (v4) (v5) (v7) (by omega) (by omega) (by omega) (by omega) (by omega) (by omega) (by omega) (by omega) (by omega) (by first | exact a187 | exact E107) (by omega)) (And.intro rfl (And.intro rfl (And.intro rfl (And.intro rfl (And.intro rfl (And.intro rfl (True.intro)))))))
          · refine l_iload rfl rfl ?_
            refine l_iconst rfl ?_
            refine l_icmp_eq rfl rfl (by unfold rg; omega) (by unfold rg; omega) (fun w71 => ?_) (fun w72 => ?_)
            · have w73 : 0 ≤ Xi T3 904 128 ∧ Xi T3 904 128 ≤ 11 := hHT3.c _ _
              exact Rl_weak (C193 T3 hHT3 hFT3 (v3) (v4) (v5) (v7) (by omega) (by omega) (by omega) (by omega) (by omega) (by omega) (by omega) (by omega) (by omega) (by first | exact a187 | exact E107) (by omega)) (And.intro rfl (And.intro rfl (And.intro rfl (And.intro rfl (And.intro rfl (And.intro rfl (True.intro)))))))
            · refine l_aload_n rfl rfl ?_
              refine l_gfr rfl rfl rfl rfl rfl (hHT3.r 904 50 942 rfl) ?_
              refine l_iload rfl rfl ?_
              refine l_iaload (n := 12) rfl rfl (by omega) (by omega) (by unfold rg; omega) ?_
              have w75 : -2 ≤ (Xi T3 942 ((v6).toNat)) ∧ (Xi T3 942 ((v6).toNat)) ≤ 15 := hHT3.c _ _
              have e125 : (Xi T3 942 ((v6).toNat)) = Xi S 942 (v6).toNat := by first | rfl | exact (hFT3.cx 942 rfl _).1
              refine l_if_lt rfl rfl (by unfold rg; omega) (fun w76 => ?_) (fun w77 => ?_)
              · have w78 : 0 ≤ Xi T3 904 128 ∧ Xi T3 904 128 ≤ 11 := hHT3.c _ _
                exact Rl_weak (C193 T3 hHT3 hFT3 (v3) (v4) (v5) (v7) (by omega) (by omega) (by omega) (by omega) (by omega) (by omega) (by omega) (by omega) (by omega) (by first | exact a187 | exact E107) (by omega)) (And.intro rfl (And.intro rfl (And.intro rfl (And.intro rfl (And.intro rfl (And.intro rfl (True.intro)))))))
              · refine l_iload_n rfl rfl ?_
                refine l_if_ne rfl rfl (by unfold rg; omega) (fun w80 => ?_) (fun w81 => ?_)
                · refine l_aload_n rfl rfl ?_
                  refine l_iload rfl rfl ?_
                  refine l_if_ne rfl rfl (by unfold rg; omega) (fun w82 => ?_) (fun w83 => ?_)
                  · refine l_aload_n rfl rfl ?_
                    refine l_gfi rfl rfl rfl rfl rfl ?_
                    refine l_pfi rfl rfl rfl rfl ?_
                    obtain ⟨U5, eU5⟩ : ∃ T : sS, T = uI T3 904 128 (Int32.ofInt (Xi T3 904 128)) := ⟨_, rfl⟩
                    rw [← eU5]
                    have hHU5 : HI U5 := by rw [eU5]; exact HI_w hHT3 (show 0 ≤ (Xi T3 904 128) by omega) (show (Xi T3 904 128) ≤ 11 by omega)
                    have hFU5 : FR md_mo_actings S U5 := by rw [eU5]; exact FR.wI hFT3 (mdf_i (r := (904, 905, 128, 129)) (List.mem_of_getElem? (i := 0) rfl) (inR_i (by omega) (by omega) (by omega) (by omega)))
                    have w84 : Xi U5 904 128 = (Xi T3 904 128) := by rw [eU5]; exact Xi_same (by unfold rg; omega)
                    refine l_aload_n rfl rfl ?_
                    refine l_iload rfl rfl ?_
                    refine l_if_ne rfl rfl (by unfold rg; omega) (fun w85 => ?_) (fun w86 => ?_)
                    · refine l_aload_n rfl rfl ?_
                      refine l_gfi rfl rfl rfl rfl rfl ?_
                      have w87 : (Xi U5 904 129) = (Xi T3 904 129) := (show Xi U5 904 129 = Xi T3 904 129 from by rw [eU5]; exact Xi_ne (by omega))
                      rw [w87]
                      refine l_pfi rfl rfl rfl rfl ?_
                      obtain ⟨U6, eU6⟩ : ∃ T : sS, T = uI U5 904 129 (Int32.ofInt (Xi T3 904 129)) := ⟨_, rfl⟩
                      rw [← eU6]
                      have hHU6 : HI U6 := by rw [eU6]; exact HI_w hHU5 (show -1 ≤ (Xi T3 904 129) by omega) (show (Xi T3 904 129) ≤ 23 by omega)
                      have hFU6 : FR md_mo_actings S U6 := by rw [eU6]; exact FR.wI hFU5 (mdf_i (r := (904, 905, 129, 130)) (List.mem_of_getElem? (i := 1) rfl) (inR_i (by omega) (by omega) (by omega) (by omega)))
                      have w88 : Xi U6 904 129 = (Xi T3 904 129) := by rw [eU6]; exact Xi_same (by unfold rg; omega)
                      have t187 : Xi U6 904 128 = Xi U5 904 128 := by rw [eU6, Xi_ne (by omega)]
                      have a187 : 1 ≤ v5 + 1 → (0 ≤ Xi U6 904 128 ∧ Xi U6 904 128 < Xi S 904 49) ∧ (Xi U6 904 129 < Xi S 904 19) ∧ (Xi U6 904 129 ≠ -1 → 0 ≤ Xi S 942 (Xi U6 904 128).toNat) ∧ (isTry ≠ 0 → Xi U6 904 129 = -1 → Xi S 942 (Xi U6 904 128).toNat < 0) := by first | (intro _; rw [show Xi U6 904 128 = v6 by omega]; refine ⟨⟨by omega, by omega⟩, by omega, fun _ => by omega, fun _ _ => by omega⟩) | (intro _; have h := E107 (by omega); rw [show Xi U6 904 128 = Xi T3 904 128 by omega, show Xi U6 904 129 = Xi T3 904 129 by omega]; exact h)
                      refine l_iinc rfl rfl rfl rfl ?_
                      have w89 : Xi U6 904 128 = Xi U5 904 128 := (show Xi U6 904 128 = Xi U5 904 128 from by rw [eU6]; exact Xi_ne (by omega))
                      have w90 : 0 ≤ Xi U5 904 128 ∧ Xi U5 904 128 ≤ 11 := hHU5.c _ _
                      have w91 : -1 ≤ Xi U6 904 129 ∧ Xi U6 904 129 ≤ 23 := hHU6.c _ _
                      exact Rl_weak (C193 U6 hHU6 hFU6 (v3) (v4) ((v5 + 1)) (v7) (by omega) (by omega) (by omega) (by omega) (by omega) (by omega) (by omega) (by omega) (by omega) (by first | exact a187 | exact E107) (by omega)) (And.intro rfl (And.intro rfl (And.intro rfl (And.intro rfl (And.intro rfl (And.intro rfl (True.intro)))))))
                    · refine l_iload rfl rfl ?_
                      refine l_goto rfl rfl ?_
                      refine l_pfi rfl rfl rfl rfl ?_
                      obtain ⟨U7, eU7⟩ : ∃ T : sS, T = uI U5 904 129 (Int32.ofInt v8) := ⟨_, rfl⟩
                      rw [← eU7]
                      have hHU7 : HI U7 := by rw [eU7]; exact HI_w hHU5 (show -1 ≤ v8 by omega) (show v8 ≤ 23 by omega)
                      have hFU7 : FR md_mo_actings S U7 := by rw [eU7]; exact FR.wI hFU5 (mdf_i (r := (904, 905, 129, 130)) (List.mem_of_getElem? (i := 1) rfl) (inR_i (by omega) (by omega) (by omega) (by omega)))
                      have w92 : Xi U7 904 129 = v8 := by rw [eU7]; exact Xi_same (by unfold rg; omega)
                      have t187 : Xi U7 904 128 = Xi U5 904 128 := by rw [eU7, Xi_ne (by omega)]
                      have a187 : 1 ≤ v5 + 1 → (0 ≤ Xi U7 904 128 ∧ Xi U7 904 128 < Xi S 904 49) ∧ (Xi U7 904 129 < Xi S 904 19) ∧ (Xi U7 904 129 ≠ -1 → 0 ≤ Xi S 942 (Xi U7 904 128).toNat) ∧ (isTry ≠ 0 → Xi U7 904 129 = -1 → Xi S 942 (Xi U7 904 128).toNat < 0) := by first | (intro _; rw [show Xi U7 904 128 = v6 by omega]; refine ⟨⟨by omega, by omega⟩, by omega, fun _ => by omega, fun _ _ => by omega⟩) | (intro _; have h := E107 (by omega); rw [show Xi U7 904 128 = Xi T3 904 128 by omega, show Xi U7 904 129 = Xi T3 904 129 by omega]; exact h)
                      refine l_iinc rfl rfl rfl rfl ?_
                      have w93 : Xi U7 904 128 = Xi U5 904 128 := (show Xi U7 904 128 = Xi U5 904 128 from by rw [eU7]; exact Xi_ne (by omega))
                      have w94 : 0 ≤ Xi U5 904 128 ∧ Xi U5 904 128 ≤ 11 := hHU5.c _ _
                      have w95 : -1 ≤ Xi U7 904 129 ∧ Xi U7 904 129 ≤ 23 := hHU7.c _ _
                      exact Rl_weak (C193 U7 hHU7 hFU7 (v3) (v4) ((v5 + 1)) (v7) (by omega) (by omega) (by omega) (by omega) (by omega) (by omega) (by omega) (by omega) (by omega) (by first | exact a187 | exact E107) (by omega)) (And.intro rfl (And.intro rfl (And.intro rfl (And.intro rfl (And.intro rfl (And.intro rfl (True.intro)))))))
                  · refine l_iload rfl rfl ?_
                    refine l_goto rfl rfl ?_
                    refine l_pfi rfl rfl rfl rfl ?_
                    obtain ⟨U8, eU8⟩ : ∃ T : sS, T = uI T3 904 128 (Int32.ofInt v6) := ⟨_, rfl⟩
                    rw [← eU8]
                    have hHU8 : HI U8 := by rw [eU8]; exact HI_w hHT3 (show 0 ≤ v6 by omega) (show v6 ≤ 11 by omega)
                    have hFU8 : FR md_mo_actings S U8 := by rw [eU8]; exact FR.wI hFT3 (mdf_i (r := (904, 905, 128, 129)) (List.mem_of_getElem? (i := 0) rfl) (inR_i (by omega) (by omega) (by omega) (by omega)))
                    have w96 : Xi U8 904 128 = v6 := by rw [eU8]; exact Xi_same (by unfold rg; omega)
                    refine l_aload_n rfl rfl ?_
                    refine l_iload rfl rfl ?_
                    refine l_if_ne rfl rfl (by unfold rg; omega) (fun w97 => ?_) (fun w98 => ?_)
                    · refine l_aload_n rfl rfl ?_
                      refine l_gfi rfl rfl rfl rfl rfl ?_
                      have w99 : (Xi U8 904 129) = (Xi T3 904 129) := (show Xi U8 904 129 = Xi T3 904 129 from by rw [eU8]; exact Xi_ne (by omega))
                      rw [w99]
                      refine l_pfi rfl rfl rfl rfl ?_
                      obtain ⟨U9, eU9⟩ : ∃ T : sS, T = uI U8 904 129 (Int32.ofInt (Xi T3 904 129)) := ⟨_, rfl⟩
                      rw [← eU9]
                      have hHU9 : HI U9 := by rw [eU9]; exact HI_w hHU8 (show -1 ≤ (Xi T3 904 129) by omega) (show (Xi T3 904 129) ≤ 23 by omega)
                      have hFU9 : FR md_mo_actings S U9 := by rw [eU9]; exact FR.wI hFU8 (mdf_i (r := (904, 905, 129, 130)) (List.mem_of_getElem? (i := 1) rfl) (inR_i (by omega) (by omega) (by omega) (by omega)))
                      have w100 : Xi U9 904 129 = (Xi T3 904 129) := by rw [eU9]; exact Xi_same (by unfold rg; omega)
                      have t187 : Xi U9 904 128 = Xi U8 904 128 := by rw [eU9, Xi_ne (by omega)]
                      have a187 : 1 ≤ v5 + 1 → (0 ≤ Xi U9 904 128 ∧ Xi U9 904 128 < Xi S 904 49) ∧ (Xi U9 904 129 < Xi S 904 19) ∧ (Xi U9 904 129 ≠ -1 → 0 ≤ Xi S 942 (Xi U9 904 128).toNat) ∧ (isTry ≠ 0 → Xi U9 904 129 = -1 → Xi S 942 (Xi U9 904 128).toNat < 0) := by first | (intro _; rw [show Xi U9 904 128 = v6 by omega]; refine ⟨⟨by omega, by omega⟩, by omega, fun _ => by omega, fun _ _ => by omega⟩) | (intro _; have h := E107 (by omega); rw [show Xi U9 904 128 = Xi T3 904 128 by omega, show Xi U9 904 129 = Xi T3 904 129 by omega]; exact h)
                      refine l_iinc rfl rfl rfl rfl ?_
                      have w101 : Xi U9 904 128 = Xi U8 904 128 := (show Xi U9 904 128 = Xi U8 904 128 from by rw [eU9]; exact Xi_ne (by omega))
                      have w102 : 0 ≤ Xi U8 904 128 ∧ Xi U8 904 128 ≤ 11 := hHU8.c _ _
                      have w103 : -1 ≤ Xi U9 904 129 ∧ Xi U9 904 129 ≤ 23 := hHU9.c _ _
                      exact Rl_weak (C193 U9 hHU9 hFU9 (v3) (v4) ((v5 + 1)) (v7) (by omega) (by omega) (by omega) (by omega) (by omega) (by omega) (by omega) (by omega) (by omega) (by first | exact a187 | exact E107) (by omega)) (And.intro rfl (And.intro rfl (And.intro rfl (And.intro rfl (And.intro rfl (And.intro rfl (True.intro)))))))
                    · refine l_iload rfl rfl ?_
                      refine l_goto rfl rfl ?_
                      refine l_pfi rfl rfl rfl rfl ?_
                      obtain ⟨U10, eU10⟩ : ∃ T : sS, T = uI U8 904 129 (Int32.ofInt v8) := ⟨_, rfl⟩
                      rw [← eU10]
                      have hHU10 : HI U10 := by rw [eU10]; exact HI_w hHU8 (show -1 ≤ v8 by omega) (show v8 ≤ 23 by omega)
                      have hFU10 : FR md_mo_actings S U10 := by rw [eU10]; exact FR.wI hFU8 (mdf_i (r := (904, 905, 129, 130)) (List.mem_of_getElem? (i := 1) rfl) (inR_i (by omega) (by omega) (by omega) (by omega)))
                      have w104 : Xi U10 904 129 = v8 := by rw [eU10]; exact Xi_same (by unfold rg; omega)
                      have t187 : Xi U10 904 128 = Xi U8 904 128 := by rw [eU10, Xi_ne (by omega)]
                      have a187 : 1 ≤ v5 + 1 → (0 ≤ Xi U10 904 128 ∧ Xi U10 904 128 < Xi S 904 49) ∧ (Xi U10 904 129 < Xi S 904 19) ∧ (Xi U10 904 129 ≠ -1 → 0 ≤ Xi S 942 (Xi U10 904 128).toNat) ∧ (isTry ≠ 0 → Xi U10 904 129 = -1 → Xi S 942 (Xi U10 904 128).toNat < 0) := by first | (intro _; rw [show Xi U10 904 128 = v6 by omega]; refine ⟨⟨by omega, by omega⟩, by omega, fun _ => by omega, fun _ _ => by omega⟩) | (intro _; have h := E107 (by omega); rw [show Xi U10 904 128 = Xi T3 904 128 by omega, show Xi U10 904 129 = Xi T3 904 129 by omega]; exact h)
                      refine l_iinc rfl rfl rfl rfl ?_
                      have w105 : Xi U10 904 128 = Xi U8 904 128 := (show Xi U10 904 128 = Xi U8 904 128 from by rw [eU10]; exact Xi_ne (by omega))
                      have w106 : 0 ≤ Xi U8 904 128 ∧ Xi U8 904 128 ≤ 11 := hHU8.c _ _
                      have w107 : -1 ≤ Xi U10 904 129 ∧ Xi U10 904 129 ≤ 23 := hHU10.c _ _
                      exact Rl_weak (C193 U10 hHU10 hFU10 (v3) (v4) ((v5 + 1)) (v7) (by omega) (by omega) (by omega) (by omega) (by omega) (by omega) (by omega) (by omega) (by omega) (by first | exact a187 | exact E107) (by omega)) (And.intro rfl (And.intro rfl (And.intro rfl (And.intro rfl (And.intro rfl (And.intro rfl (True.intro)))))))
                · refine l_aload_n rfl rfl ?_
                  refine l_aload_n rfl rfl ?_
                  refine l_gfr rfl rfl rfl rfl rfl (hHT3.r 904 20 918 rfl) ?_
                  refine l_iload rfl rfl ?_
                  refine l_iaload (n := 24) rfl rfl (by omega) (by omega) (by unfold rg; omega) ?_
                  have w108 : 0 ≤ (Xi T3 918 ((v8).toNat)) ∧ (Xi T3 918 ((v8).toNat)) ≤ 15 := hHT3.c _ _
                  refine l_aload_n rfl rfl ?_
                  refine l_gfr rfl rfl rfl rfl rfl (hHT3.r 904 50 942 rfl) ?_
                  refine l_iload rfl rfl ?_
                  refine l_iaload (n := 12) rfl rfl (by omega) (by omega) (by unfold rg; omega) ?_
                  refine l_callV rfl rfl rfl (t_mo_isBelow hHT3 (Xi T3 918 ((v8).toNat)) (Xi T3 942 ((v6).toNat)) ⟨by omega, by omega⟩ ⟨by omega, by omega⟩ (by first | assumption | exact (ABV_FR hFT3 rfl (by assumption : ABV S))) _) ?_
                  rintro _ _ ⟨rfl, z112, rfl, w112, w111⟩
                  show Rl _ _ _ _ _ [iv z112] _ _
                  refine l_if_eq rfl rfl (by unfold rg; omega) (fun w113 => ?_) (fun w114 => ?_)
                  · have w115 : 0 ≤ Xi T3 904 128 ∧ Xi T3 904 128 ≤ 11 := hHT3.c _ _
                    exact Rl_weak (C193 T3 hHT3 hFT3 (v3) (v4) (v5) (v7) (by omega) (by omega) (by omega) (by omega) (by omega) (by omega) (by omega) (by omega) (by omega) (by first | exact a187 | exact E107) (by omega)) (And.intro rfl (And.intro rfl (And.intro rfl (And.intro rfl (And.intro rfl (And.intro rfl (True.intro)))))))
                  · refine l_aload_n rfl rfl ?_
                    refine l_iload rfl rfl ?_
                    refine l_if_ne rfl rfl (by unfold rg; omega) (fun w117 => ?_) (fun w118 => ?_)
                    · refine l_aload_n rfl rfl ?_
                      refine l_gfi rfl rfl rfl rfl rfl ?_
                      refine l_pfi rfl rfl rfl rfl ?_
                      obtain ⟨U11, eU11⟩ : ∃ T : sS, T = uI T3 904 128 (Int32.ofInt (Xi T3 904 128)) := ⟨_, rfl⟩
                      rw [← eU11]
                      have hHU11 : HI U11 := by rw [eU11]; exact HI_w hHT3 (show 0 ≤ (Xi T3 904 128) by omega) (show (Xi T3 904 128) ≤ 11 by omega)
                      have hFU11 : FR md_mo_actings S U11 := by rw [eU11]; exact FR.wI hFT3 (mdf_i (r := (904, 905, 128, 129)) (List.mem_of_getElem? (i := 0) rfl) (inR_i (by omega) (by omega) (by omega) (by omega)))
                      have w119 : Xi U11 904 128 = (Xi T3 904 128) := by rw [eU11]; exact Xi_same (by unfold rg; omega)
                      refine l_aload_n rfl rfl ?_
                      refine l_iload rfl rfl ?_
                      refine l_if_ne rfl rfl (by unfold rg; omega) (fun w120 => ?_) (fun w121 => ?_)
                      · refine l_aload_n rfl rfl ?_
                        refine l_gfi rfl rfl rfl rfl rfl ?_
                        have w122 : (Xi U11 904 129) = (Xi T3 904 129) := (show Xi U11 904 129 = Xi T3 904 129 from by rw [eU11]; exact Xi_ne (by omega))
                        rw [w122]
                        refine l_pfi rfl rfl rfl rfl ?_
                        obtain ⟨U12, eU12⟩ : ∃ T : sS, T = uI U11 904 129 (Int32.ofInt (Xi T3 904 129)) := ⟨_, rfl⟩
                        rw [← eU12]
                        have hHU12 : HI U12 := by rw [eU12]; exact HI_w hHU11 (show -1 ≤ (Xi T3 904 129) by omega) (show (Xi T3 904 129) ≤ 23 by omega)
                        have hFU12 : FR md_mo_actings S U12 := by rw [eU12]; exact FR.wI hFU11 (mdf_i (r := (904, 905, 129, 130)) (List.mem_of_getElem? (i := 1) rfl) (inR_i (by omega) (by omega) (by omega) (by omega)))
                        have w123 : Xi U12 904 129 = (Xi T3 904 129) := by rw [eU12]; exact Xi_same (by unfold rg; omega)
                        have t187 : Xi U12 904 128 = Xi U11 904 128 := by rw [eU12, Xi_ne (by omega)]
                        have a187 : 1 ≤ v5 + 1 → (0 ≤ Xi U12 904 128 ∧ Xi U12 904 128 < Xi S 904 49) ∧ (Xi U12 904 129 < Xi S 904 19) ∧ (Xi U12 904 129 ≠ -1 → 0 ≤ Xi S 942 (Xi U12 904 128).toNat) ∧ (isTry ≠ 0 → Xi U12 904 129 = -1 → Xi S 942 (Xi U12 904 128).toNat < 0) := by first | (intro _; rw [show Xi U12 904 128 = v6 by omega]; refine ⟨⟨by omega, by omega⟩, by omega, fun _ => by omega, fun _ _ => by omega⟩) | (intro _; have h := E107 (by omega); rw [show Xi U12 904 128 = Xi T3 904 128 by omega, show Xi U12 904 129 = Xi T3 904 129 by omega]; exact h)
                        refine l_iinc rfl rfl rfl rfl ?_
                        have w124 : Xi U12 904 128 = Xi U11 904 128 := (show Xi U12 904 128 = Xi U11 904 128 from by rw [eU12]; exact Xi_ne (by omega))
                        have w125 : 0 ≤ Xi U11 904 128 ∧ Xi U11 904 128 ≤ 11 := hHU11.c _ _
                        have w126 : -1 ≤ Xi U12 904 129 ∧ Xi U12 904 129 ≤ 23 := hHU12.c _ _
                        exact Rl_weak (C193 U12 hHU12 hFU12 (v3) (v4) ((v5 + 1)) (v7) (by omega) (by omega) (by omega) (by omega) (by omega) (by omega) (by omega) (by omega) (by omega) (by first | exact a187 | exact E107) (by omega)) (And.intro rfl (And.intro rfl (And.intro rfl (And.intro rfl (And.intro rfl (And.intro rfl (True.intro)))))))
                      · refine l_iload rfl rfl ?_
                        refine l_goto rfl rfl ?_
                        refine l_pfi rfl rfl rfl rfl ?_
                        obtain ⟨U13, eU13⟩ : ∃ T : sS, T = uI U11 904 129 (Int32.ofInt v8) := ⟨_, rfl⟩
                        rw [← eU13]
                        have hHU13 : HI U13 := by rw [eU13]; exact HI_w hHU11 (show -1 ≤ v8 by omega) (show v8 ≤ 23 by omega)
                        have hFU13 : FR md_mo_actings S U13 := by rw [eU13]; exact FR.wI hFU11 (mdf_i (r := (904, 905, 129, 130)) (List.mem_of_getElem? (i := 1) rfl) (inR_i (by omega) (by omega) (by omega) (by omega)))
                        have w127 : Xi U13 904 129 = v8 := by rw [eU13]; exact Xi_same (by unfold rg; omega)
                        have t187 : Xi U13 904 128 = Xi U11 904 128 := by rw [eU13, Xi_ne (by omega)]
                        have a187 : 1 ≤ v5 + 1 → (0 ≤ Xi U13 904 128 ∧ Xi U13 904 128 < Xi S 904 49) ∧ (Xi U13 904 129 < Xi S 904 19) ∧ (Xi U13 904 129 ≠ -1 → 0 ≤ Xi S 942 (Xi U13 904 128).toNat) ∧ (isTry ≠ 0 → Xi U13 904 129 = -1 → Xi S 942 (Xi U13 904 128).toNat < 0) := by first | (intro _; rw [show Xi U13 904 128 = v6 by omega]; refine ⟨⟨by omega, by omega⟩, by omega, fun _ => by omega, fun _ _ => by omega⟩) | (intro _; have h := E107 (by omega); rw [show Xi U13 904 128 = Xi T3 904 128 by omega, show Xi U13 904 129 = Xi T3 904 129 by omega]; exact h)
                        refine l_iinc rfl rfl rfl rfl ?_
                        have w128 : Xi U13 904 128 = Xi U11 904 128 := (show Xi U13 904 128 = Xi U11 904 128 from by rw [eU13]; exact Xi_ne (by omega))
                        have w129 : 0 ≤ Xi U11 904 128 ∧ Xi U11 904 128 ≤ 11 := hHU11.c _ _
                        have w130 : -1 ≤ Xi U13 904 129 ∧ Xi U13 904 129 ≤ 23 := hHU13.c _ _
                        exact Rl_weak (C193 U13 hHU13 hFU13 (v3) (v4) ((v5 + 1)) (v7) (by omega) (by omega) (by omega) (by omega) (by omega) (by omega) (by omega) (by omega) (by omega) (by first | exact a187 | exact E107) (by omega)) (And.intro rfl (And.intro rfl (And.intro rfl (And.intro rfl (And.intro rfl (And.intro rfl (True.intro)))))))
                    · refine l_iload rfl rfl ?_
                      refine l_goto rfl rfl ?_
                      refine l_pfi rfl rfl rfl rfl ?_
                      obtain ⟨U14, eU14⟩ : ∃ T : sS, T = uI T3 904 128 (Int32.ofInt v6) := ⟨_, rfl⟩
                      rw [← eU14]
                      have hHU14 : HI U14 := by rw [eU14]; exact HI_w hHT3 (show 0 ≤ v6 by omega) (show v6 ≤ 11 by omega)
                      have hFU14 : FR md_mo_actings S U14 := by rw [eU14]; exact FR.wI hFT3 (mdf_i (r := (904, 905, 128, 129)) (List.mem_of_getElem? (i := 0) rfl) (inR_i (by omega) (by omega) (by omega) (by omega)))
                      have w131 : Xi U14 904 128 = v6 := by rw [eU14]; exact Xi_same (by unfold rg; omega)
                      refine l_aload_n rfl rfl ?_
                      refine l_iload rfl rfl ?_
                      refine l_if_ne rfl rfl (by unfold rg; omega) (fun w132 => ?_) (fun w133 => ?_)
                      · refine l_aload_n rfl rfl ?_
                        refine l_gfi rfl rfl rfl rfl rfl ?_
                        have w134 : (Xi U14 904 129) = (Xi T3 904 129) := (show Xi U14 904 129 = Xi T3 904 129 from by rw [eU14]; exact Xi_ne (by omega))
                        rw [w134]
                        refine l_pfi rfl rfl rfl rfl ?_
                        obtain ⟨U15, eU15⟩ : ∃ T : sS, T = uI U14 904 129 (Int32.ofInt (Xi T3 904 129)) := ⟨_, rfl⟩
                        rw [← eU15]
                        have hHU15 : HI U15 := by rw [eU15]; exact HI_w hHU14 (show -1 ≤ (Xi T3 904 129) by omega) (show (Xi T3 904 129) ≤ 23 by omega)
                        have hFU15 : FR md_mo_actings S U15 := by rw [eU15]; exact FR.wI hFU14 (mdf_i (r := (904, 905, 129, 130)) (List.mem_of_getElem? (i := 1) rfl) (inR_i (by omega) (by omega) (by omega) (by omega)))
                        have w135 : Xi U15 904 129 = (Xi T3 904 129) := by rw [eU15]; exact Xi_same (by unfold rg; omega)
                        have t187 : Xi U15 904 128 = Xi U14 904 128 := by rw [eU15, Xi_ne (by omega)]
                        have a187 : 1 ≤ v5 + 1 → (0 ≤ Xi U15 904 128 ∧ Xi U15 904 128 < Xi S 904 49) ∧ (Xi U15 904 129 < Xi S 904 19) ∧ (Xi U15 904 129 ≠ -1 → 0 ≤ Xi S 942 (Xi U15 904 128).toNat) ∧ (isTry ≠ 0 → Xi U15 904 129 = -1 → Xi S 942 (Xi U15 904 128).toNat < 0) := by first | (intro _; rw [show Xi U15 904 128 = v6 by omega]; refine ⟨⟨by omega, by omega⟩, by omega, fun _ => by omega, fun _ _ => by omega⟩) | (intro _; have h := E107 (by omega); rw [show Xi U15 904 128 = Xi T3 904 128 by omega, show Xi U15 904 129 = Xi T3 904 129 by omega]; exact h)
                        refine l_iinc rfl rfl rfl rfl ?_
                        have w136 : Xi U15 904 128 = Xi U14 904 128 := (show Xi U15 904 128 = Xi U14 904 128 from by rw [eU15]; exact Xi_ne (by omega))
                        have w137 : 0 ≤ Xi U14 904 128 ∧ Xi U14 904 128 ≤ 11 := hHU14.c _ _
                        have w138 : -1 ≤ Xi U15 904 129 ∧ Xi U15 904 129 ≤ 23 := hHU15.c _ _
                        exact Rl_weak (C193 U15 hHU15 hFU15 (v3) (v4) ((v5 + 1)) (v7) (by omega) (by omega) (by omega) (by omega) (by omega) (by omega) (by omega) (by omega) (by omega) (by first | exact a187 | exact E107) (by omega)) (And.intro rfl (And.intro rfl (And.intro rfl (And.intro rfl (And.intro rfl (And.intro rfl (True.intro)))))))
                      · refine l_iload rfl rfl ?_
                        refine l_goto rfl rfl ?_
                        refine l_pfi rfl rfl rfl rfl ?_
                        obtain ⟨U16, eU16⟩ : ∃ T : sS, T = uI U14 904 129 (Int32.ofInt v8) := ⟨_, rfl⟩
                        rw [← eU16]
                        have hHU16 : HI U16 := by rw [eU16]; exact HI_w hHU14 (show -1 ≤ v8 by omega) (show v8 ≤ 23 by omega)
                        have hFU16 : FR md_mo_actings S U16 := by rw [eU16]; exact FR.wI hFU14 (mdf_i (r := (904, 905, 129, 130)) (List.mem_of_getElem? (i := 1) rfl) (inR_i (by omega) (by omega) (by omega) (by omega)))
                        have w139 : Xi U16 904 129 = v8 := by rw [eU16]; exact Xi_same (by unfold rg; omega)
                        have t187 : Xi U16 904 128 = Xi U14 904 128 := by rw [eU16, Xi_ne (by omega)]
                        have a187 : 1 ≤ v5 + 1 → (0 ≤ Xi U16 904 128 ∧ Xi U16 904 128 < Xi S 904 49) ∧ (Xi U16 904 129 < Xi S 904 19) ∧ (Xi U16 904 129 ≠ -1 → 0 ≤ Xi S 942 (Xi U16 904 128).toNat) ∧ (isTry ≠ 0 → Xi U16 904 129 = -1 → Xi S 942 (Xi U16 904 128).toNat < 0) := by first | (intro _; rw [show Xi U16 904 128 = v6 by omega]; refine ⟨⟨by omega, by omega⟩, by omega, fun _ => by omega, fun _ _ => by omega⟩) | (intro _; have h := E107 (by omega); rw [show Xi U16 904 128 = Xi T3 904 128 by omega, show Xi U16 904 129 = Xi T3 904 129 by omega]; exact h)
                        refine l_iinc rfl rfl rfl rfl ?_
                        have w140 : Xi U16 904 128 = Xi U14 904 128 := (show Xi U16 904 128 = Xi U14 904 128 from by rw [eU16]; exact Xi_ne (by omega))
                        have w141 : 0 ≤ Xi U14 904 128 ∧ Xi U14 904 128 ≤ 11 := hHU14.c _ _
                        have w142 : -1 ≤ Xi U16 904 129 ∧ Xi U16 904 129 ≤ 23 := hHU16.c _ _
                        exact Rl_weak (C193 U16 hHU16 hFU16 (v3) (v4) ((v5 + 1)) (v7) (by omega) (by omega) (by omega) (by omega) (by omega) (by omega) (by omega) (by omega) (by omega) (by first | exact a187 | exact E107) (by omega)) (And.intro rfl (And.intro rfl (And.intro rfl (And.intro rfl (And.intro rfl (And.intro rfl (True.intro)))))))
        have C199 : ∀  (T17 : sS) (_ : HI T17) (_ : FR md_mo_actings S T17) (v5 : Int), (0 ≤ v5 ∧ v5 ≤ 4) → (v5 ≤ 4) → (1 ≤ v5 → (0 ≤ Xi T17 904 128 ∧ Xi T17 904 128 < Xi S 904 49) ∧ (Xi T17 904 129 < Xi S 904 19) ∧ (Xi T17 904 129 ≠ -1 → 0 ≤ Xi S 942 (Xi T17 904 128).toNat) ∧ (isTry ≠ 0 → Xi T17 904 129 = -1 → Xi S 942 (Xi T17 904 128).toNat < 0)) → Rl lay0 (d + 3) m_mo_actings 199 [(5, iv v5)] [] T17 (Q_mo_actings S n rn isTry) := by
          intro T17 hHT17 hFT17 v5 w143 w144 E199
          have w145 : Xi T17 904 19 = Xi S 904 19 := hFT17.x _ _ rfl
          have w146 : Xi T17 904 49 = Xi S 904 49 := hFT17.x _ _ rfl
          have w147 : Xi T17 904 69 = Xi S 904 69 := hFT17.x _ _ rfl
          have w148 : 0 ≤ Xi T17 904 128 ∧ Xi T17 904 128 ≤ 11 := hHT17.c _ _
          have w149 : -1 ≤ Xi T17 904 129 ∧ Xi T17 904 129 ≤ 23 := hHT17.c _ _
          refine l_iload rfl rfl ?_
          refine l_ireturn rfl rfl ?_
          exact ⟨hHT17, hFT17, _, rfl, ⟨by omega, by omega⟩, (E199)⟩
        refine l_iload rfl rfl ?_
        refine l_iload rfl rfl ?_
        refine l_icmp_ge rfl rfl (by unfold rg; omega) (by unfold rg; omega) (fun w152 => ?_) (fun w153 => ?_)
        · have w154 : 0 ≤ Xi T2 904 128 ∧ Xi T2 904 128 ≤ 11 := hHT2.c _ _
          exact Rl_weak (C199 T2 hHT2 hFT2 (v5) (by omega) (by omega) (E67)) (And.intro rfl (True.intro))
        · refine l_iload rfl rfl ?_
          refine l_iconst rfl ?_
          refine l_icmp_gt rfl rfl (by unfold rg; omega) (by unfold rg; omega) (fun w156 => ?_) (fun w157 => ?_)
          · have w158 : 0 ≤ Xi T2 904 128 ∧ Xi T2 904 128 ≤ 11 := hHT2.c _ _
            exact Rl_weak (C199 T2 hHT2 hFT2 (v5) (by omega) (by omega) (E67)) (And.intro rfl (True.intro))
          · refine l_aload_n rfl rfl ?_
            refine l_iload_n rfl rfl ?_
            refine l_iload rfl rfl ?_
            refine l_bipush rfl rfl ?_
            refine l_callV rfl rfl rfl (t_mo_means hHT2 v3 v7 11 ⟨by omega, by omega⟩ ⟨by omega, by omega⟩ ⟨by omega, by omega⟩ (by first | assumption | omega) (by first | assumption | exact (LXM_FR hFT2 rfl (by assumption : LXM S))) _) ?_
            rintro _ _ ⟨rfl, z163, rfl, w163, w162⟩
            show Rl _ _ _ _ _ [iv z163] _ _
            have x86 : z163 ≠ -1 → z163 < Xi S 904 49 := fun q => by have t := (by assumption : z163 ≠ -1 → z163 < cM T2 11) q; rw [cM11, hFT2.x 904 49 rfl] at t; exact t
            refine l_istore rfl rfl rfl ?_
            refine l_aload_n rfl rfl ?_
            refine l_iload_n rfl rfl ?_
            refine l_iload rfl rfl ?_
            refine l_iadd rfl ?_
            refine l_iload rfl rfl ?_
            refine l_iload rfl rfl ?_
            refine l_isub rfl ?_
            refine l_iconst rfl ?_
            refine l_callV rfl rfl rfl (t_mo_means hHT2 (v3 + v7) (v4 - v7) 4 ⟨by omega, by omega⟩ ⟨by omega, by omega⟩ ⟨by omega, by omega⟩ (by first | assumption | omega) (by first | assumption | exact (LXM_FR hFT2 rfl (by assumption : LXM S))) _) ?_
            rintro _ _ ⟨rfl, z167, rfl, w167, w166⟩
            show Rl _ _ _ _ _ [iv z167] _ _
            have x102 : z167 ≠ -1 → z167 < Xi S 904 19 := fun q => by have t := (by assumption : z167 ≠ -1 → z167 < cM T2 4) q; rw [cM4, hFT2.x 904 19 rfl] at t; exact t
            refine l_istore rfl rfl rfl ?_
            exact Rl_weak (C107 T2 hHT2 hFT2 (v3) (v4) (v5) (z163) (v7) (z167) (by omega) (by omega) (by omega) (by omega) (by omega) (by omega) (by omega) (by omega) (by omega) (by omega) (by omega) (by omega) (by omega) (by omega) (E67) (by omega)) (And.intro rfl (And.intro rfl (And.intro rfl (And.intro rfl (And.intro rfl (And.intro rfl (And.intro rfl (And.intro rfl (True.intro)))))))))
    refine l_iconst rfl ?_
    refine l_istore rfl rfl rfl ?_
    exact Rl_weak (C67 _ T1 hHT1 hFT1 (v3) (v4) (v5) (1) (by omega) (by omega) (by omega) (by omega) (by omega) (by omega) (by omega) (by omega) (by first | exact E64 | exact E193) rfl) (And.intro rfl (And.intro rfl (And.intro rfl (And.intro rfl (And.intro rfl (And.intro rfl (True.intro)))))))
  refine l_aload_n rfl rfl ?_
  refine l_gfr rfl rfl rfl rfl rfl (hH.r 904 67 950 rfl) ?_
  refine l_iload_n rfl rfl ?_
  refine l_iaload (n := 2600) rfl rfl (by omega) (by omega) (by unfold rg; omega) ?_
  have w172 : 0 ≤ (Xi S 950 ((rn).toNat)) ∧ (Xi S 950 ((rn).toNat)) ≤ 5010 := hH.c _ _
  refine l_istore_n rfl rfl rfl ?_
  refine l_aload_n rfl rfl ?_
  refine l_gfr rfl rfl rfl rfl rfl (hH.r 904 68 951 rfl) ?_
  refine l_iload_n rfl rfl ?_
  refine l_iaload (n := 2600) rfl rfl (by omega) (by omega) (by unfold rg; omega) ?_
  have w173 : 0 ≤ (Xi S 951 ((rn).toNat)) ∧ (Xi S 951 ((rn).toNat)) ≤ 5010 := hH.c _ _
  refine l_istore rfl rfl rfl ?_
  refine l_iconst rfl ?_
  refine l_istore rfl rfl rfl ?_
  refine l_aload_n rfl rfl ?_
  refine l_iload_n rfl rfl ?_
  refine l_iload rfl rfl ?_
  refine l_bipush rfl rfl ?_
  refine l_callV rfl rfl rfl (t_mo_means hH (Xi S 950 ((rn).toNat)) (Xi S 951 ((rn).toNat)) 11 ⟨by omega, by omega⟩ ⟨by omega, by omega⟩ ⟨by omega, by omega⟩ (by first | assumption | omega) (by first | assumption | exact (LXM_FR hF rfl (by assumption : LXM S))) _) ?_
  rintro _ _ ⟨rfl, z177, rfl, w177, w176⟩
  show Rl _ _ _ _ _ [iv z177] _ _
  have x24 : z177 ≠ -1 → z177 < Xi S 904 49 := fun q => by have t := (by assumption : z177 ≠ -1 → z177 < cM S 11) q; rw [cM11, hF.x 904 49 rfl] at t; exact t
  refine l_istore rfl rfl rfl ?_
  refine l_iload rfl rfl ?_
  refine l_iconst rfl ?_
  refine l_icmp_eq rfl rfl (by unfold rg; omega) (by unfold rg; omega) (fun w178 => ?_) (fun w179 => ?_)
  · have w180 : 0 ≤ Xi S 904 128 ∧ Xi S 904 128 ≤ 11 := hH.c _ _
    exact Rl_weak (C64 S hH hF ((Xi S 950 ((rn).toNat))) ((Xi S 951 ((rn).toNat))) (0) (by omega) (by omega) (by omega) (by omega) (by omega) (by omega) (by first | exact fun q => absurd q (by omega) | exact fun _ => ⟨y58, by omega, fun q => absurd (by omega) q, fun q _ => u58 q⟩)) (And.intro rfl (And.intro rfl (And.intro rfl (And.intro rfl (And.intro rfl (True.intro))))))
  · refine l_iload_n rfl rfl ?_
    refine l_if_eq rfl rfl (by unfold rg; omega) (fun w182 => ?_) (fun w183 => ?_)
    · refine l_aload_n rfl rfl ?_
      refine l_iload rfl rfl ?_
      refine l_pfi rfl rfl rfl rfl ?_
      obtain ⟨U18, eU18⟩ : ∃ T : sS, T = uI S 904 128 (Int32.ofInt z177) := ⟨_, rfl⟩
      rw [← eU18]
      have hHU18 : HI U18 := by rw [eU18]; exact HI_w hH (show 0 ≤ z177 by omega) (show z177 ≤ 11 by omega)
      have hFU18 : FR md_mo_actings S U18 := by rw [eU18]; exact FR.wI hF (mdf_i (r := (904, 905, 128, 129)) (List.mem_of_getElem? (i := 0) rfl) (inR_i (by omega) (by omega) (by omega) (by omega)))
      have w184 : Xi U18 904 128 = z177 := by rw [eU18]; exact Xi_same (by unfold rg; omega)
      have y53 : 0 ≤ Xi U18 904 128 ∧ Xi U18 904 128 < Xi S 904 49 := by omega
      refine l_aload_n rfl rfl ?_
      refine l_iconst rfl ?_
      refine l_pfi rfl rfl rfl rfl ?_
      obtain ⟨U19, eU19⟩ : ∃ T : sS, T = uI U18 904 129 (Int32.ofInt (-1)) := ⟨_, rfl⟩
      rw [← eU19]
      have hHU19 : HI U19 := by rw [eU19]; exact HI_w hHU18 (show -1 ≤ (-1) by omega) (show (-1) ≤ 23 by omega)
      have hFU19 : FR md_mo_actings S U19 := by rw [eU19]; exact FR.wI hFU18 (mdf_i (r := (904, 905, 129, 130)) (List.mem_of_getElem? (i := 1) rfl) (inR_i (by omega) (by omega) (by omega) (by omega)))
      have w185 : Xi U19 904 129 = (-1) := by rw [eU19]; exact Xi_same (by unfold rg; omega)
      have t58 : Xi U19 904 128 = z177 := by rw [eU19, Xi_ne (by omega)]; omega
      have u58 : isTry ≠ 0 → Xi S 942 (Xi U19 904 128).toNat < 0 := fun q => by rw [t58]; omega
      have w58 : Xi U19 904 129 = -1 := by omega
      have y58 : 0 ≤ Xi U19 904 128 ∧ Xi U19 904 128 < Xi S 904 49 := by rw [t58]; omega
      refine l_iinc rfl rfl rfl rfl ?_
      have w186 : Xi U19 904 128 = Xi U18 904 128 := (show Xi U19 904 128 = Xi U18 904 128 from by rw [eU19]; exact Xi_ne (by omega))
      have w187 : 0 ≤ Xi U18 904 128 ∧ Xi U18 904 128 ≤ 11 := hHU18.c _ _
      have w188 : -1 ≤ Xi U19 904 129 ∧ Xi U19 904 129 ≤ 23 := hHU19.c _ _
      exact Rl_weak (C64 U19 hHU19 hFU19 ((Xi S 950 ((rn).toNat))) ((Xi S 951 ((rn).toNat))) ((0 + 1)) (by omega) (by omega) (by omega) (by omega) (by omega) (by omega) (by first | exact fun q => absurd q (by omega) | exact fun _ => ⟨y58, by omega, fun q => absurd (by omega) q, fun q _ => u58 q⟩)) (And.intro rfl (And.intro rfl (And.intro rfl (And.intro rfl (And.intro rfl (True.intro))))))
    · refine l_aload_n rfl rfl ?_
      refine l_gfr rfl rfl rfl rfl rfl (hH.r 904 50 942 rfl) ?_
      refine l_iload rfl rfl ?_
      refine l_iaload (n := 12) rfl rfl (by omega) (by omega) (by unfold rg; omega) ?_
      have w189 : -2 ≤ (Xi S 942 ((z177).toNat)) ∧ (Xi S 942 ((z177).toNat)) ≤ 15 := hH.c _ _
      have e45 : (Xi S 942 ((z177).toNat)) = Xi S 942 (z177).toNat := by first | rfl | exact (hF.cx 942 rfl _).1
      refine l_iconst rfl ?_
      refine l_icmp_ne rfl rfl (by unfold rg; omega) (by unfold rg; omega) (fun w190 => ?_) (fun w191 => ?_)
      · have w192 : 0 ≤ Xi S 904 128 ∧ Xi S 904 128 ≤ 11 := hH.c _ _
        exact Rl_weak (C64 S hH hF ((Xi S 950 ((rn).toNat))) ((Xi S 951 ((rn).toNat))) (0) (by omega) (by omega) (by omega) (by omega) (by omega) (by omega) (by first | exact fun q => absurd q (by omega) | exact fun _ => ⟨y58, by omega, fun q => absurd (by omega) q, fun q _ => u58 q⟩)) (And.intro rfl (And.intro rfl (And.intro rfl (And.intro rfl (And.intro rfl (True.intro))))))
      · refine l_aload_n rfl rfl ?_
        refine l_iload rfl rfl ?_
        refine l_pfi rfl rfl rfl rfl ?_
        obtain ⟨U20, eU20⟩ : ∃ T : sS, T = uI S 904 128 (Int32.ofInt z177) := ⟨_, rfl⟩
        rw [← eU20]
        have hHU20 : HI U20 := by rw [eU20]; exact HI_w hH (show 0 ≤ z177 by omega) (show z177 ≤ 11 by omega)
        have hFU20 : FR md_mo_actings S U20 := by rw [eU20]; exact FR.wI hF (mdf_i (r := (904, 905, 128, 129)) (List.mem_of_getElem? (i := 0) rfl) (inR_i (by omega) (by omega) (by omega) (by omega)))
        have w194 : Xi U20 904 128 = z177 := by rw [eU20]; exact Xi_same (by unfold rg; omega)
        have y53 : 0 ≤ Xi U20 904 128 ∧ Xi U20 904 128 < Xi S 904 49 := by omega
        refine l_aload_n rfl rfl ?_
        refine l_iconst rfl ?_
        refine l_pfi rfl rfl rfl rfl ?_
        obtain ⟨U21, eU21⟩ : ∃ T : sS, T = uI U20 904 129 (Int32.ofInt (-1)) := ⟨_, rfl⟩
        rw [← eU21]
        have hHU21 : HI U21 := by rw [eU21]; exact HI_w hHU20 (show -1 ≤ (-1) by omega) (show (-1) ≤ 23 by omega)
        have hFU21 : FR md_mo_actings S U21 := by rw [eU21]; exact FR.wI hFU20 (mdf_i (r := (904, 905, 129, 130)) (List.mem_of_getElem? (i := 1) rfl) (inR_i (by omega) (by omega) (by omega) (by omega)))
        have w195 : Xi U21 904 129 = (-1) := by rw [eU21]; exact Xi_same (by unfold rg; omega)
        have t58 : Xi U21 904 128 = z177 := by rw [eU21, Xi_ne (by omega)]; omega
        have u58 : isTry ≠ 0 → Xi S 942 (Xi U21 904 128).toNat < 0 := fun q => by rw [t58]; omega
        have w58 : Xi U21 904 129 = -1 := by omega
        have y58 : 0 ≤ Xi U21 904 128 ∧ Xi U21 904 128 < Xi S 904 49 := by rw [t58]; omega
        refine l_iinc rfl rfl rfl rfl ?_
        have w196 : Xi U21 904 128 = Xi U20 904 128 := (show Xi U21 904 128 = Xi U20 904 128 from by rw [eU21]; exact Xi_ne (by omega))
        have w197 : 0 ≤ Xi U20 904 128 ∧ Xi U20 904 128 ≤ 11 := hHU20.c _ _
        have w198 : -1 ≤ Xi U21 904 129 ∧ Xi U21 904 129 ≤ 23 := hHU21.c _ _
        exact Rl_weak (C64 U21 hHU21 hFU21 ((Xi S 950 ((rn).toNat))) ((Xi S 951 ((rn).toNat))) ((0 + 1)) (by omega) (by omega) (by omega) (by omega) (by omega) (by omega) (by first | exact fun q => absurd q (by omega) | exact fun _ => ⟨y58, by omega, fun q => absurd (by omega) q, fun q _ => u58 q⟩)) (And.intro rfl (And.intro rfl (And.intro rfl (And.intro rfl (And.intro rfl (True.intro))))))
/-- how many of the first values are of a type -/
def cvR (S : sS) (t : Int) : Nat → Int
  | 0 => 0
  | m + 1 => cvR S t m + (if Xi S 927 m = t then 1 else 0)
theorem cvR_s {S : sS} {t v : Int} (h : 0 ≤ v) : cvR S t (v + 1).toNat = cvR S t v.toNat + (if Xi S 927 v.toNat = t then 1 else 0) := by
  rw [show (v + 1).toNat = v.toNat + 1 by omega]
  rfl
def md_mo_askValues : List rec := [(904, 905, 104, 105), (904, 905, 105, 106), (904, 905, 106, 107), (904, 905, 108, 109), (966, 967, 0, 100000)]
abbrev Q_mo_askValues (S : sS) (n : Nat) (ty : Int) : pst := fun r S1 => HI S1 ∧ FR md_mo_askValues S S1 ∧ (r = none ∧ (Xi S 904 106 ≠ 0 → Xi S1 904 106 ≠ 0) ∧ (Xi S1 904 106 = 0 → (1 < ty → cvR S ty (Xi S 904 30).toNat + (Xi S 904 69 - Xi S 904 78) ≤ 8) ∧ ∀ r : Int, Xi S 904 78 ≤ r → r < Xi S 904 69 → Xi S 951 r.toNat ≤ 3))
set_option maxRecDepth 100000 in
theorem t_mo_askValues {S : sS} (hH : HI S) (n : Nat) (ty : Int) (hty : -1 ≤ ty ∧ ty ≤ 7) (hT : TK S n) (hv : RNV S n) (hM : LXM S) (hN : NWV S) (h9 : Xi S 904 108 = 0) (hw : 0 ≤ Xi S 904 78 ∧ Xi S 904 78 < Xi S 904 69) (d : Nat) : Mt lay0 (d + 5) m_mo_askValues [.ref 904, iv ty] S (Q_mo_askValues S n ty) := by
  refine Mt_R rfl rfl ?_
  have hF : FR md_mo_askValues S S := FR.rf
  have w1 : 0 ≤ Xi S 904 106 ∧ Xi S 904 106 ≤ 9 := hH.c _ _
  have w2 : 0 ≤ Xi S 904 108 ∧ Xi S 904 108 ≤ 2600 := hH.c _ _
  have w3 : 0 ≤ Xi S 904 30 ∧ Xi S 904 30 ≤ 64 := hH.c _ _
  have w4 : 0 ≤ Xi S 904 69 ∧ Xi S 904 69 ≤ 2600 := hH.c _ _
  have w5 : -2 ≤ Xi S 904 78 ∧ Xi S 904 78 ≤ 5010 := hH.c _ _
  have hn5 := hT.1
  have hc69 : 0 ≤ Xi S 904 69 ∧ Xi S 904 69 ≤ 2600 := hH.c _ _
  have hc30 : 0 ≤ Xi S 904 30 ∧ Xi S 904 30 ≤ 64 := hH.c _ _
  have C4 : ∀ (n4 : Nat) (v2 : Int) (v3 : Int), (0 ≤ v2 ∧ v2 ≤ 64) → (0 ≤ v3 ∧ v3 ≤ 64) → (v3 ≤ Xi S 904 30) → (v2 ≤ v3) → (v2 = cvR S ty (v3).toNat) → n4 = (65 - v3).toNat → Rl lay0 (d + 4) m_mo_askValues 4 [(0, .ref 904), (1, iv ty), (2, iv v2), (3, iv v3)] [] S (Q_mo_askValues S n ty) := by
    intro n4
    induction n4 using Nat.strongRecOn with
    | ind n4 ih4 =>
      intro v2 v3 w6 w7 w8 w9 C4 hm4
      have C41 : ∀ (n41 : Nat) (T1 : sS) (_ : HI T1) (_ : FR md_mo_askValues S T1) (v2 : Int) (v3 : Int), (0 ≤ v2 ∧ v2 ≤ 2700) → (0 ≤ v3 ∧ v3 ≤ 2600) → (Xi T1 904 69 = Xi S 904 69) → (v2 ≤ 64 + (v3 - Xi S 904 78)) → (Xi S 904 78 ≤ v3) → (v3 ≤ Xi S 904 69) → (Xi T1 904 108 ≤ v3 - Xi S 904 78) → (Xi S 904 106 ≠ 0 → Xi T1 904 106 ≠ 0) → (NWV T1) → (Xi T1 904 106 = 0 → v2 = cvR S ty (Xi S 904 30).toNat + (v3 - Xi S 904 78) ∧ (1 < ty → v3 ≠ Xi S 904 78 → v2 ≤ 8)) → (Xi T1 904 106 = 0 → ∀ r : Int, Xi S 904 78 ≤ r → r < v3 → Xi S 951 r.toNat ≤ 3) → n41 = (2601 - v3).toNat → Rl lay0 (d + 4) m_mo_askValues 41 [(0, .ref 904), (1, iv ty), (2, iv v2), (3, iv v3)] [] T1 (Q_mo_askValues S n ty) := by
        intro n41
        induction n41 using Nat.strongRecOn with
        | ind n41 ih41 =>
          intro T1 hHT1 hFT1 v2 v3 w10 w11 w12 w13 w14 w15 w16 w17 N41 E41 G41 hm41
          have w18 : Xi T1 904 30 = Xi S 904 30 := hFT1.x _ _ rfl
          have w19 : Xi T1 904 69 = Xi S 904 69 := hFT1.x _ _ rfl
          have w20 : Xi T1 904 78 = Xi S 904 78 := hFT1.x _ _ rfl
          have w21 : 0 ≤ Xi T1 904 106 ∧ Xi T1 904 106 ≤ 9 := hHT1.c _ _
          have w22 : 0 ≤ Xi T1 904 108 ∧ Xi T1 904 108 ≤ 2600 := hHT1.c _ _
          have w23 : 0 ≤ Xi T1 904 69 ∧ Xi T1 904 69 ≤ 2600 := hHT1.c _ _
          refine l_iload_n rfl rfl ?_
          refine l_aload_n rfl rfl ?_
          refine l_gfi rfl rfl rfl rfl rfl ?_
          refine l_icmp_ge rfl rfl (by unfold rg; omega) (by unfold rg; omega) (fun w24 => ?_) (fun w25 => ?_)
          · refine l_return rfl rfl ?_
            have w29 : -2 ≤ Xi T1 904 78 ∧ Xi T1 904 78 ≤ 5010 := hHT1.c _ _
            exact ⟨hHT1, hFT1, rfl, (by omega), (fun q => ⟨fun y => by have t := E41 q; have := t.2 y (by omega); omega, fun r a b => G41 q r a (by omega)⟩)⟩
          · refine l_aload_n rfl rfl ?_
            refine l_iload_n rfl rfl ?_
            refine l_callV rfl rfl rfl (t_mo_isNew hHT1 n v3 ⟨by omega, by omega⟩ (by first | assumption | exact (TK_FR hFT1 rfl (by assumption : TK S _))) (by first | assumption | exact (RNV_FR hFT1 rfl (by assumption : RNV S _))) (by first | assumption | omega) (by first | assumption | exact (by assumption : NWV T1)) _) ?_
            rintro _ _ ⟨rfl, z34, rfl, w34, f51⟩
            show Rl _ _ _ _ _ [iv z34] _ _
            refine l_istore rfl rfl rfl ?_
            refine l_aload_n rfl rfl ?_
            refine l_iload_n rfl rfl ?_
            refine l_iload_n rfl rfl ?_
            refine l_iconst rfl ?_
            refine l_icmp_le rfl rfl (by unfold rg; omega) (by unfold rg; omega) (fun w35 => ?_) (fun w36 => ?_)
            · refine l_iconst rfl ?_
              refine l_bipush rfl rfl ?_
              refine l_callV rfl rfl rfl (t_mo_mustBeNew hHT1 n v3 0 8 ⟨by omega, by omega⟩ ⟨by omega, by omega⟩ ⟨by omega, by omega⟩ (by first | assumption | exact (TK_FR hFT1 rfl (by assumption : TK S _))) (by first | assumption | exact (RNV_FR hFT1 rfl (by assumption : RNV S _))) (by first | assumption | omega) (by first | assumption | exact (by assumption : NWV T1)) (by first | assumption | omega) _) ?_
              rintro _ T2 ⟨hHT2, w45, rfl, w41, g70, w42, w43⟩
              have hFT2 : FR md_mo_askValues S T2 := FR.tr hFT1 w45 rfl
              show Rl _ _ _ _ _ [] _ _
              have z70 : Xi T2 904 106 = 0 → z34 = 1 := fun q => (Int.lt_or_le z34 1).elim (fun e => absurd (g70 q).2 (f51.2 (by omega))) (fun e => by omega)
              have s70 : Xi T2 904 106 = 0 → Xi S 951 (v3).toNat ≤ 3 := fun q => by have t := (g70 q).2.1; rw [(hFT1.cx 951 rfl _).1] at t; exact t
              have m70 : Xi T2 904 106 = 0 → 1 < ty → v2 < 8 := fun q y => by have t := (g70 q).1; omega
              clear g70
              refine l_iload_n rfl rfl ?_
              refine l_iload rfl rfl ?_
              refine l_if_eq rfl rfl (by unfold rg; omega) (fun w46 => ?_) (fun w47 => ?_)
              · refine l_iconst rfl ?_
                refine l_iadd rfl ?_
                refine l_istore_n rfl rfl rfl ?_
                refine l_iinc rfl rfl rfl rfl ?_
                refine l_goto rfl rfl ?_
                have w48 : 0 ≤ Xi T2 904 106 ∧ Xi T2 904 106 ≤ 9 := hHT2.c _ _
                have w49 : 0 ≤ Xi T2 904 108 ∧ Xi T2 904 108 ≤ 2600 := hHT2.c _ _
                have w50 : Xi T2 904 69 = Xi T1 904 69 := (show Xi T2 904 69 = Xi T1 904 69 from w45.x _ _ rfl)
                have w52 : Xi T2 904 78 = Xi T1 904 78 := (show Xi T2 904 78 = Xi T1 904 78 from w45.x _ _ rfl)
                have w53 : -2 ≤ Xi T1 904 78 ∧ Xi T1 904 78 ≤ 5010 := hHT1.c _ _
                exact Rl_weak (ih41 _ (by omega) T2 hHT2 hFT2 ((v2 + 0)) ((v3 + 1)) (by omega) (by omega) (by omega) (by omega) (by omega) (by omega) (by omega) (by omega) (by first | assumption | exact hN) (by first | (exact fun q => ⟨by rw [show Xi S 904 30 = v3 by omega]; omega, fun _ y => absurd rfl y⟩) | (exact fun q => ⟨by have t := (E41 (by omega)).1; omega, by omega⟩)) (by first | exact fun q r a b => absurd b (by omega) | exact fun q r a b => (Int.lt_or_le r v3).elim (fun h => G41 (by omega) r a h) (fun h => by rw [show r = v3 by omega]; exact s70 (by omega))) rfl) (And.intro rfl (And.intro rfl (And.intro rfl (And.intro rfl (True.intro)))))
              · refine l_iconst rfl ?_
                refine l_goto rfl rfl ?_
                refine l_iadd rfl ?_
                refine l_istore_n rfl rfl rfl ?_
                refine l_iinc rfl rfl rfl rfl ?_
                refine l_goto rfl rfl ?_
                have w54 : 0 ≤ Xi T2 904 106 ∧ Xi T2 904 106 ≤ 9 := hHT2.c _ _
                have w55 : 0 ≤ Xi T2 904 108 ∧ Xi T2 904 108 ≤ 2600 := hHT2.c _ _
                have w56 : Xi T2 904 69 = Xi T1 904 69 := (show Xi T2 904 69 = Xi T1 904 69 from w45.x _ _ rfl)
                have w58 : Xi T2 904 78 = Xi T1 904 78 := (show Xi T2 904 78 = Xi T1 904 78 from w45.x _ _ rfl)
                have w59 : -2 ≤ Xi T1 904 78 ∧ Xi T1 904 78 ≤ 5010 := hHT1.c _ _
                exact Rl_weak (ih41 _ (by omega) T2 hHT2 hFT2 ((v2 + 1)) ((v3 + 1)) (by omega) (by omega) (by omega) (by omega) (by omega) (by omega) (by omega) (by omega) (by first | assumption | exact hN) (by first | (exact fun q => ⟨by rw [show Xi S 904 30 = v3 by omega]; omega, fun _ y => absurd rfl y⟩) | (exact fun q => ⟨by have t := (E41 (by omega)).1; omega, by omega⟩)) (by first | exact fun q r a b => absurd b (by omega) | exact fun q r a b => (Int.lt_or_le r v3).elim (fun h => G41 (by omega) r a h) (fun h => by rw [show r = v3 by omega]; exact s70 (by omega))) rfl) (And.intro rfl (And.intro rfl (And.intro rfl (And.intro rfl (True.intro)))))
            · refine l_iload_n rfl rfl ?_
              refine l_goto rfl rfl ?_
              refine l_bipush rfl rfl ?_
              refine l_callV rfl rfl rfl (t_mo_mustBeNew hHT1 n v3 v2 8 ⟨by omega, by omega⟩ ⟨by omega, by omega⟩ ⟨by omega, by omega⟩ (by first | assumption | exact (TK_FR hFT1 rfl (by assumption : TK S _))) (by first | assumption | exact (RNV_FR hFT1 rfl (by assumption : RNV S _))) (by first | assumption | omega) (by first | assumption | exact (by assumption : NWV T1)) (by first | assumption | omega) _) ?_
              rintro _ T3 ⟨hHT3, w68, rfl, w64, g70, w65, w66⟩
              have hFT3 : FR md_mo_askValues S T3 := FR.tr hFT1 w68 rfl
              show Rl _ _ _ _ _ [] _ _
              have z70 : Xi T3 904 106 = 0 → z34 = 1 := fun q => (Int.lt_or_le z34 1).elim (fun e => absurd (g70 q).2 (f51.2 (by omega))) (fun e => by omega)
              have s70 : Xi T3 904 106 = 0 → Xi S 951 (v3).toNat ≤ 3 := fun q => by have t := (g70 q).2.1; rw [(hFT1.cx 951 rfl _).1] at t; exact t
              have m70 : Xi T3 904 106 = 0 → 1 < ty → v2 < 8 := fun q y => by have t := (g70 q).1; omega
              clear g70
              refine l_iload_n rfl rfl ?_
              refine l_iload rfl rfl ?_
              refine l_if_eq rfl rfl (by unfold rg; omega) (fun w69 => ?_) (fun w70 => ?_)
              · refine l_iconst rfl ?_
                refine l_iadd rfl ?_
                refine l_istore_n rfl rfl rfl ?_
                refine l_iinc rfl rfl rfl rfl ?_
                refine l_goto rfl rfl ?_
                have w71 : 0 ≤ Xi T3 904 106 ∧ Xi T3 904 106 ≤ 9 := hHT3.c _ _
                have w72 : 0 ≤ Xi T3 904 108 ∧ Xi T3 904 108 ≤ 2600 := hHT3.c _ _
                have w73 : Xi T3 904 69 = Xi T1 904 69 := (show Xi T3 904 69 = Xi T1 904 69 from w68.x _ _ rfl)
                have w75 : Xi T3 904 78 = Xi T1 904 78 := (show Xi T3 904 78 = Xi T1 904 78 from w68.x _ _ rfl)
                have w76 : -2 ≤ Xi T1 904 78 ∧ Xi T1 904 78 ≤ 5010 := hHT1.c _ _
                exact Rl_weak (ih41 _ (by omega) T3 hHT3 hFT3 ((v2 + 0)) ((v3 + 1)) (by omega) (by omega) (by omega) (by omega) (by omega) (by omega) (by omega) (by omega) (by first | assumption | exact hN) (by first | (exact fun q => ⟨by rw [show Xi S 904 30 = v3 by omega]; omega, fun _ y => absurd rfl y⟩) | (exact fun q => ⟨by have t := (E41 (by omega)).1; omega, by omega⟩)) (by first | exact fun q r a b => absurd b (by omega) | exact fun q r a b => (Int.lt_or_le r v3).elim (fun h => G41 (by omega) r a h) (fun h => by rw [show r = v3 by omega]; exact s70 (by omega))) rfl) (And.intro rfl (And.intro rfl (And.intro rfl (And.intro rfl (True.intro)))))
              · refine l_iconst rfl ?_
                refine l_goto rfl rfl ?_
                refine l_iadd rfl ?_
                refine l_istore_n rfl rfl rfl ?_
                refine l_iinc rfl rfl rfl rfl ?_
                refine l_goto rfl rfl ?_
                have w77 : 0 ≤ Xi T3 904 106 ∧ Xi T3 904 106 ≤ 9 := hHT3.c _ _
                have w78 : 0 ≤ Xi T3 904 108 ∧ Xi T3 904 108 ≤ 2600 := hHT3.c _ _
                have w79 : Xi T3 904 69 = Xi T1 904 69 := (show Xi T3 904 69 = Xi T1 904 69 from w68.x _ _ rfl)
                have w81 : Xi T3 904 78 = Xi T1 904 78 := (show Xi T3 904 78 = Xi T1 904 78 from w68.x _ _ rfl)
                have w82 : -2 ≤ Xi T1 904 78 ∧ Xi T1 904 78 ≤ 5010 := hHT1.c _ _
                exact Rl_weak (ih41 _ (by omega) T3 hHT3 hFT3 ((v2 + 1)) ((v3 + 1)) (by omega) (by omega) (by omega) (by omega) (by omega) (by omega) (by omega) (by omega) (by first | assumption | exact hN) (by first | (exact fun q => ⟨by rw [show Xi S 904 30 = v3 by omega]; omega, fun _ y => absurd rfl y⟩) | (exact fun q => ⟨by have t := (E41 (by omega)).1; omega, by omega⟩)) (by first | exact fun q r a b => absurd b (by omega) | exact fun q r a b => (Int.lt_or_le r v3).elim (fun h => G41 (by omega) r a h) (fun h => by rw [show r = v3 by omega]; exact s70 (by omega))) rfl) (And.intro rfl (And.intro rfl (And.intro rfl (And.intro rfl (True.intro)))))
      refine l_iload_n rfl rfl ?_
      refine l_aload_n rfl rfl ?_
      refine l_gfi rfl rfl rfl rfl rfl ?_
      refine l_icmp_ge rfl rfl (by unfold rg; omega) (by unfold rg; omega) (fun w83 => ?_) (fun w84 => ?_)
      · refine l_aload_n rfl rfl ?_
        refine l_gfi rfl rfl rfl rfl rfl ?_
        refine l_istore_n rfl rfl rfl ?_
        exact Rl_weak (C41 _ S hH hF (v2) ((Xi S 904 78)) (by omega) (by omega) (by omega) (by omega) (by omega) (by omega) (by omega) (by omega) (by first | assumption | exact hN) (by first | (exact fun q => ⟨by rw [show Xi S 904 30 = v3 by omega]; omega, fun _ y => absurd rfl y⟩) | (exact fun q => ⟨by have t := (E41 (by omega)).1; omega, by omega⟩)) (by first | exact fun q r a b => absurd b (by omega) | exact fun q r a b => (Int.lt_or_le r v3).elim (fun h => G41 (by omega) r a h) (fun h => by rw [show r = v3 by omega]; exact s70 (by omega))) rfl) (And.intro rfl (And.intro rfl (And.intro rfl (And.intro rfl (True.intro)))))
      · refine l_iload_n rfl rfl ?_
        refine l_aload_n rfl rfl ?_
        refine l_gfr rfl rfl rfl rfl rfl (hH.r 904 31 927 rfl) ?_
        refine l_iload_n rfl rfl ?_
        refine l_iaload (n := 64) rfl rfl (by omega) (by omega) (by unfold rg; omega) ?_
        have w89 : 0 ≤ (Xi S 927 ((v3).toNat)) ∧ (Xi S 927 ((v3).toNat)) ≤ 7 := hH.c _ _
        refine l_iload_n rfl rfl ?_
        refine l_icmp_ne rfl rfl (by unfold rg; omega) (by unfold rg; omega) (fun w90 => ?_) (fun w91 => ?_)
        · refine l_iconst rfl ?_
          refine l_iadd rfl ?_
          refine l_istore_n rfl rfl rfl ?_
          refine l_iinc rfl rfl rfl rfl ?_
          refine l_goto rfl rfl ?_
          exact Rl_weak (ih4 _ (by omega) ((v2 + 0)) ((v3 + 1)) (by omega) (by omega) (by omega) (by omega) (by first | rfl | (rw [cvR_s (by omega), if_pos (by omega)]; omega) | (rw [cvR_s (by omega), if_neg (by omega)]; omega)) rfl) (And.intro rfl (And.intro rfl (And.intro rfl (And.intro rfl (True.intro)))))
        · refine l_iconst rfl ?_
          refine l_goto rfl rfl ?_
          refine l_iadd rfl ?_
          refine l_istore_n rfl rfl rfl ?_
          refine l_iinc rfl rfl rfl rfl ?_
          refine l_goto rfl rfl ?_
          exact Rl_weak (ih4 _ (by omega) ((v2 + 1)) ((v3 + 1)) (by omega) (by omega) (by omega) (by omega) (by first | rfl | (rw [cvR_s (by omega), if_pos (by omega)]; omega) | (rw [cvR_s (by omega), if_neg (by omega)]; omega)) rfl) (And.intro rfl (And.intro rfl (And.intro rfl (And.intro rfl (True.intro)))))
  refine l_iconst rfl ?_
  refine l_istore_n rfl rfl rfl ?_
  refine l_iconst rfl ?_
  refine l_istore_n rfl rfl rfl ?_
  exact Rl_weak (C4 _ (0) (0) (by omega) (by omega) (by omega) (by omega) (by first | rfl | (rw [cvR_s (by omega), if_pos (by omega)]; omega) | (rw [cvR_s (by omega), if_neg (by omega)]; omega)) rfl) (And.intro rfl (And.intro rfl (And.intro rfl (And.intro rfl (True.intro)))))
theorem l_isubW {lay : Nat → Nat × Nat} {d pc : Nat} {q : mT} {L : List (Nat × Value)} {st : List Value} {S : sS} {Q : pst} {x y : Int} (hc : lk q.2.2.2.2.2 pc = some .isub) (h : ∀ c : Int, (-2147483648 ≤ c ∧ c ≤ 2147483647) → Rl lay d q (pc + 1) L (iv c :: st) S Q) : Rl lay d q pc L (iv y :: iv x :: st) S Q :=
  Rl_s hc rfl (fun lv ha => ⟨lv, by
    show some (pc + 1, lv, Value.int (Int32.ofInt x - Int32.ofInt y) :: st, S) = _
    rw [← ofI_toI (v := Int32.ofInt x - Int32.ofInt y)]; rfl, ha⟩) (h _ ⟨rg_toI.1, Int.le_of_lt_add_one rg_toI.2⟩)
abbrev Q_mo_packed (S : sS) (i : Nat) (xi : String × Nat × String × List Int32) : pst := fun r S1 => S = S1 ∧ (∃ z : Int, r = some (jw z))
set_option maxRecDepth 100000 in
theorem t_mo_packed {S : sS} (hH : HI S) (i : Nat) (xi : String × Nat × String × List Int32) (hi : strT[i]? = some xi) (d : Nat) : Mt lay0 (d + 4) m_mo_packed [.ref (SB + i)] S (Q_mo_packed S i xi) := by
  refine Mt_R rfl rfl ?_
  have hsli := str_sm hi
  have C4 : ∀ (n4 : Nat) (v1 : Int) (v3 : Int), (0 ≤ v3 ∧ v3 ≤ 400) → n4 = (400 - v3).toNat → Rl lay0 (d + 3) m_mo_packed 4 [(0, .ref (SB + i)), (1, jw v1), (3, iv v3)] [] S (Q_mo_packed S i xi) := by
    intro n4
    induction n4 using Nat.strongRecOn with
    | ind n4 ih4 =>
      intro v1 v3 w1 hm4
      refine l_iload_n rfl rfl ?_
      refine l_aload_n rfl rfl ?_
      refine l_callT rfl rfl (cOkT0 (str_is hi) rfl) (t_js_length hi _) ?_
      rintro _ _ ⟨rfl, rfl⟩
      show Rl _ _ _ _ _ [iv (xi.2.2.2.length : Int), iv v3] _ _
      refine l_icmp_ge rfl rfl (by unfold rg; omega) (by unfold rg; omega) (fun w3 => ?_) (fun w4 => ?_)
      · refine l_lload_n rfl rfl ?_
        refine l_lreturn rfl rfl ?_
        exact ⟨rfl, _, rfl⟩
      · refine l_lload_n rfl rfl ?_
        refine l_iconst rfl ?_
        refine l_lshlF rfl ?_
        have w5 : rgL (lshlF v1 5) := lshlF_rg
        refine l_aload_n rfl rfl ?_
        refine l_iload_n rfl rfl ?_
        refine l_callT rfl rfl (cOkT1 (str_is hi) rfl) (t_js_charAt hi (by omega) (by omega) _) ?_
        rintro _ _ ⟨rfl, c6, rfl, w6⟩
        show Rl _ _ _ _ _ [iv c6, jw (lshlF v1 5)] _ _
        refine l_bipush rfl rfl ?_
        refine l_isubW rfl (fun c7 w7 => ?_)
        refine l_i2l rfl (by unfold rg; omega) ?_
        refine l_lorF rfl ?_
        have w8 : rgL (lorF (lshlF v1 5) c7) := lorF_rg
        refine l_lstore_n rfl rfl rfl rfl ?_
        refine l_iinc rfl rfl rfl rfl ?_
        refine l_goto rfl rfl ?_
        exact Rl_weak (ih4 _ (by omega) ((lorF (lshlF v1 5) c7)) ((v3 + 1)) (by omega) rfl) (And.intro rfl (And.intro rfl (And.intro rfl (True.intro))))
  refine l_lconst (z := 0) rfl rfl ?_
  refine l_lstore_n rfl rfl rfl rfl ?_
  refine l_iconst rfl ?_
  refine l_istore_n rfl rfl rfl ?_
  exact Rl_weak (C4 _ (0) (0) (by omega) rfl) (And.intro rfl (And.intro rfl (And.intro rfl (True.intro))))
/-! SAFETY of methods: printed by wip/safe (vc.py, decl.py) -/
def kk0 (S : sS) (v : Int) : Int := if Xi S 904 70 = 11 then Xi S 904 49 else if v = 1 then Xi S 904 18 else Xi S 904 16
def kkm (S : sS) (v : Int) : Int := if Xi S 904 70 = 11 then 12 else if v = 1 then 8 else 16
def VKX (S : sS) (v : Int) : Prop := (v = 0 ∨ v = 1) ∧ (v = 1 → Xi S 904 70 = 10 ∧ Xi S 904 78 = -2) ∧ (v = 0 → Xi S 904 70 ≠ 10 ∨ Xi S 904 78 ≠ -2)
theorem kk_le {S : sS} {v : Int} (h1 : 0 ≤ Xi S 904 16 ∧ Xi S 904 16 ≤ 16) (h2 : 0 ≤ Xi S 904 18 ∧ Xi S 904 18 ≤ 8) (h3 : 0 ≤ Xi S 904 49 ∧ Xi S 904 49 ≤ 12) : kk0 S v ≤ kkm S v ∧ 0 ≤ kk0 S v ∧ kkm S v ≤ 16 := by
  unfold kk0 kkm
  split
  · omega
  · split <;> omega
theorem kk_end {S : sS} {v a b c : Int} (hx : VKX S v) (h1 : a = kk0 S v + c) (h3 : b = kkm S v) (h2 : a ≤ b) (h4 : c = Xi S 904 72) (hs : Xi S 904 70 = 10 ∨ Xi S 904 70 = 11) : (Xi S 904 70 = 11 → Xi S 904 49 + Xi S 904 72 ≤ 12) ∧ (Xi S 904 70 = 10 → Xi S 904 78 = -2 → Xi S 904 18 + Xi S 904 72 ≤ 8) ∧ (Xi S 904 70 = 10 → Xi S 904 78 ≠ -2 → Xi S 904 16 + Xi S 904 72 ≤ 16) := by
  unfold VKX at hx
  unfold kk0 at h1
  unfold kkm at h3
  split at h1
  · rw [if_pos (by assumption)] at h3
    refine ⟨fun _ => by omega, fun e => by omega, fun e => by omega⟩
  · rw [if_neg (by assumption)] at h3
    split at h1
    · rw [if_pos (by assumption)] at h3
      refine ⟨fun e => by omega, fun _ _ => by omega, fun _ _ => by omega⟩
    · rw [if_neg (by assumption)] at h3
      refine ⟨fun e => by omega, fun _ _ => by omega, fun _ _ => by omega⟩
def md_mo_askKinds : List rec := [(904, 905, 104, 105), (904, 905, 105, 106), (904, 905, 106, 107), (904, 905, 108, 109), (966, 967, 0, 100000)]
abbrev Q_mo_askKinds (S : sS) (n : Nat) : pst := fun r S1 => HI S1 ∧ FR md_mo_askKinds S S1 ∧ (r = none ∧ (Xi S1 904 106 = 0 → (Xi S 904 70 = 11 → Xi S 904 49 + Xi S 904 72 ≤ 12) ∧ (Xi S 904 70 = 10 → Xi S 904 78 = -2 → Xi S 904 18 + Xi S 904 72 ≤ 8) ∧ (Xi S 904 70 = 10 → Xi S 904 78 ≠ -2 → Xi S 904 16 + Xi S 904 72 ≤ 16)) ∧ (Xi S1 904 106 = 0 → 0 ≤ Xi S 904 78 → rnR S (Xi S 904 78) 0 ≠ -1) ∧ (Xi S1 904 106 = 0 → ∀ i : Int, 0 ≤ i → i < Xi S 904 72 → Xi S 951 (Xi S 904 71 + i).toNat ≤ 3))
set_option maxRecDepth 100000 in
set_option maxHeartbeats 4000000 in
theorem t_mo_askKinds {S : sS} (hH : HI S) (n : Nat) (hT : TK S n) (hv : RNV S n) (hM : LXM S) (hN : NWV S) (hl : Xi S 904 71 + Xi S 904 72 ≤ Xi S 904 69) (h9 : Xi S 904 108 = 0) (hw : Xi S 904 78 < Xi S 904 69) (hs : Xi S 904 70 = 10 ∨ Xi S 904 70 = 11) (hs2 : Xi S 904 70 = 11 → -1 ≤ Xi S 904 78) (d : Nat) : Mt lay0 (d + 6) m_mo_askKinds [.ref 904] S (Q_mo_askKinds S n) := by
  refine Mt_R rfl rfl ?_
  have hF : FR md_mo_askKinds S S := FR.rf
  have w1 : 0 ≤ Xi S 904 106 ∧ Xi S 904 106 ≤ 9 := hH.c _ _
  have w2 : 0 ≤ Xi S 904 108 ∧ Xi S 904 108 ≤ 2600 := hH.c _ _
  have w3 : 0 ≤ Xi S 904 16 ∧ Xi S 904 16 ≤ 16 := hH.c _ _
  have w4 : 0 ≤ Xi S 904 18 ∧ Xi S 904 18 ≤ 8 := hH.c _ _
  have w5 : 0 ≤ Xi S 904 49 ∧ Xi S 904 49 ≤ 12 := hH.c _ _
  have w6 : 0 ≤ Xi S 904 69 ∧ Xi S 904 69 ≤ 2600 := hH.c _ _
  have w7 : 0 ≤ Xi S 904 70 ∧ Xi S 904 70 ≤ 20 := hH.c _ _
  have w8 : 0 ≤ Xi S 904 71 ∧ Xi S 904 71 ≤ 2600 := hH.c _ _
  have w9 : 0 ≤ Xi S 904 72 ∧ Xi S 904 72 ≤ 2600 := hH.c _ _
  have w10 : -2 ≤ Xi S 904 78 ∧ Xi S 904 78 ≤ 5010 := hH.c _ _
  have hn5 := hT.1
  have hc69 : 0 ≤ Xi S 904 69 ∧ Xi S 904 69 ≤ 2600 := hH.c _ _
  have hc71 : 0 ≤ Xi S 904 71 ∧ Xi S 904 71 ≤ 2600 := hH.c _ _
  have hc72 : 0 ≤ Xi S 904 72 ∧ Xi S 904 72 ≤ 2600 := hH.c _ _
  have hrf : ∀ r : Int, 0 ≤ r → r < Xi S 904 69 → Xi S 950 r.toNat ≤ n := fun r a b => by have := hv r.toNat (by omega); omega
  have hc16 : 0 ≤ Xi S 904 16 ∧ Xi S 904 16 ≤ 16 := hH.c _ _
  have hc18 : 0 ≤ Xi S 904 18 ∧ Xi S 904 18 ≤ 8 := hH.c _ _
  have hc49 : 0 ≤ Xi S 904 49 ∧ Xi S 904 49 ≤ 12 := hH.c _ _
  have hs0 := hs
  have hs20 := hs2
  have hkl : ∀ v, kk0 S v ≤ kkm S v ∧ 0 ≤ kk0 S v ∧ kkm S v ≤ 16 := fun v => kk_le (by omega) (by omega) (by omega)
  have C24 : ∀  (v1 : Int), (0 ≤ v1 ∧ v1 ≤ 1) → (VKX S v1) → Rl lay0 (d + 5) m_mo_askKinds 24 [(0, .ref 904), (1, iv v1)] [] S (Q_mo_askKinds S n) := by
    intro v1 w11 q24
    have C56 : ∀  (v1 : Int) (v2 : Int), (0 ≤ v1 ∧ v1 ≤ 1) → (0 ≤ v2 ∧ v2 ≤ 16) → (VKX S v1) → (v2 = kk0 S v1) → Rl lay0 (d + 5) m_mo_askKinds 56 [(0, .ref 904), (1, iv v1), (2, iv v2)] [] S (Q_mo_askKinds S n) := by
      intro v1 v2 w12 w13 q56 k56
      have C82 : ∀  (v1 : Int) (v2 : Int) (v3 : Int), (0 ≤ v1 ∧ v1 ≤ 1) → (0 ≤ v2 ∧ v2 ≤ 16) → (8 ≤ v3 ∧ v3 ≤ 16) → (VKX S v1) → (v2 = kk0 S v1) → (v3 = kkm S v1) → Rl lay0 (d + 5) m_mo_askKinds 82 [(0, .ref 904), (1, iv v1), (2, iv v2), (3, iv v3)] [] S (Q_mo_askKinds S n) := by
        intro v1 v2 v3 w14 w15 w16 q82 k82 m82
        have C85 : ∀ (n85 : Nat) (T1 : sS) (_ : HI T1) (_ : FR md_mo_askKinds S T1) (v1 : Int) (v2 : Int) (v3 : Int) (v4 : Int), (0 ≤ v1 ∧ v1 ≤ 1) → (0 ≤ v2 ∧ v2 ≤ 2700) → (8 ≤ v3 ∧ v3 ≤ 16) → (0 ≤ v4 ∧ v4 ≤ 2600) → (VKX S v1) → (v3 = kkm S v1) → (Xi T1 904 69 = Xi S 904 69) → (Xi T1 904 71 = Xi S 904 71) → (Xi T1 904 72 = Xi S 904 72) → (Xi T1 904 78 = Xi S 904 78) → (Xi T1 904 108 ≤ v4) → (v4 ≤ Xi S 904 72) → (v2 ≤ 16 + v4) → (NWV T1) → (Xi T1 904 106 = 0 → v2 = kk0 S v1 + v4 ∧ v2 ≤ v3) → (Xi T1 904 106 = 0 → ∀ i : Int, 0 ≤ i → i < v4 → Xi S 951 (Xi S 904 71 + i).toNat ≤ 3) → n85 = (2601 - v4).toNat → Rl lay0 (d + 5) m_mo_askKinds 85 [(0, .ref 904), (1, iv v1), (2, iv v2), (3, iv v3), (4, iv v4)] [] T1 (Q_mo_askKinds S n) := by
          intro n85
          induction n85 using Nat.strongRecOn with
          | ind n85 ih85 =>
            intro T1 hHT1 hFT1 v1 v2 v3 v4 w17 w18 w19 w20 q85 m85 w21 w22 w23 w24 w25 w26 w27 N85 K85 E85 hm85
            have w28 : Xi T1 904 16 = Xi S 904 16 := hFT1.x _ _ rfl
            have w29 : Xi T1 904 18 = Xi S 904 18 := hFT1.x _ _ rfl
            have w30 : Xi T1 904 49 = Xi S 904 49 := hFT1.x _ _ rfl
            have w31 : Xi T1 904 69 = Xi S 904 69 := hFT1.x _ _ rfl
            have w32 : Xi T1 904 70 = Xi S 904 70 := hFT1.x _ _ rfl
            have w33 : Xi T1 904 71 = Xi S 904 71 := hFT1.x _ _ rfl
            have w34 : Xi T1 904 72 = Xi S 904 72 := hFT1.x _ _ rfl
            have w35 : Xi T1 904 78 = Xi S 904 78 := hFT1.x _ _ rfl
            have w36 : 0 ≤ Xi T1 904 106 ∧ Xi T1 904 106 ≤ 9 := hHT1.c _ _
            have w37 : 0 ≤ Xi T1 904 108 ∧ Xi T1 904 108 ≤ 2600 := hHT1.c _ _
            have w38 : 0 ≤ Xi T1 904 69 ∧ Xi T1 904 69 ≤ 2600 := hHT1.c _ _
            have w39 : 0 ≤ Xi T1 904 71 ∧ Xi T1 904 71 ≤ 2600 := hHT1.c _ _
            have w40 : 0 ≤ Xi T1 904 72 ∧ Xi T1 904 72 ≤ 2600 := hHT1.c _ _
            have w41 : -2 ≤ Xi T1 904 78 ∧ Xi T1 904 78 ≤ 5010 := hHT1.c _ _
            refine l_iload rfl rfl ?_
            refine l_aload_n rfl rfl ?_
            refine l_gfi rfl rfl rfl rfl rfl ?_
            refine l_icmp_ge rfl rfl (by unfold rg; omega) (by unfold rg; omega) (fun w42 => ?_) (fun w43 => ?_)
            · refine l_aload_n rfl rfl ?_
              refine l_gfi rfl rfl rfl rfl rfl ?_
              refine l_iconst rfl ?_
              refine l_icmp_eq rfl rfl (by unfold rg; omega) (by unfold rg; omega) (fun w44 => ?_) (fun w45 => ?_)
              · refine l_return rfl rfl ?_
                exact ⟨hHT1, hFT1, rfl, (fun q => kk_end q85 (K85 (by omega)).1 m85 (K85 (by omega)).2 (by omega) hs), (fun q y => by first | (rw [← r156]; omega) | (exfalso; have t := q85; unfold VKX at t; omega)), (fun q i a b => E85 (by omega) i a (by omega))⟩
              · refine l_iload_n rfl rfl ?_
                refine l_if_ne rfl rfl (by unfold rg; omega) (fun w52 => ?_) (fun w53 => ?_)
                · refine l_return rfl rfl ?_
                  exact ⟨hHT1, hFT1, rfl, (fun q => kk_end q85 (K85 (by omega)).1 m85 (K85 (by omega)).2 (by omega) hs), (fun q y => by first | (rw [← r156]; omega) | (exfalso; have t := q85; unfold VKX at t; omega)), (fun q i a b => E85 (by omega) i a (by omega))⟩
                · refine l_aload_n rfl rfl ?_
                  refine l_aload_n rfl rfl ?_
                  refine l_gfi rfl rfl rfl rfl rfl ?_
                  have y153 : 0 ≤ (Xi T1 904 78) := by have t := q85; unfold VKX at t; omega
                  have w62 : 0 ≤ Xi T1 904 16 ∧ Xi T1 904 16 ≤ 16 := hHT1.c _ _
                  refine l_callV rfl rfl rfl (t_mo_kindOfRun__2 hHT1 n (Xi T1 904 78) ⟨by omega, by omega⟩ (by first | assumption | exact (TK_FR hFT1 rfl (by assumption : TK S _))) (by first | assumption | exact (RNV_FR hFT1 rfl (by assumption : RNV S _))) (by first | assumption | omega) (by first | assumption | exact (LXM_FR hFT1 rfl (by assumption : LXM S))) _) ?_
                  rintro _ T2 ⟨hHT2, w72, z71, rfl, w71, w67, w68, w69, w70⟩
                  have hFT2 : FR md_mo_askKinds S T2 := FR.tr hFT1 w72 rfl
                  show Rl _ _ _ _ _ [iv z71] _ _
                  have r156 : z71 = rnR S (Xi S 904 78) 0 := by have t := (by assumption : z71 = rnR T1 _ _).trans (rnR_FR hFT1 rfl rfl); rw [show Xi T1 904 78 = Xi S 904 78 by omega] at t; exact t
                  refine l_pop rfl rfl ?_
                  refine l_return rfl rfl ?_
                  have w73 : 0 ≤ Xi T2 904 106 ∧ Xi T2 904 106 ≤ 9 := hHT2.c _ _
                  have w74 : Xi T2 904 108 = Xi T1 904 108 := (show Xi T2 904 108 = Xi T1 904 108 from w72.x _ _ rfl)
                  have w76 : Xi T2 904 69 = Xi T1 904 69 := (show Xi T2 904 69 = Xi T1 904 69 from w72.x _ _ rfl)
                  have w78 : Xi T2 904 71 = Xi T1 904 71 := (show Xi T2 904 71 = Xi T1 904 71 from w72.x _ _ rfl)
                  have w80 : Xi T2 904 72 = Xi T1 904 72 := (show Xi T2 904 72 = Xi T1 904 72 from w72.x _ _ rfl)
                  have w82 : Xi T2 904 78 = Xi T1 904 78 := (show Xi T2 904 78 = Xi T1 904 78 from w72.x _ _ rfl)
                  exact ⟨hHT2, hFT2, rfl, (fun q => kk_end q85 (K85 (by omega)).1 m85 (K85 (by omega)).2 (by omega) hs), (fun q y => by first | (rw [← r156]; omega) | (exfalso; have t := q85; unfold VKX at t; omega)), (fun q i a b => E85 (by omega) i a (by omega))⟩
            · refine l_aload_n rfl rfl ?_
              refine l_aload_n rfl rfl ?_
              refine l_gfi rfl rfl rfl rfl rfl ?_
              refine l_iload rfl rfl ?_
              refine l_iadd rfl ?_
              refine l_callV rfl rfl rfl (t_mo_isNew hHT1 n ((Xi T1 904 71) + v4) ⟨by omega, by omega⟩ (by first | assumption | exact (TK_FR hFT1 rfl (by assumption : TK S _))) (by first | assumption | exact (RNV_FR hFT1 rfl (by assumption : RNV S _))) (by first | assumption | omega) (by first | assumption | exact (by assumption : NWV T1)) _) ?_
              rintro _ _ ⟨rfl, z90, rfl, w90, f102⟩
              show Rl _ _ _ _ _ [iv z90] _ _
              refine l_istore rfl rfl rfl ?_
              refine l_aload_n rfl rfl ?_
              refine l_aload_n rfl rfl ?_
              refine l_gfi rfl rfl rfl rfl rfl ?_
              refine l_iload rfl rfl ?_
              refine l_iadd rfl ?_
              refine l_iload_n rfl rfl ?_
              refine l_iload_n rfl rfl ?_
              refine l_callV rfl rfl rfl (t_mo_mustBeNew hHT1 n ((Xi T1 904 71) + v4) v2 v3 ⟨by omega, by omega⟩ ⟨by omega, by omega⟩ ⟨by omega, by omega⟩ (by first | assumption | exact (TK_FR hFT1 rfl (by assumption : TK S _))) (by first | assumption | exact (RNV_FR hFT1 rfl (by assumption : RNV S _))) (by first | assumption | omega) (by first | assumption | exact (by assumption : NWV T1)) (by first | assumption | omega) _) ?_
              rintro _ T3 ⟨hHT3, w101, rfl, w97, g117, w98, w99⟩
              have hFT3 : FR md_mo_askKinds S T3 := FR.tr hFT1 w101 rfl
              show Rl _ _ _ _ _ [] _ _
              have z117 : Xi T3 904 106 = 0 → z90 = 1 := fun q => (Int.lt_or_le z90 1).elim (fun e => absurd (g117 q).2 (f102.2 (by omega))) (fun e => by omega)
              have s117 : Xi T3 904 106 = 0 → Xi S 951 (Xi S 904 71 + v4).toNat ≤ 3 := fun q => by have t := (g117 q).2.1; rw [(hFT1.cx 951 rfl _).1, show Xi T1 904 71 = Xi S 904 71 by omega] at t; exact t
              have m117 : Xi T3 904 106 = 0 → v2 < v3 := fun q => (g117 q).1
              clear g117
              refine l_iload_n rfl rfl ?_
              refine l_iload rfl rfl ?_
              refine l_if_eq rfl rfl (by unfold rg; omega) (fun w102 => ?_) (fun w103 => ?_)
              · refine l_iconst rfl ?_
                refine l_iadd rfl ?_
                refine l_istore_n rfl rfl rfl ?_
                refine l_iinc rfl rfl rfl rfl ?_
                refine l_goto rfl rfl ?_
                have w104 : 0 ≤ Xi T3 904 106 ∧ Xi T3 904 106 ≤ 9 := hHT3.c _ _
                have w105 : 0 ≤ Xi T3 904 108 ∧ Xi T3 904 108 ≤ 2600 := hHT3.c _ _
                have w106 : Xi T3 904 69 = Xi T1 904 69 := (show Xi T3 904 69 = Xi T1 904 69 from w101.x _ _ rfl)
                have w108 : Xi T3 904 71 = Xi T1 904 71 := (show Xi T3 904 71 = Xi T1 904 71 from w101.x _ _ rfl)
                have w110 : Xi T3 904 72 = Xi T1 904 72 := (show Xi T3 904 72 = Xi T1 904 72 from w101.x _ _ rfl)
                have w112 : Xi T3 904 78 = Xi T1 904 78 := (show Xi T3 904 78 = Xi T1 904 78 from w101.x _ _ rfl)
                exact Rl_weak (ih85 _ (by omega) T3 hHT3 hFT3 (v1) ((v2 + 0)) (v3) ((v4 + 1)) (by omega) (by omega) (by omega) (by omega) (by first | exact q85 | exact q82) (by first | exact m85 | exact m82) (by omega) (by omega) (by omega) (by omega) (by omega) (by omega) (by omega) (by first | assumption | exact hN) (by first | exact (fun q => by have t := hkl v1; omega) | omega) (by first | exact fun q i a b => absurd b (by omega) | exact fun q i a b => (Int.lt_or_le i v4).elim (fun h => E85 (by omega) i a h) (fun h => by rw [show i = v4 by omega]; exact s117 (by omega))) rfl) (And.intro rfl (And.intro rfl (And.intro rfl (And.intro rfl (And.intro rfl (True.intro))))))
              · refine l_iconst rfl ?_
                refine l_goto rfl rfl ?_
                refine l_iadd rfl ?_
                refine l_istore_n rfl rfl rfl ?_
                refine l_iinc rfl rfl rfl rfl ?_
                refine l_goto rfl rfl ?_
                have w114 : 0 ≤ Xi T3 904 106 ∧ Xi T3 904 106 ≤ 9 := hHT3.c _ _
                have w115 : 0 ≤ Xi T3 904 108 ∧ Xi T3 904 108 ≤ 2600 := hHT3.c _ _
                have w116 : Xi T3 904 69 = Xi T1 904 69 := (show Xi T3 904 69 = Xi T1 904 69 from w101.x _ _ rfl)
                have w118 : Xi T3 904 71 = Xi T1 904 71 := (show Xi T3 904 71 = Xi T1 904 71 from w101.x _ _ rfl)
                have w120 : Xi T3 904 72 = Xi T1 904 72 := (show Xi T3 904 72 = Xi T1 904 72 from w101.x _ _ rfl)
                have w122 : Xi T3 904 78 = Xi T1 904 78 := (show Xi T3 904 78 = Xi T1 904 78 from w101.x _ _ rfl)
                exact Rl_weak (ih85 _ (by omega) T3 hHT3 hFT3 (v1) ((v2 + 1)) (v3) ((v4 + 1)) (by omega) (by omega) (by omega) (by omega) (by first | exact q85 | exact q82) (by first | exact m85 | exact m82) (by omega) (by omega) (by omega) (by omega) (by omega) (by omega) (by omega) (by first | assumption | exact hN) (by first | exact (fun q => by have t := hkl v1; omega) | omega) (by first | exact fun q i a b => absurd b (by omega) | exact fun q i a b => (Int.lt_or_le i v4).elim (fun h => E85 (by omega) i a h) (fun h => by rw [show i = v4 by omega]; exact s117 (by omega))) rfl) (And.intro rfl (And.intro rfl (And.intro rfl (And.intro rfl (And.intro rfl (True.intro))))))
        refine l_iconst rfl ?_
        refine l_istore rfl rfl rfl ?_
        exact Rl_weak (C85 _ S hH hF (v1) (v2) (v3) (0) (by omega) (by omega) (by omega) (by omega) (by first | exact q85 | exact q82) (by first | exact m85 | exact m82) (by omega) (by omega) (by omega) (by omega) (by omega) (by omega) (by omega) (by first | assumption | exact hN) (by first | exact (fun q => by have t := hkl v1; omega) | omega) (by first | exact fun q i a b => absurd b (by omega) | exact fun q i a b => (Int.lt_or_le i v4).elim (fun h => E85 (by omega) i a h) (fun h => by rw [show i = v4 by omega]; exact s117 (by omega))) rfl) (And.intro rfl (And.intro rfl (And.intro rfl (And.intro rfl (And.intro rfl (True.intro))))))
      refine l_aload_n rfl rfl ?_
      refine l_gfi rfl rfl rfl rfl rfl ?_
      refine l_bipush rfl rfl ?_
      refine l_icmp_ne rfl rfl (by unfold rg; omega) (by unfold rg; omega) (fun w130 => ?_) (fun w131 => ?_)
      · refine l_iload_n rfl rfl ?_
        refine l_if_eq rfl rfl (by unfold rg; omega) (fun w132 => ?_) (fun w133 => ?_)
        · refine l_bipush rfl rfl ?_
          refine l_istore_n rfl rfl rfl ?_
          exact Rl_weak (C82 (v1) (v2) (16) (by omega) (by omega) (by omega) (q56) (k56) (by unfold kkm; first | rw [if_pos (by omega)] | rw [if_neg (by omega), if_pos (by omega)] | rw [if_neg (by omega), if_neg (by omega)])) (And.intro rfl (And.intro rfl (And.intro rfl (And.intro rfl (True.intro)))))
        · refine l_bipush rfl rfl ?_
          refine l_goto rfl rfl ?_
          refine l_istore_n rfl rfl rfl ?_
          exact Rl_weak (C82 (v1) (v2) (8) (by omega) (by omega) (by omega) (q56) (k56) (by unfold kkm; first | rw [if_pos (by omega)] | rw [if_neg (by omega), if_pos (by omega)] | rw [if_neg (by omega), if_neg (by omega)])) (And.intro rfl (And.intro rfl (And.intro rfl (And.intro rfl (True.intro)))))
      · refine l_bipush rfl rfl ?_
        refine l_goto rfl rfl ?_
        refine l_istore_n rfl rfl rfl ?_
        exact Rl_weak (C82 (v1) (v2) (12) (by omega) (by omega) (by omega) (q56) (k56) (by unfold kkm; first | rw [if_pos (by omega)] | rw [if_neg (by omega), if_pos (by omega)] | rw [if_neg (by omega), if_neg (by omega)])) (And.intro rfl (And.intro rfl (And.intro rfl (And.intro rfl (True.intro)))))
    refine l_aload_n rfl rfl ?_
    refine l_gfi rfl rfl rfl rfl rfl ?_
    refine l_bipush rfl rfl ?_
    refine l_icmp_ne rfl rfl (by unfold rg; omega) (by unfold rg; omega) (fun w152 => ?_) (fun w153 => ?_)
    · refine l_iload_n rfl rfl ?_
      refine l_if_eq rfl rfl (by unfold rg; omega) (fun w154 => ?_) (fun w155 => ?_)
      · refine l_aload_n rfl rfl ?_
        refine l_gfi rfl rfl rfl rfl rfl ?_
        refine l_istore_n rfl rfl rfl ?_
        exact Rl_weak (C56 (v1) ((Xi S 904 16)) (by omega) (by omega) (q24) (by unfold kk0; first | rw [if_pos (by omega)] | rw [if_neg (by omega), if_pos (by omega)] | rw [if_neg (by omega), if_neg (by omega)])) (And.intro rfl (And.intro rfl (And.intro rfl (True.intro))))
      · refine l_aload_n rfl rfl ?_
        refine l_gfi rfl rfl rfl rfl rfl ?_
        refine l_goto rfl rfl ?_
        refine l_istore_n rfl rfl rfl ?_
        exact Rl_weak (C56 (v1) ((Xi S 904 18)) (by omega) (by omega) (q24) (by unfold kk0; first | rw [if_pos (by omega)] | rw [if_neg (by omega), if_pos (by omega)] | rw [if_neg (by omega), if_neg (by omega)])) (And.intro rfl (And.intro rfl (And.intro rfl (True.intro))))
    · refine l_aload_n rfl rfl ?_
      refine l_gfi rfl rfl rfl rfl rfl ?_
      refine l_goto rfl rfl ?_
      refine l_istore_n rfl rfl rfl ?_
      exact Rl_weak (C56 (v1) ((Xi S 904 49)) (by omega) (by omega) (q24) (by unfold kk0; first | rw [if_pos (by omega)] | rw [if_neg (by omega), if_pos (by omega)] | rw [if_neg (by omega), if_neg (by omega)])) (And.intro rfl (And.intro rfl (And.intro rfl (True.intro))))
  refine l_aload_n rfl rfl ?_
  refine l_gfi rfl rfl rfl rfl rfl ?_
  refine l_bipush rfl rfl ?_
  refine l_icmp_ne rfl rfl (by unfold rg; omega) (by unfold rg; omega) (fun w174 => ?_) (fun w175 => ?_)
  · refine l_iconst rfl ?_
    refine l_istore_n rfl rfl rfl ?_
    exact Rl_weak (C24 (0) (by omega) (by unfold VKX; omega)) (And.intro rfl (And.intro rfl (True.intro)))
  · refine l_aload_n rfl rfl ?_
    refine l_gfi rfl rfl rfl rfl rfl ?_
    refine l_bipush rfl rfl ?_
    refine l_icmp_ne rfl rfl (by unfold rg; omega) (by unfold rg; omega) (fun w182 => ?_) (fun w183 => ?_)
    · refine l_iconst rfl ?_
      refine l_istore_n rfl rfl rfl ?_
      exact Rl_weak (C24 (0) (by omega) (by unfold VKX; omega)) (And.intro rfl (And.intro rfl (True.intro)))
    · refine l_iconst rfl ?_
      refine l_goto rfl rfl ?_
      refine l_istore_n rfl rfl rfl ?_
      exact Rl_weak (C24 (1) (by omega) (by unfold VKX; omega)) (And.intro rfl (And.intro rfl (True.intro)))
/-! SAFETY of methods: printed by wip/safe (vc.py, decl.py) -/
def md_mo_phrase : List rec := [(904, 905, 8, 9), (904, 905, 65, 66), (904, 905, 66, 67), (904, 905, 69, 70), (904, 905, 78, 79), (904, 905, 93, 94), (904, 905, 98, 99), (904, 905, 99, 100), (904, 905, 100, 101), (904, 905, 101, 102), (950, 951, 0, 100000), (951, 952, 0, 100000), (952, 953, 0, 100000), (953, 954, 0, 100000), (954, 955, 0, 100000), (955, 956, 0, 100000), (956, 957, 0, 100000), (957, 958, 0, 100000), (958, 959, 0, 100000), (959, 960, 0, 100000), (960, 961, 0, 100000), (961, 962, 0, 100000), (962, 963, 0, 100000), (963, 964, 0, 100000), (964, 965, 0, 100000), (965, 966, 0, 100000)]
/-! SAFETY of methods: printed by wip/safe (vc.py, decl.py) -/
def md_mo_askProperty : List rec := [(904, 905, 104, 105), (904, 905, 105, 106), (904, 905, 106, 107), (973, 974, 0, 100000), (974, 975, 0, 100000)]
abbrev Q_mo_askProperty (S : sS) (n : Nat) : pst := fun r S1 => HI S1 ∧ FR md_mo_askProperty S S1 ∧ (r = none ∧ (Xi S1 904 106 = 0 → rnR S 0 7 ≠ -1 ∧ (rnR S 1 4 ≠ -1 ∨ rnR S 1 0 ≠ -1) ∧ OKT (Xi S1 973 (Xi S 904 117).toNat) (Xi S1 974 (Xi S 904 117).toNat)) ∧ (KQ S1 S (Xi S 904 117)))
set_option maxRecDepth 100000 in
theorem t_mo_askProperty {S : sS} (hH : HI S) (n : Nat) (hT : TK S n) (hv : RNV S n) (hM : LXM S) (hB : ABV S) (hX : TXM S) (hK : TXK S n) (h2 : 2 ≤ Xi S 904 69) (hw : 0 ≤ Xi S 904 78 ∧ Xi S 904 78 ≤ n) (hw2 : Xi S 907 (Xi S 904 78).toNat ≠ 4 → Xi S 907 (Xi S 904 78).toNat ≠ 5 → 3 ≤ Xi S 904 69) (d : Nat) : Mt lay0 (d + 6) m_mo_askProperty [.ref 904] S (Q_mo_askProperty S n) := by
  refine Mt_R rfl rfl ?_
  have hF : FR md_mo_askProperty S S := FR.rf
  have w1 : 0 ≤ Xi S 904 106 ∧ Xi S 904 106 ≤ 9 := hH.c _ _
  have w2 : 0 ≤ Xi S 904 117 ∧ Xi S 904 117 ≤ 480 := hH.c _ _
  have w3 : 0 ≤ Xi S 904 32 ∧ Xi S 904 32 ≤ 12 := hH.c _ _
  have w4 : 0 ≤ Xi S 904 69 ∧ Xi S 904 69 ≤ 2600 := hH.c _ _
  have w5 : -2 ≤ Xi S 904 78 ∧ Xi S 904 78 ≤ 5010 := hH.c _ _
  have hn5 := hT.1
  have hc69 : 0 ≤ Xi S 904 69 ∧ Xi S 904 69 ≤ 2600 := hH.c _ _
  have q0 := hv 0 (by omega)
  have q1 := hv 1 (by omega)
  have g0 : 0 ≤ Xi S 950 0 ∧ Xi S 950 0 ≤ 5010 := hH.c 950 0
  have g1 : 0 ≤ Xi S 950 1 ∧ Xi S 950 1 ≤ 5010 := hH.c 950 1
  have hc32 : 0 ≤ Xi S 904 32 ∧ Xi S 904 32 ≤ 12 := hH.c _ _
  have hc16 : 0 ≤ Xi S 904 16 ∧ Xi S 904 16 ≤ 16 := hH.c _ _
  have hc19 : 0 ≤ Xi S 904 19 ∧ Xi S 904 19 ≤ 24 := hH.c _ _
  have C28 : ∀  (v2 : Int), (-1 ≤ v2 ∧ v2 ≤ 15) → (rnR S 1 4 ≠ -1 ∨ v2 = rnR S 1 0) → Rl lay0 (d + 5) m_mo_askProperty 28 [(0, .ref 904), (2, iv v2)] [] S (Q_mo_askProperty S n) := by
    intro v2 w6 w7
    have C83 : ∀  (T1 : sS) (_ : HI T1) (_ : FR md_mo_askProperty S T1) (v3 : Int) (v4 : Int), (-1 ≤ v3 ∧ v3 ≤ 11) → (0 ≤ v4 ∧ v4 ≤ 1) → (Xi T1 904 78 = Xi S 904 78) → (Xi T1 904 117 = Xi S 904 117) → (Xi T1 904 69 = Xi S 904 69) → (v3 = rnR S 0 7) → (v3 ≠ -1 → v3 < Xi S 904 32) → (Xi T1 904 106 = 0 → rnR S 1 4 ≠ -1 ∨ rnR S 1 0 ≠ -1) → (v4 = 1 → v3 ≠ -1) → (KQ T1 S (Xi S 904 117)) → Rl lay0 (d + 5) m_mo_askProperty 83 [(0, .ref 904), (3, iv v3), (4, iv v4)] [] T1 (Q_mo_askProperty S n) := by
      intro T1 hHT1 hFT1 v3 v4 w8 w9 w10 w11 w12 w13 w14 w15 w16 K83
      have w17 : Xi T1 904 117 = Xi S 904 117 := hFT1.x _ _ rfl
      have w18 : Xi T1 904 32 = Xi S 904 32 := hFT1.x _ _ rfl
      have w19 : Xi T1 904 69 = Xi S 904 69 := hFT1.x _ _ rfl
      have w20 : Xi T1 904 78 = Xi S 904 78 := hFT1.x _ _ rfl
      have w21 : 0 ≤ Xi T1 904 106 ∧ Xi T1 904 106 ≤ 9 := hHT1.c _ _
      have w22 : 0 ≤ Xi T1 904 117 ∧ Xi T1 904 117 ≤ 480 := hHT1.c _ _
      have w23 : 0 ≤ Xi T1 904 69 ∧ Xi T1 904 69 ≤ 2600 := hHT1.c _ _
      have w24 : -2 ≤ Xi T1 904 78 ∧ Xi T1 904 78 ≤ 5010 := hHT1.c _ _
      refine l_aload_n rfl rfl ?_
      refine l_iload rfl rfl ?_
      refine l_iconst rfl ?_
      refine l_aload_n rfl rfl ?_
      refine l_gfr rfl rfl rfl rfl rfl (hHT1.r 904 67 950 rfl) ?_
      refine l_iconst rfl ?_
      refine l_iaload (n := 2600) rfl rfl (by omega) (by omega) (by unfold rg; omega) ?_
      have w25 : 0 ≤ (Xi T1 950 ((0 : Int).toNat)) ∧ (Xi T1 950 ((0 : Int).toNat)) ≤ 5010 := hHT1.c _ _
      have w26 : (Xi T1 950 ((0 : Int).toNat)) = Xi T1 950 0 := rfl
      have e92 : (Xi T1 950 ((0 : Int).toNat)) = Xi S 950 0 := by first | rfl | exact (hFT1.cx 950 rfl _).1
      have w28 : 0 ≤ Xi T1 904 108 ∧ Xi T1 904 108 ≤ 2600 := hHT1.c _ _
      refine l_callV rfl rfl rfl (t_mo_need hHT1 v4 4 (Xi T1 950 ((0 : Int).toNat)) ⟨by omega, by omega⟩ ⟨by omega, by omega⟩ ⟨by omega, by omega⟩ _) ?_
      rintro _ T2 ⟨hHT2, w35, rfl, w32, w33⟩
      have hFT2 : FR md_mo_askProperty S T2 := FR.tr hFT1 w35 rfl
      show Rl _ _ _ _ _ [] _ _
      have K93 : KQ T2 S (Xi S 904 117) := KQ_FR (by assumption : FR md_mo_need T1 T2) rfl K83
      refine l_iload_n rfl rfl ?_
      refine l_iconst rfl ?_
      refine l_icmp_eq rfl rfl (by unfold rg; omega) (by unfold rg; omega) (fun w36 => ?_) (fun w37 => ?_)
      · refine l_return rfl rfl ?_
        have w38 : 0 ≤ Xi T2 904 106 ∧ Xi T2 904 106 ≤ 9 := hHT2.c _ _
        have w39 : Xi T2 904 108 = Xi T1 904 108 := (show Xi T2 904 108 = Xi T1 904 108 from w35.x _ _ rfl)
        have w41 : Xi T2 904 117 = Xi T1 904 117 := (show Xi T2 904 117 = Xi T1 904 117 from w35.x _ _ rfl)
        have w43 : Xi T2 904 69 = Xi T1 904 69 := (show Xi T2 904 69 = Xi T1 904 69 from w35.x _ _ rfl)
        have w45 : Xi T2 904 78 = Xi T1 904 78 := (show Xi T2 904 78 = Xi T1 904 78 from w35.x _ _ rfl)
        exact ⟨hHT2, hFT2, rfl, (fun q => (by first | (refine ⟨by omega, by omega, ?_⟩; rw [show (Xi S 904 117).toNat = (Xi T1 904 117).toNat by omega]; exact o117) | (exfalso; omega))), (by first | exact KQ.tr K93 (by rw [show Xi S 904 117 = Xi T1 904 117 by omega]; assumption) | exact K93)⟩
      · refine l_aload_n rfl rfl ?_
        refine l_aload_n rfl rfl ?_
        refine l_gfi rfl rfl rfl rfl rfl ?_
        have w47 : (Xi T2 904 78) = (Xi T1 904 78) := (show Xi T2 904 78 = Xi T1 904 78 from w35.x _ _ rfl)
        rw [w47]
        refine l_iconst rfl ?_
        refine l_aload_n rfl rfl ?_
        refine l_gfr rfl rfl rfl rfl rfl (hHT2.r 904 33 928 rfl) ?_
        refine l_iload_n rfl rfl ?_
        refine l_iaload (n := 12) rfl rfl (by omega) (by omega) (by unfold rg; omega) ?_
        have w48 : 0 ≤ (Xi T2 928 ((v3).toNat)) ∧ (Xi T2 928 ((v3).toNat)) ≤ 7 := hHT2.c _ _
        have e112 : (Xi T2 928 ((v3).toNat)) = Xi S 928 (v3).toNat := by first | rfl | exact (hFT2.cx 928 rfl _).1
        refine l_aload_n rfl rfl ?_
        refine l_gfi rfl rfl rfl rfl rfl ?_
        have w49 : (Xi T2 904 117) = (Xi T1 904 117) := (show Xi T2 904 117 = Xi T1 904 117 from w35.x _ _ rfl)
        rw [w49]
        have w50 : 0 ≤ Xi T2 904 106 ∧ Xi T2 904 106 ≤ 9 := hHT2.c _ _
        have w51 : Xi T2 904 108 = Xi T1 904 108 := (show Xi T2 904 108 = Xi T1 904 108 from w35.x _ _ rfl)
        have w53 : Xi T2 904 117 = Xi T1 904 117 := (show Xi T2 904 117 = Xi T1 904 117 from w35.x _ _ rfl)
        have w55 : Xi T2 904 69 = Xi T1 904 69 := (show Xi T2 904 69 = Xi T1 904 69 from w35.x _ _ rfl)
        have w57 : Xi T2 904 78 = Xi T1 904 78 := (show Xi T2 904 78 = Xi T1 904 78 from w35.x _ _ rfl)
        refine l_callV rfl rfl rfl (t_mo_whatMeant hHT2 n (Xi T1 904 78) 2 (Xi T2 928 ((v3).toNat)) (Xi T1 904 117) ⟨by omega, by omega⟩ ⟨by omega, by omega⟩ ⟨by omega, by omega⟩ ⟨by omega, by omega⟩ (by first | assumption | exact (TK_FR hFT2 rfl (by assumption : TK S _))) (by first | assumption | exact (RNV_FR hFT2 rfl (by assumption : RNV S _))) (by first | assumption | exact (LXM_FR hFT2 rfl (by assumption : LXM S))) (by first | assumption | exact (TXK_FR hFT2 rfl (by assumption : TXK S _))) (by first | assumption | omega) (fun a b => by rw [(hFT2.cx 907 rfl _).1, show Xi T1 904 78 = Xi S 904 78 by omega] at a b; have t := hw2 a b; omega) _) ?_
        rintro _ T3 ⟨hHT3, w62, rfl, w59, o117, w60⟩
        have hFT3 : FR md_mo_askProperty S T3 := FR.tr hFT2 w62 rfl
        show Rl _ _ _ _ _ [] _ _
        refine l_return rfl rfl ?_
        have w63 : 0 ≤ Xi T3 904 106 ∧ Xi T3 904 106 ≤ 9 := hHT3.c _ _
        have w64 : Xi T3 904 108 = Xi T1 904 108 := (show Xi T3 904 108 = Xi T2 904 108 from w62.x _ _ rfl).trans ((show Xi T2 904 108 = Xi T1 904 108 from w35.x _ _ rfl))
        have w66 : Xi T3 904 117 = Xi T1 904 117 := (show Xi T3 904 117 = Xi T2 904 117 from w62.x _ _ rfl).trans ((show Xi T2 904 117 = Xi T1 904 117 from w35.x _ _ rfl))
        have w68 : Xi T3 904 69 = Xi T1 904 69 := (show Xi T3 904 69 = Xi T2 904 69 from w62.x _ _ rfl).trans ((show Xi T2 904 69 = Xi T1 904 69 from w35.x _ _ rfl))
        have w70 : Xi T3 904 78 = Xi T1 904 78 := (show Xi T3 904 78 = Xi T2 904 78 from w62.x _ _ rfl).trans ((show Xi T2 904 78 = Xi T1 904 78 from w35.x _ _ rfl))
        exact ⟨hHT3, hFT3, rfl, (fun q => (by first | (refine ⟨by omega, by omega, ?_⟩; rw [show (Xi S 904 117).toNat = (Xi T1 904 117).toNat by omega]; exact o117) | (exfalso; omega))), (by first | exact KQ.tr K93 (by rw [show Xi S 904 117 = Xi T1 904 117 by omega]; assumption) | exact K93)⟩
    refine l_aload_n rfl rfl ?_
    refine l_iconst rfl ?_
    refine l_bipush rfl rfl ?_
    have w73 : 0 ≤ Xi S 904 108 ∧ Xi S 904 108 ≤ 2600 := hH.c _ _
    refine l_callV rfl rfl rfl (t_mo_meansRun__2 hH n 0 7 ⟨by omega, by omega⟩ ⟨by omega, by omega⟩ (by first | assumption | exact (TK_FR hF rfl (by assumption : TK S _))) (by first | assumption | exact (RNV_FR hF rfl (by assumption : RNV S _))) (by first | assumption | omega) (by first | assumption | exact (LXM_FR hF rfl (by assumption : LXM S))) _) ?_
    rintro _ _ ⟨rfl, z79, rfl, w79, w77, w78⟩
    show Rl _ _ _ _ _ [iv z79] _ _
    have x32 : z79 ≠ -1 → z79 < Xi S 904 32 := fun q => by have t := (by assumption : z79 ≠ -1 → z79 < cM S 7) q; rw [cM7] at t; exact t
    have r32 : z79 = rnR S 0 7 := (by assumption : z79 = rnR S _ _).trans (rnR_FR hF rfl rfl)
    refine l_istore_n rfl rfl rfl ?_
    refine l_aload_n rfl rfl ?_
    refine l_iload_n rfl rfl ?_
    refine l_iconst rfl ?_
    refine l_icmp_eq rfl rfl (by unfold rg; omega) (by unfold rg; omega) (fun w80 => ?_) (fun w81 => ?_)
    · refine l_iconst rfl ?_
      refine l_iconst rfl ?_
      refine l_aload_n rfl rfl ?_
      refine l_gfr rfl rfl rfl rfl rfl (hH.r 904 67 950 rfl) ?_
      refine l_iconst rfl ?_
      refine l_iaload (n := 2600) rfl rfl (by omega) (by omega) (by unfold rg; omega) ?_
      have w82 : 0 ≤ (Xi S 950 ((1 : Int).toNat)) ∧ (Xi S 950 ((1 : Int).toNat)) ≤ 5010 := hH.c _ _
      have w83 : (Xi S 950 ((1 : Int).toNat)) = Xi S 950 1 := rfl
      refine l_callV rfl rfl rfl (t_mo_need hH 0 4 (Xi S 950 ((1 : Int).toNat)) ⟨by omega, by omega⟩ ⟨by omega, by omega⟩ ⟨by omega, by omega⟩ _) ?_
      rintro _ T4 ⟨hHT4, w92, rfl, w89, w90⟩
      have hFT4 : FR md_mo_askProperty S T4 := FR.tr hF w92 rfl
      show Rl _ _ _ _ _ [] _ _
      refine l_iload_n rfl rfl ?_
      refine l_iconst rfl ?_
      refine l_icmp_eq rfl rfl (by unfold rg; omega) (by unfold rg; omega) (fun w93 => ?_) (fun w94 => ?_)
      · refine l_iconst rfl ?_
        refine l_istore rfl rfl rfl ?_
        have w95 : 0 ≤ Xi T4 904 106 ∧ Xi T4 904 106 ≤ 9 := hHT4.c _ _
        have w96 : Xi T4 904 108 = Xi S 904 108 := (show Xi T4 904 108 = Xi S 904 108 from w92.x _ _ rfl)
        have w98 : Xi T4 904 117 = Xi S 904 117 := (show Xi T4 904 117 = Xi S 904 117 from w92.x _ _ rfl)
        have w100 : Xi T4 904 69 = Xi S 904 69 := (show Xi T4 904 69 = Xi S 904 69 from w92.x _ _ rfl)
        have w102 : Xi T4 904 78 = Xi S 904 78 := (show Xi T4 904 78 = Xi S 904 78 from w92.x _ _ rfl)
        exact Rl_weak (C83 T4 hHT4 hFT4 (z79) (0) (by omega) (by omega) (by omega) (by omega) (by omega) (by omega) (by omega) (by omega) (by omega) (KQ_FR (by assumption : FR md_mo_need S T4) rfl KQ.rf)) (And.intro rfl (And.intro rfl (And.intro rfl (True.intro))))
      · refine l_iload_n rfl rfl ?_
        refine l_iconst rfl ?_
        refine l_icmp_eq rfl rfl (by unfold rg; omega) (by unfold rg; omega) (fun w104 => ?_) (fun w105 => ?_)
        · refine l_iconst rfl ?_
          refine l_goto rfl rfl ?_
          refine l_istore rfl rfl rfl ?_
          have w106 : 0 ≤ Xi T4 904 106 ∧ Xi T4 904 106 ≤ 9 := hHT4.c _ _
          have w107 : Xi T4 904 108 = Xi S 904 108 := (show Xi T4 904 108 = Xi S 904 108 from w92.x _ _ rfl)
          have w109 : Xi T4 904 117 = Xi S 904 117 := (show Xi T4 904 117 = Xi S 904 117 from w92.x _ _ rfl)
          have w111 : Xi T4 904 69 = Xi S 904 69 := (show Xi T4 904 69 = Xi S 904 69 from w92.x _ _ rfl)
          have w113 : Xi T4 904 78 = Xi S 904 78 := (show Xi T4 904 78 = Xi S 904 78 from w92.x _ _ rfl)
          exact Rl_weak (C83 T4 hHT4 hFT4 (z79) (1) (by omega) (by omega) (by omega) (by omega) (by omega) (by omega) (by omega) (by omega) (by omega) (KQ_FR (by assumption : FR md_mo_need S T4) rfl KQ.rf)) (And.intro rfl (And.intro rfl (And.intro rfl (True.intro))))
        · refine l_aload_n rfl rfl ?_
          refine l_iload_n rfl rfl ?_
          refine l_iload_n rfl rfl ?_
          have w115 : 0 ≤ Xi T4 904 106 ∧ Xi T4 904 106 ≤ 9 := hHT4.c _ _
          have w116 : Xi T4 904 108 = Xi S 904 108 := (show Xi T4 904 108 = Xi S 904 108 from w92.x _ _ rfl)
          have w118 : Xi T4 904 117 = Xi S 904 117 := (show Xi T4 904 117 = Xi S 904 117 from w92.x _ _ rfl)
          have w120 : Xi T4 904 69 = Xi S 904 69 := (show Xi T4 904 69 = Xi S 904 69 from w92.x _ _ rfl)
          have w122 : Xi T4 904 78 = Xi S 904 78 := (show Xi T4 904 78 = Xi S 904 78 from w92.x _ _ rfl)
          refine l_callV rfl rfl rfl (t_mo_has hHT4 v2 z79 ⟨by omega, by omega⟩ ⟨by omega, by omega⟩ (by first | assumption | exact (ABV_FR hFT4 rfl (by assumption : ABV S))) _) ?_
          rintro _ _ ⟨rfl, z125, rfl, w125, w124⟩
          show Rl _ _ _ _ _ [iv z125] _ _
          refine l_if_eq rfl rfl (by unfold rg; omega) (fun w126 => ?_) (fun w127 => ?_)
          · refine l_iconst rfl ?_
            refine l_istore rfl rfl rfl ?_
            exact Rl_weak (C83 T4 hHT4 hFT4 (z79) (0) (by omega) (by omega) (by omega) (by omega) (by omega) (by omega) (by omega) (by omega) (by omega) (KQ_FR (by assumption : FR md_mo_need S T4) rfl KQ.rf)) (And.intro rfl (And.intro rfl (And.intro rfl (True.intro))))
          · refine l_iconst rfl ?_
            refine l_goto rfl rfl ?_
            refine l_istore rfl rfl rfl ?_
            exact Rl_weak (C83 T4 hHT4 hFT4 (z79) (1) (by omega) (by omega) (by omega) (by omega) (by omega) (by omega) (by omega) (by omega) (by omega) (KQ_FR (by assumption : FR md_mo_need S T4) rfl KQ.rf)) (And.intro rfl (And.intro rfl (And.intro rfl (True.intro))))
    · refine l_iconst rfl ?_
      refine l_goto rfl rfl ?_
      refine l_iconst rfl ?_
      refine l_aload_n rfl rfl ?_
      refine l_gfr rfl rfl rfl rfl rfl (hH.r 904 67 950 rfl) ?_
      refine l_iconst rfl ?_
      refine l_iaload (n := 2600) rfl rfl (by omega) (by omega) (by unfold rg; omega) ?_
      have w146 : 0 ≤ (Xi S 950 ((1 : Int).toNat)) ∧ (Xi S 950 ((1 : Int).toNat)) ≤ 5010 := hH.c _ _
      have w147 : (Xi S 950 ((1 : Int).toNat)) = Xi S 950 1 := rfl
      refine l_callV rfl rfl rfl (t_mo_need hH 1 4 (Xi S 950 ((1 : Int).toNat)) ⟨by omega, by omega⟩ ⟨by omega, by omega⟩ ⟨by omega, by omega⟩ _) ?_
      rintro _ T5 ⟨hHT5, w156, rfl, w153, w154⟩
      have hFT5 : FR md_mo_askProperty S T5 := FR.tr hF w156 rfl
      show Rl _ _ _ _ _ [] _ _
      refine l_iload_n rfl rfl ?_
      refine l_iconst rfl ?_
      refine l_icmp_eq rfl rfl (by unfold rg; omega) (by unfold rg; omega) (fun w157 => ?_) (fun w158 => ?_)
      · refine l_iconst rfl ?_
        refine l_istore rfl rfl rfl ?_
        have w159 : 0 ≤ Xi T5 904 106 ∧ Xi T5 904 106 ≤ 9 := hHT5.c _ _
        have w160 : Xi T5 904 108 = Xi S 904 108 := (show Xi T5 904 108 = Xi S 904 108 from w156.x _ _ rfl)
        have w162 : Xi T5 904 117 = Xi S 904 117 := (show Xi T5 904 117 = Xi S 904 117 from w156.x _ _ rfl)
        have w164 : Xi T5 904 69 = Xi S 904 69 := (show Xi T5 904 69 = Xi S 904 69 from w156.x _ _ rfl)
        have w166 : Xi T5 904 78 = Xi S 904 78 := (show Xi T5 904 78 = Xi S 904 78 from w156.x _ _ rfl)
        exact Rl_weak (C83 T5 hHT5 hFT5 (z79) (0) (by omega) (by omega) (by omega) (by omega) (by omega) (by omega) (by omega) (by omega) (by omega) (KQ_FR (by assumption : FR md_mo_need S T5) rfl KQ.rf)) (And.intro rfl (And.intro rfl (And.intro rfl (True.intro))))
      · refine l_iload_n rfl rfl ?_
        refine l_iconst rfl ?_
        refine l_icmp_eq rfl rfl (by unfold rg; omega) (by unfold rg; omega) (fun w168 => ?_) (fun w169 => ?_)
        · refine l_iconst rfl ?_
          refine l_goto rfl rfl ?_
          refine l_istore rfl rfl rfl ?_
          have w170 : 0 ≤ Xi T5 904 106 ∧ Xi T5 904 106 ≤ 9 := hHT5.c _ _
          have w171 : Xi T5 904 108 = Xi S 904 108 := (show Xi T5 904 108 = Xi S 904 108 from w156.x _ _ rfl)
          have w173 : Xi T5 904 117 = Xi S 904 117 := (show Xi T5 904 117 = Xi S 904 117 from w156.x _ _ rfl)
          have w175 : Xi T5 904 69 = Xi S 904 69 := (show Xi T5 904 69 = Xi S 904 69 from w156.x _ _ rfl)
          have w177 : Xi T5 904 78 = Xi S 904 78 := (show Xi T5 904 78 = Xi S 904 78 from w156.x _ _ rfl)
          exact Rl_weak (C83 T5 hHT5 hFT5 (z79) (1) (by omega) (by omega) (by omega) (by omega) (by omega) (by omega) (by omega) (by omega) (by omega) (KQ_FR (by assumption : FR md_mo_need S T5) rfl KQ.rf)) (And.intro rfl (And.intro rfl (And.intro rfl (True.intro))))
        · refine l_aload_n rfl rfl ?_
          refine l_iload_n rfl rfl ?_
          refine l_iload_n rfl rfl ?_
          have w179 : 0 ≤ Xi T5 904 106 ∧ Xi T5 904 106 ≤ 9 := hHT5.c _ _
          have w180 : Xi T5 904 108 = Xi S 904 108 := (show Xi T5 904 108 = Xi S 904 108 from w156.x _ _ rfl)
          have w182 : Xi T5 904 117 = Xi S 904 117 := (show Xi T5 904 117 = Xi S 904 117 from w156.x _ _ rfl)
          have w184 : Xi T5 904 69 = Xi S 904 69 := (show Xi T5 904 69 = Xi S 904 69 from w156.x _ _ rfl)
          have w186 : Xi T5 904 78 = Xi S 904 78 := (show Xi T5 904 78 = Xi S 904 78 from w156.x _ _ rfl)
          refine l_callV rfl rfl rfl (t_mo_has hHT5 v2 z79 ⟨by omega, by omega⟩ ⟨by omega, by omega⟩ (by first | assumption | exact (ABV_FR hFT5 rfl (by assumption : ABV S))) _) ?_
          rintro _ _ ⟨rfl, z189, rfl, w189, w188⟩
          show Rl _ _ _ _ _ [iv z189] _ _
          refine l_if_eq rfl rfl (by unfold rg; omega) (fun w190 => ?_) (fun w191 => ?_)
          · refine l_iconst rfl ?_
            refine l_istore rfl rfl rfl ?_
            exact Rl_weak (C83 T5 hHT5 hFT5 (z79) (0) (by omega) (by omega) (by omega) (by omega) (by omega) (by omega) (by omega) (by omega) (by omega) (KQ_FR (by assumption : FR md_mo_need S T5) rfl KQ.rf)) (And.intro rfl (And.intro rfl (And.intro rfl (True.intro))))
          · refine l_iconst rfl ?_
            refine l_goto rfl rfl ?_
            refine l_istore rfl rfl rfl ?_
            exact Rl_weak (C83 T5 hHT5 hFT5 (z79) (1) (by omega) (by omega) (by omega) (by omega) (by omega) (by omega) (by omega) (by omega) (by omega) (KQ_FR (by assumption : FR md_mo_need S T5) rfl KQ.rf)) (And.intro rfl (And.intro rfl (And.intro rfl (True.intro))))
  refine l_aload_n rfl rfl ?_
  refine l_iconst rfl ?_
  refine l_iconst rfl ?_
  have w211 : 0 ≤ Xi S 904 108 ∧ Xi S 904 108 ≤ 2600 := hH.c _ _
  refine l_callV rfl rfl rfl (t_mo_meansRun__2 hH n 1 4 ⟨by omega, by omega⟩ ⟨by omega, by omega⟩ (by first | assumption | exact (TK_FR hF rfl (by assumption : TK S _))) (by first | assumption | exact (RNV_FR hF rfl (by assumption : RNV S _))) (by first | assumption | omega) (by first | assumption | exact (LXM_FR hF rfl (by assumption : LXM S))) _) ?_
  rintro _ _ ⟨rfl, z217, rfl, w217, w215, w216⟩
  show Rl _ _ _ _ _ [iv z217] _ _
  have x3 : z217 ≠ -1 → z217 < Xi S 904 19 := fun q => by have t := (by assumption : z217 ≠ -1 → z217 < cM S 4) q; rw [cM4] at t; exact t
  have r3 : z217 = rnR S 1 4 := (by assumption : z217 = rnR S _ _).trans (rnR_FR hF rfl rfl)
  refine l_istore_n rfl rfl rfl ?_
  refine l_iload_n rfl rfl ?_
  refine l_iconst rfl ?_
  refine l_icmp_eq rfl rfl (by unfold rg; omega) (by unfold rg; omega) (fun w218 => ?_) (fun w219 => ?_)
  · refine l_aload_n rfl rfl ?_
    refine l_iconst rfl ?_
    refine l_iconst rfl ?_
    refine l_callV rfl rfl rfl (t_mo_meansRun__2 hH n 1 0 ⟨by omega, by omega⟩ ⟨by omega, by omega⟩ (by first | assumption | exact (TK_FR hF rfl (by assumption : TK S _))) (by first | assumption | exact (RNV_FR hF rfl (by assumption : RNV S _))) (by first | assumption | omega) (by first | assumption | exact (LXM_FR hF rfl (by assumption : LXM S))) _) ?_
    rintro _ _ ⟨rfl, z227, rfl, w227, w225, w226⟩
    show Rl _ _ _ _ _ [iv z227] _ _
    have x24 : z227 ≠ -1 → z227 < Xi S 904 16 := fun q => by have t := (by assumption : z227 ≠ -1 → z227 < cM S 0) q; rw [cM0] at t; exact t
    have r24 : z227 = rnR S 1 0 := (by assumption : z227 = rnR S _ _).trans (rnR_FR hF rfl rfl)
    refine l_istore_n rfl rfl rfl ?_
    exact Rl_weak (C28 (z227) (by omega) (by omega)) (And.intro rfl (And.intro rfl (True.intro)))
  · refine l_aload_n rfl rfl ?_
    refine l_gfr rfl rfl rfl rfl rfl (hH.r 904 20 918 rfl) ?_
    refine l_iload_n rfl rfl ?_
    refine l_iaload (n := 24) rfl rfl (by omega) (by omega) (by unfold rg; omega) ?_
    have w233 : 0 ≤ (Xi S 918 ((z217).toNat)) ∧ (Xi S 918 ((z217).toNat)) ≤ 15 := hH.c _ _
    refine l_goto rfl rfl ?_
    refine l_istore_n rfl rfl rfl ?_
    exact Rl_weak (C28 ((Xi S 918 ((z217).toNat))) (by omega) (by omega)) (And.intro rfl (And.intro rfl (True.intro)))
-- nothing
/-! SAFETY of methods: printed by wip/safe (vc.py, decl.py) -/
theorem LXK.t {S U1 U2 U3 U4 U5 U6 U7 U8 : sS} {L : Int} {v1 v2 v3 v4 v5 : Int32} {w1 w2 w3 : Int64} (h0 : 0 ≤ L) (e1 : U1 = uI S 912 L.toNat v1) (e2 : U2 = uJ U1 913 (3 * L).toNat w1) (e3 : U3 = uJ U2 913 (3 * L + 1).toNat w2) (e4 : U4 = uJ U3 913 (3 * L + 2).toNat w3) (e5 : U5 = uI U4 914 L.toNat v2) (e6 : U6 = uI U5 915 L.toNat v3) (e7 : U7 = uI U6 916 L.toNat v4) (e8 : U8 = uI U7 904 15 v5) : LXK U8 S L := fun k hk hl => by
  have hI : ∀ a b, (a = 912 ∨ a = 914 ∨ a = 915 ∨ a = 916) → b ≠ L.toNat → Xi U8 a b = Xi S a b := fun a b ha hb => by
    have q4 : Xi U4 a b = Xi U3 a b := by rw [e4]; rfl
    have q3 : Xi U3 a b = Xi U2 a b := by rw [e3]; rfl
    have q2 : Xi U2 a b = Xi U1 a b := by rw [e2]; rfl
    rw [e8, Xi_ne (by omega), e7, Xi_ne (by omega), e6, Xi_ne (by omega), e5, Xi_ne (by omega), q4, q3, q2, e1, Xi_ne (by omega)]
  have hJ : ∀ b, b ≠ (3 * L).toNat → b ≠ (3 * L + 1).toNat → b ≠ (3 * L + 2).toNat → Xj U8 913 b = Xj S 913 b := fun b x y z => by
    have q8 : Xj U8 913 b = Xj U7 913 b := by rw [e8]; rfl
    have q7 : Xj U7 913 b = Xj U6 913 b := by rw [e7]; rfl
    have q6 : Xj U6 913 b = Xj U5 913 b := by rw [e6]; rfl
    have q5 : Xj U5 913 b = Xj U4 913 b := by rw [e5]; rfl
    have q1 : Xj U1 913 b = Xj S 913 b := by rw [e1]; rfl
    rw [q8, q7, q6, q5, e4, Xj_ne (by omega), e3, Xj_ne (by omega), e2, Xj_ne (by omega), q1]
  exact ⟨hI 912 _ (by omega) (by omega), hJ _ (by omega) (by omega) (by omega), hJ _ (by omega) (by omega) (by omega), hJ _ (by omega) (by omega) (by omega), hI 916 _ (by omega) (by omega), hI 914 _ (by omega) (by omega), hI 915 _ (by omega) (by omega)⟩
def md_mo_tell : List rec := [(904, 905, 15, 16), (912, 913, 0, 100000), (913, 914, 0, 100000), (914, 915, 0, 100000), (915, 916, 0, 100000), (916, 917, 0, 100000)]
abbrev Q_mo_tell (S : sS) (so : Int) (ix : Int) (a : Int) (b : Int) (c : Int) (m : Int) : pst := fun r S1 => HI S1 ∧ FR md_mo_tell S S1 ∧ (r = none ∧ (Xi S1 904 15 = Xi S 904 15 + 1) ∧ (Xi S1 914 (Xi S 904 15).toNat = so ∧ Xi S1 915 (Xi S 904 15).toNat = ix) ∧ (LXK S1 S (Xi S 904 15)))
set_option maxRecDepth 100000 in
theorem t_mo_tell {S : sS} (hH : HI S) (so : Int) (ix : Int) (a : Int) (b : Int) (c : Int) (m : Int) (hso : 0 ≤ so ∧ so ≤ 12) (hix : 0 ≤ ix ∧ ix ≤ 63) (hm : 0 ≤ m ∧ m ≤ 3) (hle : Xi S 904 15 ≤ 299) (d : Nat) : Mt lay0 (d + 1) m_mo_tell [.ref 904, iv so, iv ix, jw a, jw b, jw c, iv m] S (Q_mo_tell S so ix a b c m) := by
  refine Mt_R rfl rfl ?_
  have hF : FR md_mo_tell S S := FR.rf
  have w1 : 0 ≤ Xi S 904 15 ∧ Xi S 904 15 ≤ 300 := hH.c _ _
  refine l_aload_n rfl rfl ?_
  refine l_gfr rfl rfl rfl rfl rfl (hH.r 904 10 912 rfl) ?_
  refine l_aload_n rfl rfl ?_
  refine l_gfi rfl rfl rfl rfl rfl ?_
  refine l_iload rfl rfl ?_
  refine l_iastore (n := 300) rfl rfl (by omega) (by omega) (by unfold rg; omega) ?_
  obtain ⟨U1, eU1⟩ : ∃ T : sS, T = uI S 912 (((Xi S 904 15)).toNat) (Int32.ofInt m) := ⟨_, rfl⟩
  rw [← eU1]
  have hHU1 : HI U1 := by rw [eU1]; exact HI_w hH (show 0 ≤ m by omega) (show m ≤ 3 by omega)
  have hFU1 : FR md_mo_tell S U1 := by rw [eU1]; exact FR.wI hF (mdf_i (r := (912, 913, 0, 100000)) (List.mem_of_getElem? (i := 1) rfl) (inR_i (by omega) (by omega) (by omega) (by omega)))
  have w2 : Xi U1 912 (((Xi S 904 15)).toNat) = m := by rw [eU1]; exact Xi_same (by unfold rg; omega)
  refine l_aload_n rfl rfl ?_
  refine l_gfr rfl rfl rfl rfl rfl (hHU1.r 904 11 913 rfl) ?_
  refine l_iconst rfl ?_
  refine l_aload_n rfl rfl ?_
  refine l_gfi rfl rfl rfl rfl rfl ?_
  have w3 : (Xi U1 904 15) = (Xi S 904 15) := (show Xi U1 904 15 = Xi S 904 15 from by rw [eU1]; exact Xi_ne (by omega))
  rw [w3]
  refine l_imul rfl ?_
  refine l_lload_n rfl rfl ?_
  refine l_lastore (n := 900) rfl rfl (by omega) (by omega) (by unfold rg; omega) ?_
  obtain ⟨U2, eU2⟩ : ∃ T : sS, T = uJ U1 913 (((3 * (Xi S 904 15))).toNat) (Int64.ofInt a) := ⟨_, rfl⟩
  rw [← eU2]
  have hHU2 : HI U2 := by rw [eU2]; exact HI_J hHU1
  have hFU2 : FR md_mo_tell S U2 := by rw [eU2]; exact FR.wJ hFU1 (mdf_i (r := (913, 914, 0, 100000)) (List.mem_of_getElem? (i := 2) rfl) (inR_i (by omega) (by omega) (by omega) (by omega)))
  refine l_aload_n rfl rfl ?_
  refine l_gfr rfl rfl rfl rfl rfl (hHU2.r 904 11 913 rfl) ?_
  refine l_iconst rfl ?_
  refine l_aload_n rfl rfl ?_
  refine l_gfi rfl rfl rfl rfl rfl ?_
  have w4 : (Xi U2 904 15) = (Xi S 904 15) := (show Xi U2 904 15 = Xi U1 904 15 from by rw [eU2]; rfl).trans ((show Xi U1 904 15 = Xi S 904 15 from by rw [eU1]; exact Xi_ne (by omega)))
  rw [w4]
  refine l_imul rfl ?_
  refine l_iconst rfl ?_
  refine l_iadd rfl ?_
  refine l_lload rfl rfl ?_
  refine l_lastore (n := 900) rfl rfl (by omega) (by omega) (by unfold rg; omega) ?_
  obtain ⟨U3, eU3⟩ : ∃ T : sS, T = uJ U2 913 ((((3 * (Xi S 904 15)) + 1)).toNat) (Int64.ofInt b) := ⟨_, rfl⟩
  rw [← eU3]
  have hHU3 : HI U3 := by rw [eU3]; exact HI_J hHU2
  have hFU3 : FR md_mo_tell S U3 := by rw [eU3]; exact FR.wJ hFU2 (mdf_i (r := (913, 914, 0, 100000)) (List.mem_of_getElem? (i := 2) rfl) (inR_i (by omega) (by omega) (by omega) (by omega)))
  refine l_aload_n rfl rfl ?_
  refine l_gfr rfl rfl rfl rfl rfl (hHU3.r 904 11 913 rfl) ?_
  refine l_iconst rfl ?_
  refine l_aload_n rfl rfl ?_
  refine l_gfi rfl rfl rfl rfl rfl ?_
  have w5 : (Xi U3 904 15) = (Xi S 904 15) := (show Xi U3 904 15 = Xi U2 904 15 from by rw [eU3]; rfl).trans ( (show Xi U2 904 15 = Xi U1 904 15 from by rw [eU2]; rfl).trans ((show Xi U1 904 15 = Xi S 904 15 from by rw [eU1]; exact Xi_ne (by omega))))
  rw [w5]
  refine l_imul rfl ?_
  refine l_iconst rfl ?_
  refine l_iadd rfl ?_
  refine l_lload rfl rfl ?_
  refine l_lastore (n := 900) rfl rfl (by omega) (by omega) (by unfold rg; omega) ?_
  obtain ⟨U4, eU4⟩ : ∃ T : sS, T = uJ U3 913 ((((3 * (Xi S 904 15)) + 2)).toNat) (Int64.ofInt c) := ⟨_, rfl⟩
  rw [← eU4]
  have hHU4 : HI U4 := by rw [eU4]; exact HI_J hHU3
  have hFU4 : FR md_mo_tell S U4 := by rw [eU4]; exact FR.wJ hFU3 (mdf_i (r := (913, 914, 0, 100000)) (List.mem_of_getElem? (i := 2) rfl) (inR_i (by omega) (by omega) (by omega) (by omega)))
  refine l_aload_n rfl rfl ?_
  refine l_gfr rfl rfl rfl rfl rfl (hHU4.r 904 12 914 rfl) ?_
  refine l_aload_n rfl rfl ?_
  refine l_gfi rfl rfl rfl rfl rfl ?_
  have w6 : (Xi U4 904 15) = (Xi S 904 15) := (show Xi U4 904 15 = Xi U3 904 15 from by rw [eU4]; rfl).trans ( (show Xi U3 904 15 = Xi U2 904 15 from by rw [eU3]; rfl).trans ( (show Xi U2 904 15 = Xi U1 904 15 from by rw [eU2]; rfl).trans ((show Xi U1 904 15 = Xi S 904 15 from by rw [eU1]; exact Xi_ne (by omega)))))
  rw [w6]
  refine l_iload_n rfl rfl ?_
  refine l_iastore (n := 300) rfl rfl (by omega) (by omega) (by unfold rg; omega) ?_
  obtain ⟨U5, eU5⟩ : ∃ T : sS, T = uI U4 914 (((Xi S 904 15)).toNat) (Int32.ofInt so) := ⟨_, rfl⟩
  rw [← eU5]
  have hHU5 : HI U5 := by rw [eU5]; exact HI_w hHU4 (show 0 ≤ so by omega) (show so ≤ 12 by omega)
  have hFU5 : FR md_mo_tell S U5 := by rw [eU5]; exact FR.wI hFU4 (mdf_i (r := (914, 915, 0, 100000)) (List.mem_of_getElem? (i := 3) rfl) (inR_i (by omega) (by omega) (by omega) (by omega)))
  have w7 : Xi U5 914 (((Xi S 904 15)).toNat) = so := by rw [eU5]; exact Xi_same (by unfold rg; omega)
  refine l_aload_n rfl rfl ?_
  refine l_gfr rfl rfl rfl rfl rfl (hHU5.r 904 13 915 rfl) ?_
  refine l_aload_n rfl rfl ?_
  refine l_gfi rfl rfl rfl rfl rfl ?_
  have w8 : (Xi U5 904 15) = (Xi S 904 15) := (show Xi U5 904 15 = Xi U4 904 15 from by rw [eU5]; exact Xi_ne (by omega)).trans ( (show Xi U4 904 15 = Xi U3 904 15 from by rw [eU4]; rfl).trans ( (show Xi U3 904 15 = Xi U2 904 15 from by rw [eU3]; rfl).trans ( (show Xi U2 904 15 = Xi U1 904 15 from by rw [eU2]; rfl).trans ((show Xi U1 904 15 = Xi S 904 15 from by rw [eU1]; exact Xi_ne (by omega))))))
  rw [w8]
  refine l_iload_n rfl rfl ?_
  refine l_iastore (n := 300) rfl rfl (by omega) (by omega) (by unfold rg; omega) ?_
  obtain ⟨U6, eU6⟩ : ∃ T : sS, T = uI U5 915 (((Xi S 904 15)).toNat) (Int32.ofInt ix) := ⟨_, rfl⟩
  rw [← eU6]
  have hHU6 : HI U6 := by rw [eU6]; exact HI_w hHU5 (show 0 ≤ ix by omega) (show ix ≤ 63 by omega)
  have hFU6 : FR md_mo_tell S U6 := by rw [eU6]; exact FR.wI hFU5 (mdf_i (r := (915, 916, 0, 100000)) (List.mem_of_getElem? (i := 4) rfl) (inR_i (by omega) (by omega) (by omega) (by omega)))
  have w9 : Xi U6 915 (((Xi S 904 15)).toNat) = ix := by rw [eU6]; exact Xi_same (by unfold rg; omega)
  refine l_aload_n rfl rfl ?_
  refine l_gfr rfl rfl rfl rfl rfl (hHU6.r 904 14 916 rfl) ?_
  refine l_aload_n rfl rfl ?_
  refine l_gfi rfl rfl rfl rfl rfl ?_
  have w10 : (Xi U6 904 15) = (Xi S 904 15) := (show Xi U6 904 15 = Xi U5 904 15 from by rw [eU6]; exact Xi_ne (by omega)).trans ( (show Xi U5 904 15 = Xi U4 904 15 from by rw [eU5]; exact Xi_ne (by omega)).trans ( (show Xi U4 904 15 = Xi U3 904 15 from by rw [eU4]; rfl).trans ( (show Xi U3 904 15 = Xi U2 904 15 from by rw [eU3]; rfl).trans ( (show Xi U2 904 15 = Xi U1 904 15 from by rw [eU2]; rfl).trans ((show Xi U1 904 15 = Xi S 904 15 from by rw [eU1]; exact Xi_ne (by omega)))))))
  rw [w10]
  refine l_iconst rfl ?_
  refine l_bastoreZ1 (n := 300) rfl rfl (by omega) (by omega) (by unfold rg; omega) ⟨by omega, by omega⟩ ?_
  obtain ⟨U7, eU7⟩ : ∃ T : sS, T = uI U6 916 (((Xi S 904 15)).toNat) (Int32.ofInt 0) := ⟨_, rfl⟩
  rw [← eU7]
  have hHU7 : HI U7 := by rw [eU7]; exact HI_w hHU6 (show 0 ≤ 0 by omega) (show 0 ≤ 1 by omega)
  have hFU7 : FR md_mo_tell S U7 := by rw [eU7]; exact FR.wI hFU6 (mdf_i (r := (916, 917, 0, 100000)) (List.mem_of_getElem? (i := 5) rfl) (inR_i (by omega) (by omega) (by omega) (by omega)))
  have w11 : Xi U7 916 (((Xi S 904 15)).toNat) = 0 := by rw [eU7]; exact Xi_same (by unfold rg; omega)
  refine l_aload_n rfl rfl ?_
  refine l_dup rfl rfl ?_
  refine l_gfi rfl rfl rfl rfl rfl ?_
  have w12 : (Xi U7 904 15) = (Xi S 904 15) := (show Xi U7 904 15 = Xi U6 904 15 from by rw [eU7]; exact Xi_ne (by omega)).trans ( (show Xi U6 904 15 = Xi U5 904 15 from by rw [eU6]; exact Xi_ne (by omega)).trans ( (show Xi U5 904 15 = Xi U4 904 15 from by rw [eU5]; exact Xi_ne (by omega)).trans ( (show Xi U4 904 15 = Xi U3 904 15 from by rw [eU4]; rfl).trans ( (show Xi U3 904 15 = Xi U2 904 15 from by rw [eU3]; rfl).trans ( (show Xi U2 904 15 = Xi U1 904 15 from by rw [eU2]; rfl).trans ((show Xi U1 904 15 = Xi S 904 15 from by rw [eU1]; exact Xi_ne (by omega))))))))
  rw [w12]
  refine l_iconst rfl ?_
  refine l_iadd rfl ?_
  refine l_pfi rfl rfl rfl rfl ?_
  obtain ⟨U8, eU8⟩ : ∃ T : sS, T = uI U7 904 15 (Int32.ofInt ((Xi S 904 15) + 1)) := ⟨_, rfl⟩
  rw [← eU8]
  have hHU8 : HI U8 := by rw [eU8]; exact HI_w hHU7 (show 0 ≤ ((Xi S 904 15) + 1) by omega) (show ((Xi S 904 15) + 1) ≤ 300 by omega)
  have hFU8 : FR md_mo_tell S U8 := by rw [eU8]; exact FR.wI hFU7 (mdf_i (r := (904, 905, 15, 16)) (List.mem_of_getElem? (i := 0) rfl) (inR_i (by omega) (by omega) (by omega) (by omega)))
  have w13 : Xi U8 904 15 = ((Xi S 904 15) + 1) := by rw [eU8]; exact Xi_same (by unfold rg; omega)
  refine l_return rfl rfl ?_
  have w14 : Xi U8 914 (Xi S 904 15).toNat = Xi U5 914 (Xi S 904 15).toNat := (show Xi U8 914 (Xi S 904 15).toNat = Xi U7 914 (Xi S 904 15).toNat from by rw [eU8]; exact Xi_ne (by omega)).trans ( (show Xi U7 914 (Xi S 904 15).toNat = Xi U6 914 (Xi S 904 15).toNat from by rw [eU7]; exact Xi_ne (by omega)).trans ((show Xi U6 914 (Xi S 904 15).toNat = Xi U5 914 (Xi S 904 15).toNat from by rw [eU6]; exact Xi_ne (by omega))))
  have w15 : Xi U8 915 (Xi S 904 15).toNat = Xi U6 915 (Xi S 904 15).toNat := (show Xi U8 915 (Xi S 904 15).toNat = Xi U7 915 (Xi S 904 15).toNat from by rw [eU8]; exact Xi_ne (by omega)).trans ((show Xi U7 915 (Xi S 904 15).toNat = Xi U6 915 (Xi S 904 15).toNat from by rw [eU7]; exact Xi_ne (by omega)))
  have w16 : 0 ≤ Xi U8 904 15 ∧ Xi U8 904 15 ≤ 300 := hHU8.c _ _
  exact ⟨hHU8, hFU8, rfl, (by omega), (by omega), (LXK.t (by omega) eU1 eU2 eU3 eU4 eU5 eU6 eU7 eU8)⟩
def md_mo_tellTokens : List rec := [(904, 905, 15, 16), (912, 913, 0, 100000), (913, 914, 0, 100000), (914, 915, 0, 100000), (915, 916, 0, 100000), (916, 917, 0, 100000)]
abbrev Q_mo_tellTokens (S : sS) (so : Int) (ix : Int) (t : Int) (m : Int) : pst := fun r S1 => HI S1 ∧ FR md_mo_tellTokens S S1 ∧ (r = none ∧ (Xi S1 904 15 = Xi S 904 15 + 1) ∧ (Xi S1 914 (Xi S 904 15).toNat = so ∧ Xi S1 915 (Xi S 904 15).toNat = ix) ∧ (LXK S1 S (Xi S 904 15)))
set_option maxRecDepth 100000 in
theorem t_mo_tellTokens {S : sS} (hH : HI S) (so : Int) (ix : Int) (t : Int) (m : Int) (hso : 0 ≤ so ∧ so ≤ 12) (hix : 0 ≤ ix ∧ ix ≤ 63) (ht : 0 ≤ t ∧ t ≤ 5001) (hm : 1 ≤ m ∧ m ≤ 3) (hle : Xi S 904 15 ≤ 299) (ht : t + m ≤ 5002) (d : Nat) : Mt lay0 (d + 2) m_mo_tellTokens [.ref 904, iv so, iv ix, iv t, iv m] S (Q_mo_tellTokens S so ix t m) := by
  refine Mt_R rfl rfl ?_
  have hF : FR md_mo_tellTokens S S := FR.rf
  have w1 : 0 ≤ Xi S 904 15 ∧ Xi S 904 15 ≤ 300 := hH.c _ _
  refine l_aload_n rfl rfl ?_
  refine l_iload_n rfl rfl ?_
  refine l_iload_n rfl rfl ?_
  refine l_aload_n rfl rfl ?_
  refine l_gfr rfl rfl rfl rfl rfl (hH.r 904 7 910 rfl) ?_
  refine l_iload_n rfl rfl ?_
  refine l_laload (n := 5002) rfl rfl (by omega) (by omega) (by unfold rg; omega) ?_
  have w2 : -9223372036854775808 ≤ (Xj S 910 ((t).toNat)) ∧ (Xj S 910 ((t).toNat)) < 9223372036854775808 := Xj_rg
  refine l_iload rfl rfl ?_
  refine l_iconst rfl ?_
  refine l_icmp_le rfl rfl (by unfold rg; omega) (by unfold rg; omega) (fun w3 => ?_) (fun w4 => ?_)
  · refine l_lconst (z := 0) rfl rfl ?_
    refine l_iload rfl rfl ?_
    refine l_iconst rfl ?_
    refine l_icmp_le rfl rfl (by unfold rg; omega) (by unfold rg; omega) (fun w5 => ?_) (fun w6 => ?_)
    · refine l_lconst (z := 0) rfl rfl ?_
      refine l_iload rfl rfl ?_
      refine l_callV rfl rfl rfl (t_mo_tell hH so ix (Xj S 910 ((t).toNat)) 0 0 m ⟨by omega, by omega⟩ ⟨by omega, by omega⟩ ⟨by omega, by omega⟩ (by first | assumption | omega) _) ?_
      rintro _ T1 ⟨hHT1, w12, rfl, w8, w9, w10⟩
      have hFT1 : FR md_mo_tellTokens S T1 := FR.tr hF w12 rfl
      show Rl _ _ _ _ _ [] _ _
      refine l_return rfl rfl ?_
      have w13 : 0 ≤ Xi T1 904 15 ∧ Xi T1 904 15 ≤ 300 := hHT1.c _ _
      exact ⟨hHT1, hFT1, rfl, (by first | assumption | omega), (by first | assumption | omega), (by first | assumption | omega)⟩
    · refine l_aload_n rfl rfl ?_
      refine l_gfr rfl rfl rfl rfl rfl (hH.r 904 7 910 rfl) ?_
      refine l_iload_n rfl rfl ?_
      refine l_iconst rfl ?_
      refine l_iadd rfl ?_
      refine l_laload (n := 5002) rfl rfl (by omega) (by omega) (by unfold rg; omega) ?_
      have w14 : -9223372036854775808 ≤ (Xj S 910 (((t + 2)).toNat)) ∧ (Xj S 910 (((t + 2)).toNat)) < 9223372036854775808 := Xj_rg
      refine l_goto rfl rfl ?_
      refine l_iload rfl rfl ?_
      refine l_callV rfl rfl rfl (t_mo_tell hH so ix (Xj S 910 ((t).toNat)) 0 (Xj S 910 (((t + 2)).toNat)) m ⟨by omega, by omega⟩ ⟨by omega, by omega⟩ ⟨by omega, by omega⟩ (by first | assumption | omega) _) ?_
      rintro _ T2 ⟨hHT2, w20, rfl, w16, w17, w18⟩
      have hFT2 : FR md_mo_tellTokens S T2 := FR.tr hF w20 rfl
      show Rl _ _ _ _ _ [] _ _
      refine l_return rfl rfl ?_
      have w21 : 0 ≤ Xi T2 904 15 ∧ Xi T2 904 15 ≤ 300 := hHT2.c _ _
      exact ⟨hHT2, hFT2, rfl, (by first | assumption | omega), (by first | assumption | omega), (by first | assumption | omega)⟩
  · refine l_aload_n rfl rfl ?_
    refine l_gfr rfl rfl rfl rfl rfl (hH.r 904 7 910 rfl) ?_
    refine l_iload_n rfl rfl ?_
    refine l_iconst rfl ?_
    refine l_iadd rfl ?_
    refine l_laload (n := 5002) rfl rfl (by omega) (by omega) (by unfold rg; omega) ?_
    have w22 : -9223372036854775808 ≤ (Xj S 910 (((t + 1)).toNat)) ∧ (Xj S 910 (((t + 1)).toNat)) < 9223372036854775808 := Xj_rg
    refine l_goto rfl rfl ?_
    refine l_iload rfl rfl ?_
    refine l_iconst rfl ?_
    refine l_icmp_le rfl rfl (by unfold rg; omega) (by unfold rg; omega) (fun w23 => ?_) (fun w24 => ?_)
    · refine l_lconst (z := 0) rfl rfl ?_
      refine l_iload rfl rfl ?_
      refine l_callV rfl rfl rfl (t_mo_tell hH so ix (Xj S 910 ((t).toNat)) (Xj S 910 (((t + 1)).toNat)) 0 m ⟨by omega, by omega⟩ ⟨by omega, by omega⟩ ⟨by omega, by omega⟩ (by first | assumption | omega) _) ?_
      rintro _ T3 ⟨hHT3, w30, rfl, w26, w27, w28⟩
      have hFT3 : FR md_mo_tellTokens S T3 := FR.tr hF w30 rfl
      show Rl _ _ _ _ _ [] _ _
      refine l_return rfl rfl ?_
      have w31 : 0 ≤ Xi T3 904 15 ∧ Xi T3 904 15 ≤ 300 := hHT3.c _ _
      exact ⟨hHT3, hFT3, rfl, (by first | assumption | omega), (by first | assumption | omega), (by first | assumption | omega)⟩
    · refine l_aload_n rfl rfl ?_
      refine l_gfr rfl rfl rfl rfl rfl (hH.r 904 7 910 rfl) ?_
      refine l_iload_n rfl rfl ?_
      refine l_iconst rfl ?_
      refine l_iadd rfl ?_
      refine l_laload (n := 5002) rfl rfl (by omega) (by omega) (by unfold rg; omega) ?_
      have w32 : -9223372036854775808 ≤ (Xj S 910 (((t + 2)).toNat)) ∧ (Xj S 910 (((t + 2)).toNat)) < 9223372036854775808 := Xj_rg
      refine l_goto rfl rfl ?_
      refine l_iload rfl rfl ?_
      refine l_callV rfl rfl rfl (t_mo_tell hH so ix (Xj S 910 ((t).toNat)) (Xj S 910 (((t + 1)).toNat)) (Xj S 910 (((t + 2)).toNat)) m ⟨by omega, by omega⟩ ⟨by omega, by omega⟩ ⟨by omega, by omega⟩ (by first | assumption | omega) _) ?_
      rintro _ T4 ⟨hHT4, w38, rfl, w34, w35, w36⟩
      have hFT4 : FR md_mo_tellTokens S T4 := FR.tr hF w38 rfl
      show Rl _ _ _ _ _ [] _ _
      refine l_return rfl rfl ?_
      have w39 : 0 ≤ Xi T4 904 15 ∧ Xi T4 904 15 ≤ 300 := hHT4.c _ _
      exact ⟨hHT4, hFT4, rfl, (by first | assumption | omega), (by first | assumption | omega), (by first | assumption | omega)⟩
def md_mo_tellRun : List rec := [(904, 905, 15, 16), (912, 913, 0, 100000), (913, 914, 0, 100000), (914, 915, 0, 100000), (915, 916, 0, 100000), (916, 917, 0, 100000)]
abbrev Q_mo_tellRun (S : sS) (n : Nat) (so : Int) (ix : Int) (rn : Int) : pst := fun r S1 => HI S1 ∧ FR md_mo_tellRun S S1 ∧ (r = none ∧ (Xi S1 904 15 = Xi S 904 15 + 1) ∧ (Xi S1 914 (Xi S 904 15).toNat = so ∧ Xi S1 915 (Xi S 904 15).toNat = ix) ∧ (LXK S1 S (Xi S 904 15)))
set_option maxRecDepth 100000 in
theorem t_mo_tellRun {S : sS} (hH : HI S) (n : Nat) (so : Int) (ix : Int) (rn : Int) (hso : 0 ≤ so ∧ so ≤ 12) (hix : 0 ≤ ix ∧ ix ≤ 63) (hrn : 0 ≤ rn ∧ rn ≤ 2599) (hT : TK S n) (hv : RNV S n) (hrr : rn < Xi S 904 69) (h3 : Xi S 951 rn.toNat ≤ 3) (hle : Xi S 904 15 ≤ 299) (d : Nat) : Mt lay0 (d + 3) m_mo_tellRun [.ref 904, iv so, iv ix, iv rn] S (Q_mo_tellRun S n so ix rn) := by
  refine Mt_R rfl rfl ?_
  have hF : FR md_mo_tellRun S S := FR.rf
  have w1 : 0 ≤ Xi S 904 15 ∧ Xi S 904 15 ≤ 300 := hH.c _ _
  have w2 : 0 ≤ Xi S 904 69 ∧ Xi S 904 69 ≤ 2600 := hH.c _ _
  have hn5 := hT.1
  have hq := hv rn.toNat (by omega)
  have hq0 : 0 ≤ Xi S 950 rn.toNat ∧ Xi S 950 rn.toNat ≤ 5010 := hH.c 950 rn.toNat
  have hc69 : 0 ≤ Xi S 904 69 ∧ Xi S 904 69 ≤ 2600 := hH.c _ _
  refine l_aload_n rfl rfl ?_
  refine l_iload_n rfl rfl ?_
  refine l_iload_n rfl rfl ?_
  refine l_aload_n rfl rfl ?_
  refine l_gfr rfl rfl rfl rfl rfl (hH.r 904 67 950 rfl) ?_
  refine l_iload_n rfl rfl ?_
  refine l_iaload (n := 2600) rfl rfl (by omega) (by omega) (by unfold rg; omega) ?_
  have w3 : 0 ≤ (Xi S 950 ((rn).toNat)) ∧ (Xi S 950 ((rn).toNat)) ≤ 5010 := hH.c _ _
  refine l_aload_n rfl rfl ?_
  refine l_gfr rfl rfl rfl rfl rfl (hH.r 904 68 951 rfl) ?_
  refine l_iload_n rfl rfl ?_
  refine l_iaload (n := 2600) rfl rfl (by omega) (by omega) (by unfold rg; omega) ?_
  have w4 : 0 ≤ (Xi S 951 ((rn).toNat)) ∧ (Xi S 951 ((rn).toNat)) ≤ 5010 := hH.c _ _
  refine l_callV rfl rfl rfl (t_mo_tellTokens hH so ix (Xi S 950 ((rn).toNat)) (Xi S 951 ((rn).toNat)) ⟨by omega, by omega⟩ ⟨by omega, by omega⟩ ⟨by omega, by omega⟩ ⟨by omega, by omega⟩ (by first | assumption | omega) (by first | assumption | omega) _) ?_
  rintro _ T1 ⟨hHT1, w10, rfl, w6, w7, w8⟩
  have hFT1 : FR md_mo_tellRun S T1 := FR.tr hF w10 rfl
  show Rl _ _ _ _ _ [] _ _
  refine l_return rfl rfl ?_
  have w11 : 0 ≤ Xi T1 904 15 ∧ Xi T1 904 15 ≤ 300 := hHT1.c _ _
  exact ⟨hHT1, hFT1, rfl, (by first | assumption | omega), (by first | assumption | omega), (by first | assumption | omega)⟩
def md_mo_addAction : List rec := [(904, 905, 49, 50), (942, 943, 0, 100000)]
abbrev Q_mo_addAction (S : sS) (kind : Int) : pst := fun r S1 => HI S1 ∧ FR md_mo_addAction S S1 ∧ (∃ z : Int, r = some (iv z) ∧ (0 ≤ z ∧ z ≤ 11) ∧ (z = Xi S 904 49) ∧ (Xi S1 904 49 = Xi S 904 49 + 1) ∧ (Xi S1 942 (Xi S 904 49).toNat = kind ∧ ∀ j : Nat, (j : Int) < Xi S 904 49 → Xi S1 942 j = Xi S 942 j))
set_option maxRecDepth 100000 in
theorem t_mo_addAction {S : sS} (hH : HI S) (kind : Int) (hkind : -2 ≤ kind ∧ kind ≤ 15) (h : Xi S 904 49 ≤ 11) (d : Nat) : Mt lay0 (d + 1) m_mo_addAction [.ref 904, iv kind] S (Q_mo_addAction S kind) := by
  refine Mt_R rfl rfl ?_
  have hF : FR md_mo_addAction S S := FR.rf
  have w1 : 0 ≤ Xi S 904 49 ∧ Xi S 904 49 ≤ 12 := hH.c _ _
  refine l_aload_n rfl rfl ?_
  refine l_gfr rfl rfl rfl rfl rfl (hH.r 904 50 942 rfl) ?_
  refine l_aload_n rfl rfl ?_
  refine l_gfi rfl rfl rfl rfl rfl ?_
  refine l_iload_n rfl rfl ?_
  refine l_iastore (n := 12) rfl rfl (by omega) (by omega) (by unfold rg; omega) ?_
  obtain ⟨U1, eU1⟩ : ∃ T : sS, T = uI S 942 (((Xi S 904 49)).toNat) (Int32.ofInt kind) := ⟨_, rfl⟩
  rw [← eU1]
  have hHU1 : HI U1 := by rw [eU1]; exact HI_w hH (show -2 ≤ kind by omega) (show kind ≤ 15 by omega)
  have hFU1 : FR md_mo_addAction S U1 := by rw [eU1]; exact FR.wI hF (mdf_i (r := (942, 943, 0, 100000)) (List.mem_of_getElem? (i := 1) rfl) (inR_i (by omega) (by omega) (by omega) (by omega)))
  have w2 : Xi U1 942 (((Xi S 904 49)).toNat) = kind := by rw [eU1]; exact Xi_same (by unfold rg; omega)
  have o9 : ∀ j : Nat, (j : Int) < Xi S 904 49 → Xi U1 942 j = Xi S 942 j := fun j hj => by rw [eU1, Xi_ne (by omega)]
  refine l_aload_n rfl rfl ?_
  refine l_dup rfl rfl ?_
  refine l_gfi rfl rfl rfl rfl rfl ?_
  have w3 : (Xi U1 904 49) = (Xi S 904 49) := (show Xi U1 904 49 = Xi S 904 49 from by rw [eU1]; exact Xi_ne (by omega))
  rw [w3]
  refine l_iconst rfl ?_
  refine l_iadd rfl ?_
  refine l_pfi rfl rfl rfl rfl ?_
  obtain ⟨U2, eU2⟩ : ∃ T : sS, T = uI U1 904 49 (Int32.ofInt ((Xi S 904 49) + 1)) := ⟨_, rfl⟩
  rw [← eU2]
  have hHU2 : HI U2 := by rw [eU2]; exact HI_w hHU1 (show 0 ≤ ((Xi S 904 49) + 1) by omega) (show ((Xi S 904 49) + 1) ≤ 12 by omega)
  have hFU2 : FR md_mo_addAction S U2 := by rw [eU2]; exact FR.wI hFU1 (mdf_i (r := (904, 905, 49, 50)) (List.mem_of_getElem? (i := 0) rfl) (inR_i (by omega) (by omega) (by omega) (by omega)))
  have w4 : Xi U2 904 49 = ((Xi S 904 49) + 1) := by rw [eU2]; exact Xi_same (by unfold rg; omega)
  have o17 : ∀ j : Nat, (j : Int) < Xi S 904 49 → Xi U2 942 j = Xi S 942 j := fun j hj => by rw [eU2, Xi_ne (by omega)]; exact o9 j hj
  refine l_aload_n rfl rfl ?_
  refine l_gfi rfl rfl rfl rfl rfl ?_
  refine l_iconst rfl ?_
  refine l_isub rfl ?_
  refine l_ireturn rfl rfl ?_
  have w5 : Xi U2 942 (Xi S 904 49).toNat = Xi U1 942 (Xi S 904 49).toNat := (show Xi U2 942 (Xi S 904 49).toNat = Xi U1 942 (Xi S 904 49).toNat from by rw [eU2]; exact Xi_ne (by omega))
  have w6 : 0 ≤ Xi U2 904 49 ∧ Xi U2 904 49 ≤ 12 := hHU2.c _ _
  exact ⟨hHU2, hFU2, _, rfl, ⟨by omega, by omega⟩, (by omega), (by omega), (⟨by omega, o17⟩)⟩
def md_mo_addAdjective : List rec := [(904, 905, 23, 24), (921, 922, 0, 100000), (922, 923, 0, 100000), (924, 925, 0, 100000)]
abbrev Q_mo_addAdjective (S : sS) (kind : Int) (oth : Int) : pst := fun r S1 => HI S1 ∧ FR md_mo_addAdjective S S1 ∧ (∃ z : Int, r = some (iv z) ∧ (0 ≤ z ∧ z ≤ 23) ∧ (z = Xi S 904 23) ∧ (Xi S1 904 23 = Xi S 904 23 + 1) ∧ (Xi S1 922 (Xi S 904 23).toNat = oth ∧ Xi S1 924 (Xi S 904 23).toNat = 0) ∧ (∀ j : Nat, (j : Int) < Xi S 904 23 → Xi S1 921 j = Xi S 921 j ∧ Xi S1 922 j = Xi S 922 j ∧ Xi S1 924 j = Xi S 924 j))
set_option maxRecDepth 100000 in
theorem t_mo_addAdjective {S : sS} (hH : HI S) (kind : Int) (oth : Int) (hkind : 0 ≤ kind ∧ kind ≤ 15) (hoth : -1 ≤ oth ∧ oth ≤ 23) (h : Xi S 904 23 ≤ 23) (d : Nat) : Mt lay0 (d + 1) m_mo_addAdjective [.ref 904, iv kind, iv oth] S (Q_mo_addAdjective S kind oth) := by
  refine Mt_R rfl rfl ?_
  have hF : FR md_mo_addAdjective S S := FR.rf
  have w1 : 0 ≤ Xi S 904 23 ∧ Xi S 904 23 ≤ 24 := hH.c _ _
  refine l_aload_n rfl rfl ?_
  refine l_gfr rfl rfl rfl rfl rfl (hH.r 904 24 921 rfl) ?_
  refine l_aload_n rfl rfl ?_
  refine l_gfi rfl rfl rfl rfl rfl ?_
  refine l_iload_n rfl rfl ?_
  refine l_iastore (n := 24) rfl rfl (by omega) (by omega) (by unfold rg; omega) ?_
  obtain ⟨U1, eU1⟩ : ∃ T : sS, T = uI S 921 (((Xi S 904 23)).toNat) (Int32.ofInt kind) := ⟨_, rfl⟩
  rw [← eU1]
  have hHU1 : HI U1 := by rw [eU1]; exact HI_w hH (show 0 ≤ kind by omega) (show kind ≤ 15 by omega)
  have hFU1 : FR md_mo_addAdjective S U1 := by rw [eU1]; exact FR.wI hF (mdf_i (r := (921, 922, 0, 100000)) (List.mem_of_getElem? (i := 1) rfl) (inR_i (by omega) (by omega) (by omega) (by omega)))
  have w2 : Xi U1 921 (((Xi S 904 23)).toNat) = kind := by rw [eU1]; exact Xi_same (by unfold rg; omega)
  have o9 : ∀ j : Nat, (j : Int) < Xi S 904 23 → Xi U1 921 j = Xi S 921 j ∧ Xi U1 922 j = Xi S 922 j ∧ Xi U1 924 j = Xi S 924 j := fun j hj => by rw [eU1, Xi_ne (by omega), Xi_ne (by omega), Xi_ne (by omega)]; exact ⟨rfl, rfl, rfl⟩
  refine l_aload_n rfl rfl ?_
  refine l_gfr rfl rfl rfl rfl rfl (hHU1.r 904 25 922 rfl) ?_
  refine l_aload_n rfl rfl ?_
  refine l_gfi rfl rfl rfl rfl rfl ?_
  have w3 : (Xi U1 904 23) = (Xi S 904 23) := (show Xi U1 904 23 = Xi S 904 23 from by rw [eU1]; exact Xi_ne (by omega))
  rw [w3]
  refine l_iload_n rfl rfl ?_
  refine l_iastore (n := 24) rfl rfl (by omega) (by omega) (by unfold rg; omega) ?_
  obtain ⟨U2, eU2⟩ : ∃ T : sS, T = uI U1 922 (((Xi S 904 23)).toNat) (Int32.ofInt oth) := ⟨_, rfl⟩
  rw [← eU2]
  have hHU2 : HI U2 := by rw [eU2]; exact HI_w hHU1 (show -1 ≤ oth by omega) (show oth ≤ 23 by omega)
  have hFU2 : FR md_mo_addAdjective S U2 := by rw [eU2]; exact FR.wI hFU1 (mdf_i (r := (922, 923, 0, 100000)) (List.mem_of_getElem? (i := 2) rfl) (inR_i (by omega) (by omega) (by omega) (by omega)))
  have w4 : Xi U2 922 (((Xi S 904 23)).toNat) = oth := by rw [eU2]; exact Xi_same (by unfold rg; omega)
  have o19 : ∀ j : Nat, (j : Int) < Xi S 904 23 → Xi U2 921 j = Xi S 921 j ∧ Xi U2 922 j = Xi S 922 j ∧ Xi U2 924 j = Xi S 924 j := fun j hj => by rw [eU2, Xi_ne (by omega), Xi_ne (by omega), Xi_ne (by omega)]; exact o9 j hj
  refine l_aload_n rfl rfl ?_
  refine l_gfr rfl rfl rfl rfl rfl (hHU2.r 904 27 924 rfl) ?_
  refine l_aload_n rfl rfl ?_
  refine l_gfi rfl rfl rfl rfl rfl ?_
  have w5 : (Xi U2 904 23) = (Xi S 904 23) := (show Xi U2 904 23 = Xi U1 904 23 from by rw [eU2]; exact Xi_ne (by omega)).trans ((show Xi U1 904 23 = Xi S 904 23 from by rw [eU1]; exact Xi_ne (by omega)))
  rw [w5]
  refine l_iconst rfl ?_
  refine l_iastore (n := 24) rfl rfl (by omega) (by omega) (by unfold rg; omega) ?_
  obtain ⟨U3, eU3⟩ : ∃ T : sS, T = uI U2 924 (((Xi S 904 23)).toNat) (Int32.ofInt 0) := ⟨_, rfl⟩
  rw [← eU3]
  have hHU3 : HI U3 := by rw [eU3]; exact HI_w hHU2 (show 0 ≤ 0 by omega) (show 0 ≤ 6 by omega)
  have hFU3 : FR md_mo_addAdjective S U3 := by rw [eU3]; exact FR.wI hFU2 (mdf_i (r := (924, 925, 0, 100000)) (List.mem_of_getElem? (i := 3) rfl) (inR_i (by omega) (by omega) (by omega) (by omega)))
  have w6 : Xi U3 924 (((Xi S 904 23)).toNat) = 0 := by rw [eU3]; exact Xi_same (by unfold rg; omega)
  have o29 : ∀ j : Nat, (j : Int) < Xi S 904 23 → Xi U3 921 j = Xi S 921 j ∧ Xi U3 922 j = Xi S 922 j ∧ Xi U3 924 j = Xi S 924 j := fun j hj => by rw [eU3, Xi_ne (by omega), Xi_ne (by omega), Xi_ne (by omega)]; exact o19 j hj
  refine l_aload_n rfl rfl ?_
  refine l_dup rfl rfl ?_
  refine l_gfi rfl rfl rfl rfl rfl ?_
  have w7 : (Xi U3 904 23) = (Xi S 904 23) := (show Xi U3 904 23 = Xi U2 904 23 from by rw [eU3]; exact Xi_ne (by omega)).trans ( (show Xi U2 904 23 = Xi U1 904 23 from by rw [eU2]; exact Xi_ne (by omega)).trans ((show Xi U1 904 23 = Xi S 904 23 from by rw [eU1]; exact Xi_ne (by omega))))
  rw [w7]
  refine l_iconst rfl ?_
  refine l_iadd rfl ?_
  refine l_pfi rfl rfl rfl rfl ?_
  obtain ⟨U4, eU4⟩ : ∃ T : sS, T = uI U3 904 23 (Int32.ofInt ((Xi S 904 23) + 1)) := ⟨_, rfl⟩
  rw [← eU4]
  have hHU4 : HI U4 := by rw [eU4]; exact HI_w hHU3 (show 0 ≤ ((Xi S 904 23) + 1) by omega) (show ((Xi S 904 23) + 1) ≤ 24 by omega)
  have hFU4 : FR md_mo_addAdjective S U4 := by rw [eU4]; exact FR.wI hFU3 (mdf_i (r := (904, 905, 23, 24)) (List.mem_of_getElem? (i := 0) rfl) (inR_i (by omega) (by omega) (by omega) (by omega)))
  have w8 : Xi U4 904 23 = ((Xi S 904 23) + 1) := by rw [eU4]; exact Xi_same (by unfold rg; omega)
  have o37 : ∀ j : Nat, (j : Int) < Xi S 904 23 → Xi U4 921 j = Xi S 921 j ∧ Xi U4 922 j = Xi S 922 j ∧ Xi U4 924 j = Xi S 924 j := fun j hj => by rw [eU4, Xi_ne (by omega), Xi_ne (by omega), Xi_ne (by omega)]; exact o29 j hj
  refine l_aload_n rfl rfl ?_
  refine l_gfi rfl rfl rfl rfl rfl ?_
  refine l_iconst rfl ?_
  refine l_isub rfl ?_
  refine l_ireturn rfl rfl ?_
  have w9 : Xi U4 922 (Xi S 904 23).toNat = Xi U2 922 (Xi S 904 23).toNat := (show Xi U4 922 (Xi S 904 23).toNat = Xi U3 922 (Xi S 904 23).toNat from by rw [eU4]; exact Xi_ne (by omega)).trans ((show Xi U3 922 (Xi S 904 23).toNat = Xi U2 922 (Xi S 904 23).toNat from by rw [eU3]; exact Xi_ne (by omega)))
  have w10 : Xi U4 924 (Xi S 904 23).toNat = Xi U3 924 (Xi S 904 23).toNat := (show Xi U4 924 (Xi S 904 23).toNat = Xi U3 924 (Xi S 904 23).toNat from by rw [eU4]; exact Xi_ne (by omega))
  have w11 : 0 ≤ Xi U4 904 23 ∧ Xi U4 904 23 ≤ 24 := hHU4.c _ _
  exact ⟨hHU4, hFU4, _, rfl, ⟨by omega, by omega⟩, (by omega), (by omega), (by omega), (o37)⟩


