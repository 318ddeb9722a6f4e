/-! SAFETY of methods: printed by wip/safe (vc.py, decl.py) -/
def md_mo_kindOfRun : List rec := [(904, 905, 104, 105), (904, 905, 105, 106), (904, 905, 106, 107)]
abbrev Q_mo_kindOfRun (S : sS) (n : Nat) (rn : Int) : pst := fun r S1 => HI S1 ∧ FR md_mo_kindOfRun S S1 ∧ (∃ z : Int, r = some (iv z) ∧ (-1 ≤ z ∧ z ≤ 15) ∧ (z ≠ -1 → z < Xi S 904 16) ∧ (z = -1 → Xi S1 904 106 ≠ 0) ∧ (Xi S 904 106 ≠ 0 → Xi S1 904 106 ≠ 0))
set_option maxRecDepth 100000 in
theorem t_mo_kindOfRun {S : sS} (hH : HI S) (n : Nat) (rn : Int) (hrn : 0 ≤ rn ∧ rn ≤ 2599) (hT : TK S n) (hv : RNV S n) (hrr : rn < Xi S 904 69) (hM : LXM S) (d : Nat) : Mt lay0 (d + 5) m_mo_kindOfRun [.ref 904, iv rn] S (Q_mo_kindOfRun S n rn) := by
  refine Mt_R rfl rfl ?_
  have hF : FR md_mo_kindOfRun S S := FR.rf
  have w1 : 0 ≤ Xi S 904 106 ∧ Xi S 904 106 ≤ 9 := hH.c _ _
  have w2 : 0 ≤ Xi S 904 16 ∧ Xi S 904 16 ≤ 16 := hH.c _ _
  have w3 : 0 ≤ Xi S 904 69 ∧ Xi S 904 69 ≤ 2600 := hH.c _ _
  have hn5 := hT.1
  have hq := hv rn.toNat (by omega)
  have hq0 : 0 ≤ Xi S 950 rn.toNat ∧ Xi S 950 rn.toNat ≤ 5010 := hH.c 950 rn.toNat
  have hc69 : 0 ≤ Xi S 904 69 ∧ Xi S 904 69 ≤ 2600 := hH.c _ _
  have hc16 : 0 ≤ Xi S 904 16 ∧ Xi S 904 16 ≤ 16 := hH.c _ _
  have hc18 : 0 ≤ Xi S 904 18 ∧ Xi S 904 18 ≤ 8 := hH.c _ _
  refine l_aload_n rfl rfl ?_
  refine l_iload_n rfl rfl ?_
  refine l_iconst rfl ?_
  have w4 : 0 ≤ Xi S 904 69 ∧ Xi S 904 69 ≤ 2600 := hH.c _ _
  refine l_callV rfl rfl rfl (t_mo_meansRun hH n rn 0 ⟨by omega, by omega⟩ ⟨by omega, by omega⟩ (by first | assumption | exact (TK_FR hF rfl (by assumption : TK S _))) (by first | assumption | exact (RNV_FR hF rfl (by assumption : RNV S _))) (by first | assumption | omega) (by first | assumption | exact (LXM_FR hF rfl (by assumption : LXM S))) _) ?_
  rintro _ _ ⟨rfl, z6, rfl, w6, w5⟩
  show Rl _ _ _ _ _ [iv z6] _ _
  have x3 : z6 ≠ -1 → z6 < Xi S 904 16 := fun q => by have t := (by assumption : z6 ≠ -1 → z6 < cM S 0) q; rw [cM0] at t; exact t
  refine l_istore_n rfl rfl rfl ?_
  refine l_aload_n rfl rfl ?_
  refine l_iload_n rfl rfl ?_
  refine l_iconst rfl ?_
  refine l_icmp_eq rfl rfl (by unfold rg; omega) (by unfold rg; omega) (fun w7 => ?_) (fun w8 => ?_)
  · refine l_iconst rfl ?_
    refine l_iconst rfl ?_
    refine l_aload_n rfl rfl ?_
    refine l_gfr rfl rfl rfl rfl rfl (hH.r 904 67 950 rfl) ?_
    refine l_iload_n rfl rfl ?_
    refine l_iaload (n := 2600) rfl rfl (by omega) (by omega) (by unfold rg; omega) ?_
    have w9 : 0 ≤ (Xi S 950 ((rn).toNat)) ∧ (Xi S 950 ((rn).toNat)) ≤ 5010 := hH.c _ _
    have w10 : 0 ≤ Xi S 904 106 ∧ Xi S 904 106 ≤ 9 := hH.c _ _
    refine l_callV rfl rfl rfl (t_mo_need hH 0 4 (Xi S 950 ((rn).toNat)) ⟨by omega, by omega⟩ ⟨by omega, by omega⟩ ⟨by omega, by omega⟩ _) ?_
    rintro _ T1 ⟨hHT1, w14, rfl, w11, w12⟩
    have hFT1 : FR md_mo_kindOfRun S T1 := FR.tr hF w14 rfl
    show Rl _ _ _ _ _ [] _ _
    refine l_iload_n rfl rfl ?_
    refine l_ireturn rfl rfl ?_
    have w15 : 0 ≤ Xi T1 904 106 ∧ Xi T1 904 106 ≤ 9 := hHT1.c _ _
    exact ⟨hHT1, hFT1, _, rfl, ⟨by omega, by omega⟩, (by first | assumption | omega), (by first | assumption | omega), (by first | assumption | omega)⟩
  · refine l_iconst rfl ?_
    refine l_goto rfl rfl ?_
    refine l_iconst rfl ?_
    refine l_aload_n rfl rfl ?_
    refine l_gfr rfl rfl rfl rfl rfl (hH.r 904 67 950 rfl) ?_
    refine l_iload_n rfl rfl ?_
    refine l_iaload (n := 2600) rfl rfl (by omega) (by omega) (by unfold rg; omega) ?_
    have w16 : 0 ≤ (Xi S 950 ((rn).toNat)) ∧ (Xi S 950 ((rn).toNat)) ≤ 5010 := hH.c _ _
    have w17 : 0 ≤ Xi S 904 106 ∧ Xi S 904 106 ≤ 9 := hH.c _ _
    refine l_callV rfl rfl rfl (t_mo_need hH 1 4 (Xi S 950 ((rn).toNat)) ⟨by omega, by omega⟩ ⟨by omega, by omega⟩ ⟨by omega, by omega⟩ _) ?_
    rintro _ T2 ⟨hHT2, w21, rfl, w18, w19⟩
    have hFT2 : FR md_mo_kindOfRun S T2 := FR.tr hF w21 rfl
    show Rl _ _ _ _ _ [] _ _
    refine l_iload_n rfl rfl ?_
    refine l_ireturn rfl rfl ?_
    have w22 : 0 ≤ Xi T2 904 106 ∧ Xi T2 904 106 ≤ 9 := hHT2.c _ _
    exact ⟨hHT2, hFT2, _, rfl, ⟨by omega, by omega⟩, (by first | assumption | omega), (by first | assumption | omega), (by first | assumption | omega)⟩
abbrev Q_mo_typeOrPlural (S : sS) (n : Nat) (rn : Int) : pst := fun r S1 => S = S1 ∧ (∃ z : Int, r = some (iv z) ∧ (-1 ≤ z ∧ z ≤ 7))
set_option maxRecDepth 100000 in
theorem t_mo_typeOrPlural {S : sS} (hH : HI S) (n : Nat) (rn : Int) (hrn : 0 ≤ rn ∧ rn ≤ 2599) (hT : TK S n) (hv : RNV S n) (hrr : rn < Xi S 904 69) (hM : LXM S) (d : Nat) : Mt lay0 (d + 5) m_mo_typeOrPlural [.ref 904, iv rn] S (Q_mo_typeOrPlural S n rn) := by
  refine Mt_R rfl rfl ?_
  have w1 : 0 ≤ Xi S 904 69 ∧ Xi S 904 69 ≤ 2600 := hH.c _ _
  have hn5 := hT.1
  have hq := hv rn.toNat (by omega)
  have hq0 : 0 ≤ Xi S 950 rn.toNat ∧ Xi S 950 rn.toNat ≤ 5010 := hH.c 950 rn.toNat
  have hc69 : 0 ≤ Xi S 904 69 ∧ Xi S 904 69 ≤ 2600 := hH.c _ _
  have hc16 : 0 ≤ Xi S 904 16 ∧ Xi S 904 16 ≤ 16 := hH.c _ _
  have hc18 : 0 ≤ Xi S 904 18 ∧ Xi S 904 18 ≤ 8 := hH.c _ _
  refine l_aload_n rfl rfl ?_
  refine l_iload_n rfl rfl ?_
  refine l_iconst rfl ?_
  have w2 : 0 ≤ Xi S 904 69 ∧ Xi S 904 69 ≤ 2600 := hH.c _ _
  refine l_callV rfl rfl rfl (t_mo_meansRun hH n rn 2 ⟨by omega, by omega⟩ ⟨by omega, by omega⟩ (by first | assumption | exact (by assumption : TK S _)) (by first | assumption | exact (by assumption : RNV S _)) (by first | assumption | omega) (by first | assumption | exact (by assumption : LXM S)) _) ?_
  rintro _ _ ⟨rfl, z4, rfl, w4, w3⟩
  show Rl _ _ _ _ _ [iv z4] _ _
  have x3 : z4 ≠ -1 → z4 < Xi S 904 18 := fun q => by have t := (by assumption : z4 ≠ -1 → z4 < cM S 2) q; rw [cM2] at t; exact t
  refine l_istore_n rfl rfl rfl ?_
  refine l_iload_n rfl rfl ?_
  refine l_iconst rfl ?_
  refine l_icmp_eq rfl rfl (by unfold rg; omega) (by unfold rg; omega) (fun w5 => ?_) (fun w6 => ?_)
  · refine l_aload_n rfl rfl ?_
    refine l_iload_n rfl rfl ?_
    refine l_iconst rfl ?_
    have w7 : 0 ≤ Xi S 904 69 ∧ Xi S 904 69 ≤ 2600 := hH.c _ _
    refine l_callV rfl rfl rfl (t_mo_meansRun hH n rn 3 ⟨by omega, by omega⟩ ⟨by omega, by omega⟩ (by first | assumption | exact (by assumption : TK S _)) (by first | assumption | exact (by assumption : RNV S _)) (by first | assumption | omega) (by first | assumption | exact (by assumption : LXM S)) _) ?_
    rintro _ _ ⟨rfl, z9, rfl, w9, w8⟩
    show Rl _ _ _ _ _ [iv z9] _ _
    have x19 : z9 ≠ -1 → z9 < Xi S 904 18 := fun q => by have t := (by assumption : z9 ≠ -1 → z9 < cM S 3) q; rw [cM3] at t; exact t
    refine l_ireturn rfl rfl ?_
    exact ⟨rfl, _, rfl, ⟨by omega, by omega⟩⟩
  · refine l_iload_n rfl rfl ?_
    refine l_goto rfl rfl ?_
    refine l_ireturn rfl rfl ?_
    exact ⟨rfl, _, rfl, ⟨by omega, by omega⟩⟩
abbrev Q_mo_kindOrPlural (S : sS) (n : Nat) (rn : Int) : pst := fun r S1 => S = S1 ∧ (∃ z : Int, r = some (iv z) ∧ (-1 ≤ z ∧ z ≤ 15) ∧ (z ≠ -1 → z < Xi S 904 16))
set_option maxRecDepth 100000 in
theorem t_mo_kindOrPlural {S : sS} (hH : HI S) (n : Nat) (rn : Int) (hrn : 0 ≤ rn ∧ rn ≤ 2599) (hT : TK S n) (hv : RNV S n) (hrr : rn < Xi S 904 69) (hM : LXM S) (d : Nat) : Mt lay0 (d + 5) m_mo_kindOrPlural [.ref 904, iv rn] S (Q_mo_kindOrPlural S n rn) := by
  refine Mt_R rfl rfl ?_
  have w1 : 0 ≤ Xi S 904 16 ∧ Xi S 904 16 ≤ 16 := hH.c _ _
  have w2 : 0 ≤ Xi S 904 69 ∧ Xi S 904 69 ≤ 2600 := hH.c _ _
  have hn5 := hT.1
  have hq := hv rn.toNat (by omega)
  have hq0 : 0 ≤ Xi S 950 rn.toNat ∧ Xi S 950 rn.toNat ≤ 5010 := hH.c 950 rn.toNat
  have hc69 : 0 ≤ Xi S 904 69 ∧ Xi S 904 69 ≤ 2600 := hH.c _ _
  have hc16 : 0 ≤ Xi S 904 16 ∧ Xi S 904 16 ≤ 16 := hH.c _ _
  have hc18 : 0 ≤ Xi S 904 18 ∧ Xi S 904 18 ≤ 8 := hH.c _ _
  refine l_aload_n rfl rfl ?_
  refine l_iload_n rfl rfl ?_
  refine l_iconst rfl ?_
  have w3 : 0 ≤ Xi S 904 69 ∧ Xi S 904 69 ≤ 2600 := hH.c _ _
  refine l_callV rfl rfl rfl (t_mo_meansRun hH n rn 0 ⟨by omega, by omega⟩ ⟨by omega, by omega⟩ (by first | assumption | exact (by assumption : TK S _)) (by first | assumption | exact (by assumption : RNV S _)) (by first | assumption | omega) (by first | assumption | exact (by assumption : LXM S)) _) ?_
  rintro _ _ ⟨rfl, z5, rfl, w5, w4⟩
  show Rl _ _ _ _ _ [iv z5] _ _
  have x3 : z5 ≠ -1 → z5 < Xi S 904 16 := fun q => by have t := (by assumption : z5 ≠ -1 → z5 < cM S 0) q; rw [cM0] at t; exact t
  refine l_istore_n rfl rfl rfl ?_
  refine l_iload_n rfl rfl ?_
  refine l_iconst rfl ?_
  refine l_icmp_eq rfl rfl (by unfold rg; omega) (by unfold rg; omega) (fun w6 => ?_) (fun w7 => ?_)
  · refine l_aload_n rfl rfl ?_
    refine l_iload_n rfl rfl ?_
    refine l_iconst rfl ?_
    have w8 : 0 ≤ Xi S 904 69 ∧ Xi S 904 69 ≤ 2600 := hH.c _ _
    refine l_callV rfl rfl rfl (t_mo_meansRun hH n rn 1 ⟨by omega, by omega⟩ ⟨by omega, by omega⟩ (by first | assumption | exact (by assumption : TK S _)) (by first | assumption | exact (by assumption : RNV S _)) (by first | assumption | omega) (by first | assumption | exact (by assumption : LXM S)) _) ?_
    rintro _ _ ⟨rfl, z10, rfl, w10, w9⟩
    show Rl _ _ _ _ _ [iv z10] _ _
    have x19 : z10 ≠ -1 → z10 < Xi S 904 16 := fun q => by have t := (by assumption : z10 ≠ -1 → z10 < cM S 1) q; rw [cM1] at t; exact t
    refine l_ireturn rfl rfl ?_
    exact ⟨rfl, _, rfl, ⟨by omega, by omega⟩, (by first | assumption | omega)⟩
  · refine l_iload_n rfl rfl ?_
    refine l_goto rfl rfl ?_
    refine l_ireturn rfl rfl ?_
    exact ⟨rfl, _, rfl, ⟨by omega, by omega⟩, (by first | assumption | omega)⟩
def md_mo_propertyOf : List rec := [(904, 905, 64, 65)]
abbrev Q_mo_propertyOf (S : sS) (kind : Int) (type : Int) : pst := fun r S1 => HI S1 ∧ FR md_mo_propertyOf S S1 ∧ (∃ z : Int, r = some (iv z) ∧ (-1 ≤ z ∧ z ≤ 11) ∧ (z = -1 → Xi S1 904 64 = 0) ∧ (z ≠ -1 → z < Xi S 904 32) ∧ (z ≠ -1 → 0 ≤ kind))
set_option maxRecDepth 100000 in
theorem t_mo_propertyOf {S : sS} (hH : HI S) (kind : Int) (type : Int) (hkind : -1 ≤ kind ∧ kind ≤ 15) (htype : -2147483648 ≤ type ∧ type ≤ 2147483647) (hB : ABV S) (d : Nat) : Mt lay0 (d + 2) m_mo_propertyOf [.ref 904, iv kind, iv type] S (Q_mo_propertyOf S kind type) := by
  refine Mt_R rfl rfl ?_
  have hF : FR md_mo_propertyOf S S := FR.rf
  have w1 : 0 ≤ Xi S 904 32 ∧ Xi S 904 32 ≤ 12 := hH.c _ _
  have w2 : 0 ≤ Xi S 904 64 ∧ Xi S 904 64 ≤ 12 := hH.c _ _
  have hc32 : 0 ≤ Xi S 904 32 ∧ Xi S 904 32 ≤ 12 := hH.c _ _
  have C10 : ∀ (n10 : Nat) (T1 : sS) (_ : HI T1) (_ : FR md_mo_propertyOf S T1) (v3 : Int) (v4 : Int), (-1 ≤ v3 ∧ v3 ≤ 11) → (0 ≤ v4 ∧ v4 ≤ 12) → (Xi T1 904 64 ≤ v4) → (v3 = -1 → Xi T1 904 64 = 0) → (v3 ≠ -1 → 1 ≤ Xi T1 904 64) → (v3 ≠ -1 → v3 < Xi S 904 32) → (v3 ≠ -1 → 0 ≤ kind) → n10 = (13 - v4).toNat → Rl lay0 (d + 1) m_mo_propertyOf 10 [(0, .ref 904), (1, iv kind), (2, iv type), (3, iv v3), (4, iv v4)] [] T1 (Q_mo_propertyOf S kind type) := by
    intro n10
    induction n10 using Nat.strongRecOn with
    | ind n10 ih10 =>
      intro T1 hHT1 hFT1 v3 v4 w3 w4 w5 w6 w7 w8 w9 hm10
      have w10 : Xi T1 904 32 = Xi S 904 32 := hFT1.x _ _ rfl
      have w11 : 0 ≤ Xi T1 904 64 ∧ Xi T1 904 64 ≤ 12 := hHT1.c _ _
      have C74 : ∀  (T2 : sS) (_ : HI T2) (_ : FR md_mo_propertyOf S T2) (v3 : Int), (-1 ≤ v3 ∧ v3 ≤ 11) → (v3 = -1 → Xi T2 904 64 = 0) → (v3 ≠ -1 → v3 < Xi S 904 32) → (v3 ≠ -1 → 0 ≤ kind) → Rl lay0 (d + 1) m_mo_propertyOf 74 [(3, iv v3)] [] T2 (Q_mo_propertyOf S kind type) := by
        intro T2 hHT2 hFT2 v3 w12 w13 w14 w15
        have w16 : Xi T2 904 32 = Xi S 904 32 := hFT2.x _ _ rfl
        have w17 : 0 ≤ Xi T2 904 64 ∧ Xi T2 904 64 ≤ 12 := hHT2.c _ _
        refine l_iload_n rfl rfl ?_
        refine l_ireturn rfl rfl ?_
        have w18 : 0 ≤ Xi T2 904 32 ∧ Xi T2 904 32 ≤ 12 := hHT2.c _ _
        have w19 : 0 ≤ Xi T2 904 64 ∧ Xi T2 904 64 ≤ 12 := hHT2.c _ _
        exact ⟨hHT2, hFT2, _, rfl, ⟨by omega, by omega⟩, (by first | assumption | omega), (by first | assumption | omega), (by first | assumption | omega)⟩
      refine l_iload rfl rfl ?_
      refine l_aload_n rfl rfl ?_
      refine l_gfi rfl rfl rfl rfl rfl ?_
      have p13 : (Xi T1 904 32) = Xi S 904 32 := by first | rfl | exact hFT1.x 904 32 rfl
      refine l_icmp_ge rfl rfl (by unfold rg; omega) (by unfold rg; omega) (fun w20 => ?_) (fun w21 => ?_)
      · have w22 : 0 ≤ Xi T1 904 32 ∧ Xi T1 904 32 ≤ 12 := hHT1.c _ _
        have w23 : 0 ≤ Xi T1 904 64 ∧ Xi T1 904 64 ≤ 12 := hHT1.c _ _
        exact Rl_weak (C74 T1 hHT1 hFT1 (v3) (by omega) (by omega) (by omega) (by omega)) (And.intro rfl (True.intro))
      · refine l_iload_n rfl rfl ?_
        refine l_if_lt rfl rfl (by unfold rg; omega) (fun w24 => ?_) (fun w25 => ?_)
        · have w26 : 0 ≤ Xi T1 904 32 ∧ Xi T1 904 32 ≤ 12 := hHT1.c _ _
          have w27 : 0 ≤ Xi T1 904 64 ∧ Xi T1 904 64 ≤ 12 := hHT1.c _ _
          exact Rl_weak (C74 T1 hHT1 hFT1 (v3) (by omega) (by omega) (by omega) (by omega)) (And.intro rfl (True.intro))
        · refine l_aload_n rfl rfl ?_
          refine l_gfr rfl rfl rfl rfl rfl (hHT1.r 904 33 928 rfl) ?_
          refine l_iload rfl rfl ?_
          refine l_iaload (n := 12) rfl rfl (by omega) (by omega) (by unfold rg; omega) ?_
          have w28 : 0 ≤ (Xi T1 928 ((v4).toNat)) ∧ (Xi T1 928 ((v4).toNat)) ≤ 7 := hHT1.c _ _
          refine l_iload_n rfl rfl ?_
          refine l_icmp_ne rfl rfl (by unfold rg; omega) (by unfold rg; omega) (fun w29 => ?_) (fun w30 => ?_)
          · refine l_iinc rfl rfl rfl rfl ?_
            refine l_goto rfl rfl ?_
            have w31 : 0 ≤ Xi T1 904 32 ∧ Xi T1 904 32 ≤ 12 := hHT1.c _ _
            have w32 : 0 ≤ Xi T1 904 64 ∧ Xi T1 904 64 ≤ 12 := hHT1.c _ _
            exact Rl_weak (ih10 _ (by omega) T1 hHT1 hFT1 (v3) ((v4 + 1)) (by omega) (by omega) (by omega) (by omega) (by omega) (by omega) (by omega) rfl) (And.intro rfl (And.intro rfl (And.intro rfl (And.intro rfl (And.intro rfl (True.intro))))))
          · refine l_aload_n rfl rfl ?_
            refine l_iload_n rfl rfl ?_
            refine l_iload rfl rfl ?_
            have w33 : 0 ≤ Xi T1 904 32 ∧ Xi T1 904 32 ≤ 12 := hHT1.c _ _
            have w34 : 0 ≤ Xi T1 904 64 ∧ Xi T1 904 64 ≤ 12 := hHT1.c _ _
            refine l_callV rfl rfl rfl (t_mo_has hHT1 kind v4 ⟨by omega, by omega⟩ ⟨by omega, by omega⟩ (by first | assumption | exact (ABV_FR hFT1 rfl (by assumption : ABV S))) _) ?_
            rintro _ _ ⟨rfl, z36, rfl, w36, w35⟩
            show Rl _ _ _ _ _ [iv z36] _ _
            refine l_if_eq rfl rfl (by unfold rg; omega) (fun w37 => ?_) (fun w38 => ?_)
            · refine l_iinc rfl rfl rfl rfl ?_
              refine l_goto rfl rfl ?_
              have w39 : 0 ≤ Xi T1 904 32 ∧ Xi T1 904 32 ≤ 12 := hHT1.c _ _
              have w40 : 0 ≤ Xi T1 904 64 ∧ Xi T1 904 64 ≤ 12 := hHT1.c _ _
              exact Rl_weak (ih10 _ (by omega) T1 hHT1 hFT1 (v3) ((v4 + 1)) (by omega) (by omega) (by omega) (by omega) (by omega) (by omega) (by omega) rfl) (And.intro rfl (And.intro rfl (And.intro rfl (And.intro rfl (And.intro rfl (True.intro))))))
            · refine l_aload_n rfl rfl ?_
              refine l_gfi rfl rfl rfl rfl rfl ?_
              refine l_if_ne rfl rfl (by unfold rg; omega) (fun w41 => ?_) (fun w42 => ?_)
              · refine l_iload_n rfl rfl ?_
                refine l_istore_n rfl rfl rfl ?_
                refine l_aload_n rfl rfl ?_
                refine l_dup rfl rfl ?_
                refine l_gfi rfl rfl rfl rfl rfl ?_
                refine l_iconst rfl ?_
                refine l_iadd rfl ?_
                refine l_pfi rfl rfl rfl rfl ?_
                obtain ⟨U3, eU3⟩ : ∃ T : sS, T = uI T1 904 64 (Int32.ofInt ((Xi T1 904 64) + 1)) := ⟨_, rfl⟩
                rw [← eU3]
                have hHU3 : HI U3 := by rw [eU3]; exact HI_w hHT1 (show 0 ≤ ((Xi T1 904 64) + 1) by omega) (show ((Xi T1 904 64) + 1) ≤ 12 by omega)
                have hFU3 : FR md_mo_propertyOf S U3 := by rw [eU3]; exact FR.wI hFT1 (mdf_i (r := (904, 905, 64, 65)) (List.mem_of_getElem? (i := 0) rfl) (inR_i (by omega) (by omega) (by omega) (by omega)))
                have w43 : Xi U3 904 64 = ((Xi T1 904 64) + 1) := by rw [eU3]; exact Xi_same (by unfold rg; omega)
                refine l_iinc rfl rfl rfl rfl ?_
                refine l_goto rfl rfl ?_
                have w44 : Xi U3 904 32 = Xi T1 904 32 := (show Xi U3 904 32 = Xi T1 904 32 from by rw [eU3]; exact Xi_ne (by omega))
                have w45 : 0 ≤ Xi T1 904 32 ∧ Xi T1 904 32 ≤ 12 := hHT1.c _ _
                have w46 : 0 ≤ Xi U3 904 64 ∧ Xi U3 904 64 ≤ 12 := hHU3.c _ _
                exact Rl_weak (ih10 _ (by omega) U3 hHU3 hFU3 (v3) ((v4 + 1)) (by omega) (by omega) (by omega) (by omega) (by omega) (by omega) (by omega) rfl) (And.intro rfl (And.intro rfl (And.intro rfl (And.intro rfl (And.intro rfl (True.intro))))))
              · refine l_iload rfl rfl ?_
                refine l_goto rfl rfl ?_
                refine l_istore_n rfl rfl rfl ?_
                refine l_aload_n rfl rfl ?_
                refine l_dup rfl rfl ?_
                refine l_gfi rfl rfl rfl rfl rfl ?_
                refine l_iconst rfl ?_
                refine l_iadd rfl ?_
                refine l_pfi rfl rfl rfl rfl ?_
                obtain ⟨U4, eU4⟩ : ∃ T : sS, T = uI T1 904 64 (Int32.ofInt ((Xi T1 904 64) + 1)) := ⟨_, rfl⟩
                rw [← eU4]
                have hHU4 : HI U4 := by rw [eU4]; exact HI_w hHT1 (show 0 ≤ ((Xi T1 904 64) + 1) by omega) (show ((Xi T1 904 64) + 1) ≤ 12 by omega)
                have hFU4 : FR md_mo_propertyOf S U4 := by rw [eU4]; exact FR.wI hFT1 (mdf_i (r := (904, 905, 64, 65)) (List.mem_of_getElem? (i := 0) rfl) (inR_i (by omega) (by omega) (by omega) (by omega)))
                have w47 : Xi U4 904 64 = ((Xi T1 904 64) + 1) := by rw [eU4]; exact Xi_same (by unfold rg; omega)
                refine l_iinc rfl rfl rfl rfl ?_
                refine l_goto rfl rfl ?_
                have w48 : Xi U4 904 32 = Xi T1 904 32 := (show Xi U4 904 32 = Xi T1 904 32 from by rw [eU4]; exact Xi_ne (by omega))
                have w49 : 0 ≤ Xi T1 904 32 ∧ Xi T1 904 32 ≤ 12 := hHT1.c _ _
                have w50 : 0 ≤ Xi U4 904 64 ∧ Xi U4 904 64 ≤ 12 := hHU4.c _ _
                exact Rl_weak (ih10 _ (by omega) U4 hHU4 hFU4 (v4) ((v4 + 1)) (by omega) (by omega) (by omega) (by omega) (by omega) (by omega) (by omega) rfl) (And.intro rfl (And.intro rfl (And.intro rfl (And.intro rfl (And.intro rfl (True.intro))))))
  refine l_iconst rfl ?_
  refine l_istore_n rfl rfl rfl ?_
  refine l_aload_n rfl rfl ?_
  refine l_iconst rfl ?_
  refine l_pfi rfl rfl rfl rfl ?_
  obtain ⟨U5, eU5⟩ : ∃ T : sS, T = uI S 904 64 (Int32.ofInt 0) := ⟨_, rfl⟩
  rw [← eU5]
  have hHU5 : HI U5 := by rw [eU5]; exact HI_w hH (show 0 ≤ 0 by omega) (show 0 ≤ 12 by omega)
  have hFU5 : FR md_mo_propertyOf S U5 := by rw [eU5]; exact FR.wI hF (mdf_i (r := (904, 905, 64, 65)) (List.mem_of_getElem? (i := 0) rfl) (inR_i (by omega) (by omega) (by omega) (by omega)))
  have w51 : Xi U5 904 64 = 0 := by rw [eU5]; exact Xi_same (by unfold rg; omega)
  refine l_iconst rfl ?_
  refine l_istore rfl rfl rfl ?_
  have w52 : Xi U5 904 32 = Xi S 904 32 := (show Xi U5 904 32 = Xi S 904 32 from by rw [eU5]; exact Xi_ne (by omega))
  have w53 : 0 ≤ Xi S 904 32 ∧ Xi S 904 32 ≤ 12 := hH.c _ _
  have w54 : 0 ≤ Xi U5 904 64 ∧ Xi U5 904 64 ≤ 12 := hHU5.c _ _
  exact Rl_weak (C10 _ U5 hHU5 hFU5 ((-1)) (0) (by omega) (by omega) (by omega) (by omega) (by omega) (by omega) (by omega) rfl) (And.intro rfl (And.intro rfl (And.intro rfl (And.intro rfl (And.intro rfl (True.intro))))))
def md_mo_oneReading : List rec := [(904, 905, 104, 105), (904, 905, 105, 106), (904, 905, 106, 107)]
abbrev Q_mo_oneReading (S : sS) (t : Int) : pst := fun r S1 => HI S1 ∧ FR md_mo_oneReading S S1 ∧ (r = none ∧ (Xi S 904 106 ≠ 0 → Xi S1 904 106 ≠ 0))
set_option maxRecDepth 100000 in
theorem t_mo_oneReading {S : sS} (hH : HI S) (t : Int) (ht : 0 ≤ t ∧ t ≤ 5001) (d : Nat) : Mt lay0 (d + 4) m_mo_oneReading [.ref 904, iv t] S (Q_mo_oneReading S t) := by
  refine Mt_R rfl rfl ?_
  have hF : FR md_mo_oneReading S S := FR.rf
  have w1 : 0 ≤ Xi S 904 106 ∧ Xi S 904 106 ≤ 9 := hH.c _ _
  refine l_aload_n rfl rfl ?_
  refine l_aload_n rfl rfl ?_
  refine l_gfi rfl rfl rfl rfl rfl ?_
  have w2 : -2147483648 ≤ (Xi S 904 109) ∧ (Xi S 904 109) ≤ 2147483647 := Xi_rgI
  refine l_if_le rfl rfl (by unfold rg; omega) (fun w3 => ?_) (fun w4 => ?_)
  · refine l_iconst rfl ?_
    refine l_iconst rfl ?_
    refine l_iload_n rfl rfl ?_
    have w5 : 0 ≤ Xi S 904 106 ∧ Xi S 904 106 ≤ 9 := hH.c _ _
    refine l_callV rfl rfl rfl (t_mo_need hH 0 4 t ⟨by omega, by omega⟩ ⟨by omega, by omega⟩ ⟨by omega, by omega⟩ _) ?_
    rintro _ T1 ⟨hHT1, w9, rfl, w6, w7⟩
    have hFT1 : FR md_mo_oneReading S T1 := FR.tr hF w9 rfl
    show Rl _ _ _ _ _ [] _ _
    refine l_aload_n rfl rfl ?_
    refine l_aload_n rfl rfl ?_
    refine l_gfi rfl rfl rfl rfl rfl ?_
    have w10 : (Xi T1 904 109) = (Xi S 904 109) := (show Xi T1 904 109 = Xi S 904 109 from w9.x _ _ rfl)
    rw [w10]
    refine l_iconst rfl ?_
    refine l_icmp_ge rfl rfl (by unfold rg; omega) (by unfold rg; omega) (fun w11 => ?_) (fun w12 => ?_)
    · refine l_iconst rfl ?_
      refine l_bipush rfl rfl ?_
      refine l_iload_n rfl rfl ?_
      have w13 : 0 ≤ Xi T1 904 106 ∧ Xi T1 904 106 ≤ 9 := hHT1.c _ _
      refine l_callV rfl rfl rfl (t_mo_need hHT1 0 7 t ⟨by omega, by omega⟩ ⟨by omega, by omega⟩ ⟨by omega, by omega⟩ _) ?_
      rintro _ T2 ⟨hHT2, w17, rfl, w14, w15⟩
      have hFT2 : FR md_mo_oneReading S T2 := FR.tr hFT1 w17 rfl
      show Rl _ _ _ _ _ [] _ _
      refine l_return rfl rfl ?_
      have w18 : 0 ≤ Xi T2 904 106 ∧ Xi T2 904 106 ≤ 9 := hHT2.c _ _
      exact ⟨hHT2, hFT2, rfl, (by first | assumption | omega)⟩
    · refine l_iconst rfl ?_
      refine l_goto rfl rfl ?_
      refine l_bipush rfl rfl ?_
      refine l_iload_n rfl rfl ?_
      have w19 : 0 ≤ Xi T1 904 106 ∧ Xi T1 904 106 ≤ 9 := hHT1.c _ _
      refine l_callV rfl rfl rfl (t_mo_need hHT1 1 7 t ⟨by omega, by omega⟩ ⟨by omega, by omega⟩ ⟨by omega, by omega⟩ _) ?_
      rintro _ T3 ⟨hHT3, w23, rfl, w20, w21⟩
      have hFT3 : FR md_mo_oneReading S T3 := FR.tr hFT1 w23 rfl
      show Rl _ _ _ _ _ [] _ _
      refine l_return rfl rfl ?_
      have w24 : 0 ≤ Xi T3 904 106 ∧ Xi T3 904 106 ≤ 9 := hHT3.c _ _
      exact ⟨hHT3, hFT3, rfl, (by first | assumption | omega)⟩
  · refine l_iconst rfl ?_
    refine l_goto rfl rfl ?_
    refine l_iconst rfl ?_
    refine l_iload_n rfl rfl ?_
    have w25 : 0 ≤ Xi S 904 106 ∧ Xi S 904 106 ≤ 9 := hH.c _ _
    refine l_callV rfl rfl rfl (t_mo_need hH 1 4 t ⟨by omega, by omega⟩ ⟨by omega, by omega⟩ ⟨by omega, by omega⟩ _) ?_
    rintro _ T4 ⟨hHT4, w29, rfl, w26, w27⟩
    have hFT4 : FR md_mo_oneReading S T4 := FR.tr hF w29 rfl
    show Rl _ _ _ _ _ [] _ _
    refine l_aload_n rfl rfl ?_
    refine l_aload_n rfl rfl ?_
    refine l_gfi rfl rfl rfl rfl rfl ?_
    have w30 : (Xi T4 904 109) = (Xi S 904 109) := (show Xi T4 904 109 = Xi S 904 109 from w29.x _ _ rfl)
    rw [w30]
    refine l_iconst rfl ?_
    refine l_icmp_ge rfl rfl (by unfold rg; omega) (by unfold rg; omega) (fun w31 => ?_) (fun w32 => ?_)
    · refine l_iconst rfl ?_
      refine l_bipush rfl rfl ?_
      refine l_iload_n rfl rfl ?_
      have w33 : 0 ≤ Xi T4 904 106 ∧ Xi T4 904 106 ≤ 9 := hHT4.c _ _
      refine l_callV rfl rfl rfl (t_mo_need hHT4 0 7 t ⟨by omega, by omega⟩ ⟨by omega, by omega⟩ ⟨by omega, by omega⟩ _) ?_
      rintro _ T5 ⟨hHT5, w37, rfl, w34, w35⟩
      have hFT5 : FR md_mo_oneReading S T5 := FR.tr hFT4 w37 rfl
      show Rl _ _ _ _ _ [] _ _
      refine l_return rfl rfl ?_
      have w38 : 0 ≤ Xi T5 904 106 ∧ Xi T5 904 106 ≤ 9 := hHT5.c _ _
      exact ⟨hHT5, hFT5, rfl, (by first | assumption | omega)⟩
    · refine l_iconst rfl ?_
      refine l_goto rfl rfl ?_
      refine l_bipush rfl rfl ?_
      refine l_iload_n rfl rfl ?_
      have w39 : 0 ≤ Xi T4 904 106 ∧ Xi T4 904 106 ≤ 9 := hHT4.c _ _
      refine l_callV rfl rfl rfl (t_mo_need hHT4 1 7 t ⟨by omega, by omega⟩ ⟨by omega, by omega⟩ ⟨by omega, by omega⟩ _) ?_
      rintro _ T6 ⟨hHT6, w43, rfl, w40, w41⟩
      have hFT6 : FR md_mo_oneReading S T6 := FR.tr hFT4 w43 rfl
      show Rl _ _ _ _ _ [] _ _
      refine l_return rfl rfl ?_
      have w44 : 0 ≤ Xi T6 904 106 ∧ Xi T6 904 106 ≤ 9 := hHT6.c _ _
      exact ⟨hHT6, hFT6, rfl, (by first | assumption | omega)⟩
abbrev Q_mo_isAlike (S : sS) (n : Nat) (r1 : Int) (s1 : Int) : pst := fun r S1 => S = S1 ∧ (∃ z : Int, r = some (iv z) ∧ (0 ≤ z ∧ z ≤ 1))
set_option maxRecDepth 100000 in
theorem t_mo_isAlike {S : sS} (hH : HI S) (n : Nat) (r1 : Int) (s1 : Int) (hr1 : 0 ≤ r1 ∧ r1 ≤ 2599) (hs1 : 0 ≤ s1 ∧ s1 ≤ 2599) (hT : TK S n) (hv : RNV S n) (hr : r1 < Xi S 904 69) (hs : s1 < Xi S 904 69) (d : Nat) : Mt lay0 (d + 1) m_mo_isAlike [.ref 904, iv r1, iv s1] S (Q_mo_isAlike S n r1 s1) := by
  refine Mt_R rfl rfl ?_
  have w1 : 0 ≤ Xi S 904 69 ∧ Xi S 904 69 ≤ 2600 := hH.c _ _
  have hn5 := hT.1
  have hq1 := hv r1.toNat (by omega)
  have hq2 := hv s1.toNat (by omega)
  have h1 : 0 ≤ Xi S 950 r1.toNat ∧ Xi S 950 r1.toNat ≤ 5010 := hH.c 950 r1.toNat
  have h2 : 0 ≤ Xi S 950 s1.toNat ∧ Xi S 950 s1.toNat ≤ 5010 := hH.c 950 s1.toNat
  have C24 : ∀ (n24 : Nat) (v3 : Int) (v4 : Int), (0 ≤ v3 ∧ v3 ≤ 1) → (0 ≤ v4 ∧ v4 ≤ 5010) → (v3 ≠ 0 → Xi S 951 r1.toNat = Xi S 951 s1.toNat) → (v4 ≤ Xi S 951 r1.toNat) → n24 = (5012 - v4).toNat → Rl lay0 (d + 0) m_mo_isAlike 24 [(0, .ref 904), (1, iv r1), (2, iv s1), (3, iv v3), (4, iv v4)] [] S (Q_mo_isAlike S n r1 s1) := by
    intro n24
    induction n24 using Nat.strongRecOn with
    | ind n24 ih24 =>
      intro v3 v4 w2 w3 w4 w5 hm24
      refine l_iload rfl rfl ?_
      refine l_aload_n rfl rfl ?_
      refine l_gfr rfl rfl rfl rfl rfl (hH.r 904 68 951 rfl) ?_
      refine l_iload_n rfl rfl ?_
      refine l_iaload (n := 2600) rfl rfl (by omega) (by omega) (by unfold rg; omega) ?_
      have w6 : 0 ≤ (Xi S 951 ((r1).toNat)) ∧ (Xi S 951 ((r1).toNat)) ≤ 5010 := hH.c _ _
      refine l_icmp_ge rfl rfl (by unfold rg; omega) (by unfold rg; omega) (fun w7 => ?_) (fun w8 => ?_)
      · refine l_iload_n rfl rfl ?_
        refine l_ireturn rfl (retI_z (by omega)) ?_
        exact ⟨rfl, _, rfl, ⟨by omega, by omega⟩⟩
      · refine l_iload_n rfl rfl ?_
        refine l_if_eq rfl rfl (by unfold rg; omega) (fun w9 => ?_) (fun w10 => ?_)
        · refine l_iload_n rfl rfl ?_
          refine l_ireturn rfl (retI_z (by omega)) ?_
          exact ⟨rfl, _, rfl, ⟨by omega, by omega⟩⟩
        · refine l_aload_n rfl rfl ?_
          refine l_gfr rfl rfl rfl rfl rfl (hH.r 904 7 910 rfl) ?_
          refine l_aload_n rfl rfl ?_
          refine l_gfr rfl rfl rfl rfl rfl (hH.r 904 67 950 rfl) ?_
          refine l_iload_n rfl rfl ?_
          refine l_iaload (n := 2600) rfl rfl (by omega) (by omega) (by unfold rg; omega) ?_
          have w11 : 0 ≤ (Xi S 950 ((r1).toNat)) ∧ (Xi S 950 ((r1).toNat)) ≤ 5010 := hH.c _ _
          refine l_iload rfl rfl ?_
          refine l_iadd rfl ?_
          refine l_laload (n := 5002) rfl rfl (by omega) (by omega) (by unfold rg; omega) ?_
          have w12 : -9223372036854775808 ≤ (Xj S 910 ((((Xi S 950 ((r1).toNat)) + v4)).toNat)) ∧ (Xj S 910 ((((Xi S 950 ((r1).toNat)) + v4)).toNat)) < 9223372036854775808 := Xj_rg
          refine l_aload_n rfl rfl ?_
          refine l_gfr rfl rfl rfl rfl rfl (hH.r 904 7 910 rfl) ?_
          refine l_aload_n rfl rfl ?_
          refine l_gfr rfl rfl rfl rfl rfl (hH.r 904 67 950 rfl) ?_
          refine l_iload_n rfl rfl ?_
          refine l_iaload (n := 2600) rfl rfl (by omega) (by omega) (by unfold rg; omega) ?_
          have w13 : 0 ≤ (Xi S 950 ((s1).toNat)) ∧ (Xi S 950 ((s1).toNat)) ≤ 5010 := hH.c _ _
          refine l_iload rfl rfl ?_
          refine l_iadd rfl ?_
          refine l_laload (n := 5002) rfl rfl (by omega) (by omega) (by unfold rg; omega) ?_
          have w14 : -9223372036854775808 ≤ (Xj S 910 ((((Xi S 950 ((s1).toNat)) + v4)).toNat)) ∧ (Xj S 910 ((((Xi S 950 ((s1).toNat)) + v4)).toNat)) < 9223372036854775808 := Xj_rg
          refine l_lcmpA rfl (fun c15 w15 => ?_)
          refine l_if_ne rfl rfl (by unfold rg; omega) (fun w16 => ?_) (fun w17 => ?_)
          · refine l_iconst rfl ?_
            refine l_istore_n rfl rfl rfl ?_
            refine l_iinc rfl rfl rfl rfl ?_
            refine l_goto rfl rfl ?_
            exact Rl_weak (ih24 _ (by omega) (0) ((v4 + 1)) (by omega) (by omega) (by omega) (by omega) rfl) (And.intro rfl (And.intro rfl (And.intro rfl (And.intro rfl (And.intro rfl (True.intro))))))
          · refine l_iconst rfl ?_
            refine l_goto rfl rfl ?_
            refine l_istore_n rfl rfl rfl ?_
            refine l_iinc rfl rfl rfl rfl ?_
            refine l_goto rfl rfl ?_
            exact Rl_weak (ih24 _ (by omega) (1) ((v4 + 1)) (by omega) (by omega) (by omega) (by omega) rfl) (And.intro rfl (And.intro rfl (And.intro rfl (And.intro rfl (And.intro rfl (True.intro))))))
  refine l_aload_n rfl rfl ?_
  refine l_gfr rfl rfl rfl rfl rfl (hH.r 904 68 951 rfl) ?_
  refine l_iload_n rfl rfl ?_
  refine l_iaload (n := 2600) rfl rfl (by omega) (by omega) (by unfold rg; omega) ?_
  have w18 : 0 ≤ (Xi S 951 ((r1).toNat)) ∧ (Xi S 951 ((r1).toNat)) ≤ 5010 := hH.c _ _
  refine l_aload_n rfl rfl ?_
  refine l_gfr rfl rfl rfl rfl rfl (hH.r 904 68 951 rfl) ?_
  refine l_iload_n rfl rfl ?_
  refine l_iaload (n := 2600) rfl rfl (by omega) (by omega) (by unfold rg; omega) ?_
  have w19 : 0 ≤ (Xi S 951 ((s1).toNat)) ∧ (Xi S 951 ((s1).toNat)) ≤ 5010 := hH.c _ _
  refine l_icmp_ne rfl rfl (by unfold rg; omega) (by unfold rg; omega) (fun w20 => ?_) (fun w21 => ?_)
  · refine l_iconst rfl ?_
    refine l_istore_n rfl rfl rfl ?_
    refine l_iconst rfl ?_
    refine l_istore rfl rfl rfl ?_
    exact Rl_weak (C24 _ (0) (0) (by omega) (by omega) (by omega) (by omega) rfl) (And.intro rfl (And.intro rfl (And.intro rfl (And.intro rfl (And.intro rfl (True.intro))))))
  · refine l_iconst rfl ?_
    refine l_goto rfl rfl ?_
    refine l_istore_n rfl rfl rfl ?_
    refine l_iconst rfl ?_
    refine l_istore rfl rfl rfl ?_
    exact Rl_weak (C24 _ (1) (0) (by omega) (by omega) (by omega) (by omega) rfl) (And.intro rfl (And.intro rfl (And.intro rfl (And.intro rfl (And.intro rfl (True.intro))))))
abbrev Q_mo_objectOf (S : sS) (from_ : Int) (to : Int) : pst := fun r S1 => S = S1 ∧ (∃ z : Int, r = some (iv z) ∧ (-9 ≤ z ∧ z ≤ 23) ∧ (z ≠ -9 → 0 ≤ z ∧ z < Xi S 904 19))
set_option maxRecDepth 100000 in
theorem t_mo_objectOf {S : sS} (hH : HI S) (from_ : Int) (to : Int) (hfrom_ : 0 ≤ from_ ∧ from_ ≤ 5001) (hto : 0 ≤ to ∧ to ≤ 5001) (hM : LXM S) (d : Nat) : Mt lay0 (d + 4) m_mo_objectOf [.ref 904, iv from_, iv to] S (Q_mo_objectOf S from_ to) := by
  refine Mt_R rfl rfl ?_
  have w1 : 0 ≤ Xi S 904 19 ∧ Xi S 904 19 ≤ 24 := hH.c _ _
  have hc19 : 0 ≤ Xi S 904 19 ∧ Xi S 904 19 ≤ 24 := hH.c _ _
  have C28 : ∀ (n28 : Nat) (v3 : Int) (v4 : Int), (0 ≤ v3 ∧ v3 ≤ 5001) → (0 ≤ v4 ∧ v4 ≤ 5001) → (from_ ≤ v3 ∧ v3 ≤ from_ + 1) → (v3 ≤ 5001) → n28 = (5002 - v4).toNat → Rl lay0 (d + 3) m_mo_objectOf 28 [(0, .ref 904), (2, iv to), (3, iv v3), (4, iv v4)] [] S (Q_mo_objectOf S from_ to) := by
    intro n28
    induction n28 using Nat.strongRecOn with
    | ind n28 ih28 =>
      intro v3 v4 w2 w3 w4 w5 hm28
      refine l_iload rfl rfl ?_
      refine l_iload_n rfl rfl ?_
      refine l_icmp_ge rfl rfl (by unfold rg; omega) (by unfold rg; omega) (fun w6 => ?_) (fun w7 => ?_)
      · refine l_aload_n rfl rfl ?_
        refine l_iload_n rfl rfl ?_
        refine l_iload_n rfl rfl ?_
        refine l_iload_n rfl rfl ?_
        refine l_isub rfl ?_
        refine l_iconst rfl ?_
        refine l_callV rfl rfl rfl (t_mo_means hH v3 (to - v3) 4 ⟨by omega, by omega⟩ ⟨by omega, by omega⟩ ⟨by omega, by omega⟩ (by first | assumption | omega) (by first | assumption | exact (by assumption : LXM S)) _) ?_
        rintro _ _ ⟨rfl, z9, rfl, w9, w8⟩
        show Rl _ _ _ _ _ [iv z9] _ _
        have x60 : z9 ≠ -1 → z9 < Xi S 904 19 := fun q => by have t := (by assumption : z9 ≠ -1 → z9 < cM S 4) q; rw [cM4] at t; exact t
        refine l_istore rfl rfl rfl ?_
        refine l_iload rfl rfl ?_
        refine l_iconst rfl ?_
        refine l_icmp_ne rfl rfl (by unfold rg; omega) (by unfold rg; omega) (fun w10 => ?_) (fun w11 => ?_)
        · refine l_iload rfl rfl ?_
          refine l_ireturn rfl rfl ?_
          exact ⟨rfl, _, rfl, ⟨by omega, by omega⟩, (by omega)⟩
        · refine l_bipush rfl rfl ?_
          refine l_goto rfl rfl ?_
          refine l_ireturn rfl rfl ?_
          exact ⟨rfl, _, rfl, ⟨by omega, by omega⟩, (by omega)⟩
      · refine l_aload_n rfl rfl ?_
        refine l_gfr rfl rfl rfl rfl rfl (hH.r 904 4 907 rfl) ?_
        refine l_iload rfl rfl ?_
        refine l_iaload (n := 5002) rfl rfl (by omega) (by omega) (by unfold rg; omega) ?_
        have w12 : 0 ≤ (Xi S 907 ((v4).toNat)) ∧ (Xi S 907 ((v4).toNat)) ≤ 154 := hH.c _ _
        refine l_iconst rfl ?_
        refine l_icmp_eq rfl rfl (by unfold rg; omega) (by unfold rg; omega) (fun w13 => ?_) (fun w14 => ?_)
        · refine l_iinc rfl rfl rfl rfl ?_
          refine l_goto rfl rfl ?_
          exact Rl_weak (ih28 _ (by omega) (v3) ((v4 + 1)) (by omega) (by omega) (by omega) (by omega) rfl) (And.intro rfl (And.intro rfl (And.intro rfl (And.intro rfl (True.intro)))))
        · refine l_bipush rfl rfl ?_
          refine l_ireturn rfl rfl ?_
          exact ⟨rfl, _, rfl, ⟨by omega, by omega⟩, (by omega)⟩
  refine l_iload_n rfl rfl ?_
  refine l_iload_n rfl rfl ?_
  refine l_icmp_ge rfl rfl (by unfold rg; omega) (by unfold rg; omega) (fun w15 => ?_) (fun w16 => ?_)
  · refine l_iload_n rfl rfl ?_
    refine l_istore_n rfl rfl rfl ?_
    refine l_iload_n rfl rfl ?_
    refine l_istore rfl rfl rfl ?_
    exact Rl_weak (C28 _ (from_) (from_) (by omega) (by omega) (by omega) (by omega) rfl) (And.intro rfl (And.intro rfl (And.intro rfl (And.intro rfl (True.intro)))))
  · refine l_aload_n rfl rfl ?_
    refine l_gfr rfl rfl rfl rfl rfl (hH.r 904 4 907 rfl) ?_
    refine l_iload_n rfl rfl ?_
    refine l_iaload (n := 5002) rfl rfl (by omega) (by omega) (by unfold rg; omega) ?_
    have w17 : 0 ≤ (Xi S 907 ((from_).toNat)) ∧ (Xi S 907 ((from_).toNat)) ≤ 154 := hH.c _ _
    refine l_callS rfl rfl (by decide) rfl (t_mo_isArt hH (Xi S 907 ((from_).toNat)) ⟨by omega, by omega⟩ _) ?_
    rintro _ _ ⟨rfl, z19, rfl, w19, w18⟩
    show Rl _ _ _ _ _ [iv z19] _ _
    refine l_if_eq rfl rfl (by unfold rg; omega) (fun w20 => ?_) (fun w21 => ?_)
    · refine l_iload_n rfl rfl ?_
      refine l_istore_n rfl rfl rfl ?_
      refine l_iload_n rfl rfl ?_
      refine l_istore rfl rfl rfl ?_
      exact Rl_weak (C28 _ (from_) (from_) (by omega) (by omega) (by omega) (by omega) rfl) (And.intro rfl (And.intro rfl (And.intro rfl (And.intro rfl (True.intro)))))
    · refine l_iload_n rfl rfl ?_
      refine l_iconst rfl ?_
      refine l_iadd rfl ?_
      refine l_goto rfl rfl ?_
      refine l_istore_n rfl rfl rfl ?_
      refine l_iload_n rfl rfl ?_
      refine l_istore rfl rfl rfl ?_
      exact Rl_weak (C28 _ ((from_ + 1)) ((from_ + 1)) (by omega) (by omega) (by omega) (by omega) rfl) (And.intro rfl (And.intro rfl (And.intro rfl (And.intro rfl (True.intro)))))
