/-! SAFETY of methods: printed by wip/safe (vc.py, decl.py) -/
/-! SAFETY: as at first: nothing is known -/
def KN0 (S : sS) (n m : Int) : Prop := ∀ r p : Nat, r < 40 → p < 12 → ((r : Int) < n ∨ ((r : Int) = n ∧ (p : Int) < m)) → Xi S (66 + r) p = 0
theorem kn_0 {S : sS} : KN0 S 0 0 := fun r p _ _ h => by omega
theorem kn_w {S U : sS} {k j : Nat} {v : Int32} {n m : Int} (e : U = uI S k j v) (hk : k < 66 ∨ 106 ≤ k) (h : KN0 S n m) : KN0 U n m := fun r p h1 h2 h3 => by
  rw [e, Xi_ne (by omega)]; exact h r p h1 h2 h3
theorem kn_s {S U : sS} {n m : Int} (e : U = uI S (66 + n.toNat) m.toNat (Int32.ofInt 0)) (hn : 0 ≤ n) (hm : 0 ≤ m) (h : KN0 S n m) : KN0 U n (m + 1) := fun r p h1 h2 h3 => by
  rw [e]
  by_cases q : 66 + r = 66 + n.toNat ∧ p = m.toNat
  · rw [q.1, q.2]; exact Xi_same (by unfold rg; omega)
  · rw [Xi_ne q]; exact h r p h1 h2 (by omega)
theorem kn_n {S : sS} {n m : Int} (hm : 12 ≤ m) (h : KN0 S n m) : KN0 S (n + 1) 0 := fun r p h1 h2 h3 => h r p h1 h2 (by omega)
theorem kn_e {S : sS} {n m : Int} (hn : 40 ≤ n) (h : KN0 S n m) : KN0 S 40 0 := fun r p h1 h2 h3 => h r p h1 h2 (by omega)
theorem kn_f {l : List rec} {S T : sS} {n m : Int} (f : FR l S T) (e : kdis l [(66, 106)] = true) (h : KN0 S n m) : KN0 T n m := fun r p h1 h2 h3 => by
  have q := (f.smk e).x (66 + r) (by unfold inK; simp only [List.any_cons, List.any_nil, Bool.or_false, Bool.and_eq_true]; exact ⟨Nat.ble_eq_true_of_le (by omega), by unfold Nat.blt; exact Nat.ble_eq_true_of_le (by omega)⟩) p
  rw [q]; exact h r p h1 h2 h3
theorem TX_kn {S : sS} (h : KN0 S 40 0) : TX S := fun r p h1 h2 h3 => absurd (h r p h1 h2 (by omega)) h3
def md_wo_startAgain : List rec := [(1, 2, 3, 4), (2, 3, 0, 100000), (3, 4, 0, 100000), (4, 5, 0, 100000), (5, 6, 0, 100000), (20, 21, 12, 13), (21, 22, 0, 100000), (22, 23, 0, 100000), (23, 24, 0, 100000), (25, 65, 0, 100000), (66, 106, 0, 100000), (189, 195, 0, 100000), (196, 220, 0, 100000)]
abbrev Q_wo_startAgain (S : sS) : pst := fun r S1 => HI S1 ∧ FR md_wo_startAgain S S1 ∧ (r = none ∧ (LEX S1) ∧ (Xi S1 5 2 = 1) ∧ (∀ j, j ≠ 2 → Xi S1 5 j = Xi S 5 j) ∧ (KN0 S1 40 0))
set_option maxRecDepth 100000 in
theorem t_wo_startAgain {S : sS} (hH : HI S) (hL : LEX S) (hc : Xi S 5 2 = 0) (d : Nat) : Mt lay0 (d + 6) m_wo_startAgain [.ref 20] S (Q_wo_startAgain S) := by
  refine Mt_R rfl rfl ?_
  have hF : FR md_wo_startAgain S S := FR.rf
  have w1 : 0 ≤ Xi S 5 2 ∧ Xi S 5 2 ≤ 24 := hH.c _ _
  have C2 : ∀ (n2 : Nat) (T1 : sS) (_ : HI T1) (_ : FR md_wo_startAgain S T1) (v1 : Int), (0 ≤ v1 ∧ v1 ≤ 40) → (FR [(20, 900, 0, 100000)] S T1) → (KN0 T1 v1 0) → n2 = (41 - v1).toNat → Rl lay0 (d + 5) m_wo_startAgain 2 [(0, .ref 20), (1, iv v1)] [] T1 (Q_wo_startAgain S) := by
    intro n2
    induction n2 using Nat.strongRecOn with
    | ind n2 ih2 =>
      intro T1 hHT1 hFT1 v1 w2 hr2 hk2 hm2
      have C10 : ∀ (n10 : Nat) (T2 : sS) (_ : HI T2) (_ : FR md_wo_startAgain S T2) (v1 : Int) (v2 : Int), (0 ≤ v1 ∧ v1 ≤ 39) → (0 ≤ v2 ∧ v2 ≤ 24) → (FR [(20, 900, 0, 100000)] S T2) → (KN0 T2 v1 0) → ((41 - v1).toNat ≤ n2) → n10 = (25 - v2).toNat → Rl lay0 (d + 5) m_wo_startAgain 10 [(0, .ref 20), (1, iv v1), (2, iv v2)] [] T2 (Q_wo_startAgain S) := by
        intro n10
        induction n10 using Nat.strongRecOn with
        | ind n10 ih10 =>
          intro T2 hHT2 hFT2 v1 v2 w3 w4 hr10 hk10 w5 hm10
          have C33 : ∀ (n33 : Nat) (T3 : sS) (_ : HI T3) (_ : FR md_wo_startAgain S T3) (v1 : Int) (v2 : Int), (0 ≤ v1 ∧ v1 ≤ 39) → (0 ≤ v2 ∧ v2 ≤ 12) → (FR [(20, 900, 0, 100000)] S T3) → (KN0 T3 v1 v2) → ((41 - v1).toNat ≤ n2) → n33 = (13 - v2).toNat → Rl lay0 (d + 5) m_wo_startAgain 33 [(0, .ref 20), (1, iv v1), (2, iv v2)] [] T3 (Q_wo_startAgain S) := by
            intro n33
            induction n33 using Nat.strongRecOn with
            | ind n33 ih33 =>
              intro T3 hHT3 hFT3 v1 v2 w6 w7 hr33 hk33 w8 hm33
              refine l_iload_n rfl rfl ?_
              refine l_bipush rfl rfl ?_
              refine l_icmp_ge rfl rfl (by unfold rg; omega) (by unfold rg; omega) (fun w9 => ?_) (fun w10 => ?_)
              · refine l_iinc rfl rfl rfl rfl ?_
                refine l_goto rfl rfl ?_
                exact Rl_weak (ih2 _ (by omega) T3 hHT3 hFT3 ((v1 + 1)) (by omega) (by first | assumption | exact FR.rf) (by first | exact kn_n (by omega) (by assumption) | exact kn_0) rfl) (And.intro rfl (And.intro rfl (True.intro)))
              · refine l_aload_n rfl rfl ?_
                refine l_gfr rfl rfl rfl rfl rfl (hHT3.r 20 6 65 rfl) ?_
                refine l_iload_n rfl rfl ?_
                refine l_aaload (n := 40) (a := 66 + (v1).toNat) rfl rfl (by decide) (by omega) (by omega) (by unfold rg; omega) (RW_65 hHT3 (by omega)) ?_
                refine l_iload_n rfl rfl ?_
                refine l_iconst rfl ?_
                refine l_iastore (n := 12) rfl (lay_66 (by omega)) (by omega) (by omega) (by unfold rg; omega) ?_
                obtain ⟨U4, eU4⟩ : ∃ T : sS, T = uI T3 (66 + (v1).toNat) ((v2).toNat) (Int32.ofInt 0) := ⟨_, rfl⟩
                rw [← eU4]
                have hHU4 : HI U4 := by rw [eU4]; exact HI_any hHT3 (lh_row66 (by omega))
                have hFU4 : FR md_wo_startAgain S U4 := by rw [eU4]; exact FR.wI hFT3 (mdf_i (r := (66, 106, 0, 100000)) (List.mem_of_getElem? (i := 10) rfl) (inR_i (by omega) (by omega) (by omega) (by omega)))
                have w11 : Xi U4 (66 + (v1).toNat) ((v2).toNat) = 0 := by rw [eU4]; exact Xi_same (by unfold rg; omega)
                have hr0 : FR [(20, 900, 0, 100000)] S U4 := by rw [eU4]; exact FR.wI (by assumption) (mdf_i (r := (20, 900, 0, 100000)) List.mem_cons_self (inR_i (by omega) (by omega) (by omega) (by omega)))
                have hk0 := kn_s eU4 (by omega) (by omega) (by assumption)
                refine l_iinc rfl rfl rfl rfl ?_
                refine l_goto rfl rfl ?_
                exact Rl_weak (ih33 _ (by omega) U4 hHU4 hFU4 (v1) ((v2 + 1)) (by omega) (by omega) (by first | assumption | exact FR.rf) (by assumption) (by omega) rfl) (And.intro rfl (And.intro rfl (And.intro rfl (True.intro))))
          refine l_iload_n rfl rfl ?_
          refine l_bipush rfl rfl ?_
          refine l_icmp_ge rfl rfl (by unfold rg; omega) (by unfold rg; omega) (fun w12 => ?_) (fun w13 => ?_)
          · refine l_iconst rfl ?_
            refine l_istore_n rfl rfl rfl ?_
            exact Rl_weak (C33 _ T2 hHT2 hFT2 (v1) (0) (by omega) (by omega) (by first | assumption | exact FR.rf) (by assumption) (by omega) rfl) (And.intro rfl (And.intro rfl (And.intro rfl (True.intro))))
          · refine l_aload_n rfl rfl ?_
            refine l_gfr rfl rfl rfl rfl rfl (hHT2.r 20 5 24 rfl) ?_
            refine l_iload_n rfl rfl ?_
            refine l_aaload (n := 40) (a := 25 + (v1).toNat) rfl rfl (by decide) (by omega) (by omega) (by unfold rg; omega) (RW_24 hHT2 (by omega)) ?_
            refine l_iload_n rfl rfl ?_
            refine l_iconst rfl ?_
            refine l_iastore (n := 24) rfl (lay_25 (by omega)) (by omega) (by omega) (by unfold rg; omega) ?_
            obtain ⟨U5, eU5⟩ : ∃ T : sS, T = uI T2 (25 + (v1).toNat) ((v2).toNat) (Int32.ofInt 0) := ⟨_, rfl⟩
            rw [← eU5]
            have hHU5 : HI U5 := by rw [eU5]; exact HI_any hHT2 (lh_row25 (by omega))
            have hFU5 : FR md_wo_startAgain S U5 := by rw [eU5]; exact FR.wI hFT2 (mdf_i (r := (25, 65, 0, 100000)) (List.mem_of_getElem? (i := 9) rfl) (inR_i (by omega) (by omega) (by omega) (by omega)))
            have w14 : Xi U5 (25 + (v1).toNat) ((v2).toNat) = 0 := by rw [eU5]; exact Xi_same (by unfold rg; omega)
            have hr0 : FR [(20, 900, 0, 100000)] S U5 := by rw [eU5]; exact FR.wI (by assumption) (mdf_i (r := (20, 900, 0, 100000)) List.mem_cons_self (inR_i (by omega) (by omega) (by omega) (by omega)))
            have hk0 : KN0 U5 v1 0 := kn_w eU5 (by omega) (by assumption)
            refine l_iinc rfl rfl rfl rfl ?_
            refine l_goto rfl rfl ?_
            exact Rl_weak (ih10 _ (by omega) U5 hHU5 hFU5 (v1) ((v2 + 1)) (by omega) (by omega) (by first | assumption | exact FR.rf) (by assumption) (by omega) rfl) (And.intro rfl (And.intro rfl (And.intro rfl (True.intro))))
      have C62 : ∀ (n62 : Nat) (T6 : sS) (_ : HI T6) (_ : FR md_wo_startAgain S T6) (v1 : Int), (0 ≤ v1 ∧ v1 ≤ 24) → (FR [(20, 900, 0, 100000)] S T6) → (KN0 T6 40 0) → n62 = (25 - v1).toNat → Rl lay0 (d + 5) m_wo_startAgain 62 [(0, .ref 20), (1, iv v1)] [] T6 (Q_wo_startAgain S) := by
        intro n62
        induction n62 using Nat.strongRecOn with
        | ind n62 ih62 =>
          intro T6 hHT6 hFT6 v1 w15 hr62 hk62 hm62
          have C70 : ∀ (n70 : Nat) (T7 : sS) (_ : HI T7) (_ : FR md_wo_startAgain S T7) (v1 : Int) (v2 : Int), (0 ≤ v1 ∧ v1 ≤ 23) → (0 ≤ v2 ∧ v2 ≤ 6) → (FR [(20, 900, 0, 100000)] S T7) → (KN0 T7 40 0) → ((25 - v1).toNat ≤ n62) → n70 = (7 - v2).toNat → Rl lay0 (d + 5) m_wo_startAgain 70 [(0, .ref 20), (1, iv v1), (2, iv v2)] [] T7 (Q_wo_startAgain S) := by
            intro n70
            induction n70 using Nat.strongRecOn with
            | ind n70 ih70 =>
              intro T7 hHT7 hFT7 v1 v2 w16 w17 hr70 hk70 w18 hm70
              have C93 : ∀ (n93 : Nat) (T8 : sS) (_ : HI T8) (_ : FR md_wo_startAgain S T8) (v1 : Int) (v2 : Int), (0 ≤ v1 ∧ v1 ≤ 23) → (0 ≤ v2 ∧ v2 ≤ 6) → (FR [(20, 900, 0, 100000)] S T8) → (KN0 T8 40 0) → ((25 - v1).toNat ≤ n62) → n93 = (7 - v2).toNat → Rl lay0 (d + 5) m_wo_startAgain 93 [(0, .ref 20), (1, iv v1), (2, iv v2)] [] T8 (Q_wo_startAgain S) := by
                intro n93
                induction n93 using Nat.strongRecOn with
                | ind n93 ih93 =>
                  intro T8 hHT8 hFT8 v1 v2 w19 w20 hr93 hk93 w21 hm93
                  refine l_iload_n rfl rfl ?_
                  refine l_bipush rfl rfl ?_
                  refine l_icmp_ge rfl rfl (by unfold rg; omega) (by unfold rg; omega) (fun w22 => ?_) (fun w23 => ?_)
                  · refine l_iinc rfl rfl rfl rfl ?_
                    refine l_goto rfl rfl ?_
                    exact Rl_weak (ih62 _ (by omega) T8 hHT8 hFT8 ((v1 + 1)) (by omega) (by first | assumption | exact FR.rf) (by first | assumption | exact kn_e (by omega) (by assumption)) rfl) (And.intro rfl (And.intro rfl (True.intro)))
                  · refine l_aload_n rfl rfl ?_
                    refine l_gfr rfl rfl rfl rfl rfl (hHT8.r 20 10 195 rfl) ?_
                    refine l_iload_n rfl rfl ?_
                    refine l_aaload (n := 24) (a := 196 + (v1).toNat) rfl rfl (by decide) (by omega) (by omega) (by unfold rg; omega) (RW_195 hHT8 (by omega)) ?_
                    refine l_iload_n rfl rfl ?_
                    refine l_iconst rfl ?_
                    refine l_iastore (n := 6) rfl (lay_196 (by omega)) (by omega) (by omega) (by unfold rg; omega) ?_
                    obtain ⟨U9, eU9⟩ : ∃ T : sS, T = uI T8 (196 + (v1).toNat) ((v2).toNat) (Int32.ofInt (-1)) := ⟨_, rfl⟩
                    rw [← eU9]
                    have hHU9 : HI U9 := by rw [eU9]; exact HI_w hHT8 (by rw [lh_wy (by omega)]; omega) (by rw [lh_wy (by omega)]; omega)
                    have hFU9 : FR md_wo_startAgain S U9 := by rw [eU9]; exact FR.wI hFT8 (mdf_i (r := (196, 220, 0, 100000)) (List.mem_of_getElem? (i := 12) rfl) (inR_i (by omega) (by omega) (by omega) (by omega)))
                    have w24 : Xi U9 (196 + (v1).toNat) ((v2).toNat) = (-1) := by rw [eU9]; exact Xi_same (by unfold rg; omega)
                    have hr0 : FR [(20, 900, 0, 100000)] S U9 := by rw [eU9]; exact FR.wI (by assumption) (mdf_i (r := (20, 900, 0, 100000)) List.mem_cons_self (inR_i (by omega) (by omega) (by omega) (by omega)))
                    have hk0 : KN0 U9 40 0 := kn_w eU9 (by omega) (by assumption)
                    refine l_iinc rfl rfl rfl rfl ?_
                    refine l_goto rfl rfl ?_
                    exact Rl_weak (ih93 _ (by omega) U9 hHU9 hFU9 (v1) ((v2 + 1)) (by omega) (by omega) (by first | assumption | exact FR.rf) (by assumption) (by omega) rfl) (And.intro rfl (And.intro rfl (And.intro rfl (True.intro))))
              refine l_iload_n rfl rfl ?_
              refine l_bipush rfl rfl ?_
              refine l_icmp_ge rfl rfl (by unfold rg; omega) (by unfold rg; omega) (fun w25 => ?_) (fun w26 => ?_)
              · refine l_iconst rfl ?_
                refine l_istore_n rfl rfl rfl ?_
                exact Rl_weak (C93 _ T7 hHT7 hFT7 (v1) (0) (by omega) (by omega) (by first | assumption | exact FR.rf) (by assumption) (by omega) rfl) (And.intro rfl (And.intro rfl (And.intro rfl (True.intro))))
              · refine l_aload_n rfl rfl ?_
                refine l_gfr rfl rfl rfl rfl rfl (hHT7.r 20 9 188 rfl) ?_
                refine l_iload_n rfl rfl ?_
                refine l_aaload (n := 6) (a := 189 + (v2).toNat) rfl rfl (by decide) (by omega) (by omega) (by unfold rg; omega) (RW_188 hHT7 (by omega)) ?_
                refine l_iload_n rfl rfl ?_
                refine l_iconst rfl ?_
                refine l_iastore (n := 24) rfl (lay_189 (by omega)) (by omega) (by omega) (by unfold rg; omega) ?_
                obtain ⟨U10, eU10⟩ : ∃ T : sS, T = uI T7 (189 + (v2).toNat) ((v1).toNat) (Int32.ofInt 0) := ⟨_, rfl⟩
                rw [← eU10]
                have hHU10 : HI U10 := by rw [eU10]; exact HI_any hHT7 (lh_row189 (by omega))
                have hFU10 : FR md_wo_startAgain S U10 := by rw [eU10]; exact FR.wI hFT7 (mdf_i (r := (189, 195, 0, 100000)) (List.mem_of_getElem? (i := 11) rfl) (inR_i (by omega) (by omega) (by omega) (by omega)))
                have w27 : Xi U10 (189 + (v2).toNat) ((v1).toNat) = 0 := by rw [eU10]; exact Xi_same (by unfold rg; omega)
                have hr0 : FR [(20, 900, 0, 100000)] S U10 := by rw [eU10]; exact FR.wI (by assumption) (mdf_i (r := (20, 900, 0, 100000)) List.mem_cons_self (inR_i (by omega) (by omega) (by omega) (by omega)))
                have hk0 : KN0 U10 40 0 := kn_w eU10 (by omega) (by assumption)
                refine l_iinc rfl rfl rfl rfl ?_
                refine l_goto rfl rfl ?_
                exact Rl_weak (ih70 _ (by omega) U10 hHU10 hFU10 (v1) ((v2 + 1)) (by omega) (by omega) (by first | assumption | exact FR.rf) (by assumption) (by omega) rfl) (And.intro rfl (And.intro rfl (And.intro rfl (True.intro))))
          refine l_iload_n rfl rfl ?_
          refine l_bipush rfl rfl ?_
          refine l_icmp_ge rfl rfl (by unfold rg; omega) (by unfold rg; omega) (fun w28 => ?_) (fun w29 => ?_)
          · refine l_aload_n rfl rfl ?_
            refine l_iconst rfl ?_
            refine l_pfi rfl rfl rfl rfl ?_
            obtain ⟨U11, eU11⟩ : ∃ T : sS, T = uI T6 20 12 (Int32.ofInt 0) := ⟨_, rfl⟩
            rw [← eU11]
            have hHU11 : HI U11 := by rw [eU11]; exact HI_any hHT6 (rfl)
            have hFU11 : FR md_wo_startAgain S U11 := by rw [eU11]; exact FR.wI hFT6 (mdf_i (r := (20, 21, 12, 13)) (List.mem_of_getElem? (i := 5) rfl) (inR_i (by omega) (by omega) (by omega) (by omega)))
            have w30 : Xi U11 20 12 = 0 := by rw [eU11]; exact Xi_same (by unfold rg; omega)
            have hr0 : FR [(20, 900, 0, 100000)] S U11 := by rw [eU11]; exact FR.wI (by assumption) (mdf_i (r := (20, 900, 0, 100000)) List.mem_cons_self (inR_i (by omega) (by omega) (by omega) (by omega)))
            have hk0 : KN0 U11 40 0 := kn_w eU11 (by omega) (by assumption)
            have hl122 : LEX U11 := LEX_FR hr0 rfl rfl hL
            have h5w : ∀ j, Xi U11 5 j = Xi S 5 j := fun j => (hr0.cx 5 rfl j).1
            have h52 := h5w 2
            refine l_aload_n rfl rfl ?_
            refine l_aload_n rfl rfl ?_
            refine l_gfr rfl rfl rfl rfl rfl (hHU11.r 20 0 1 rfl) ?_
            refine l_iconst rfl ?_
            refine l_ldcR (i := 27) rfl rfl ?_
            have w31 : Xi U11 1 3 = Xi T6 1 3 := (show Xi U11 1 3 = Xi T6 1 3 from by rw [eU11]; exact Xi_ne (by omega))
            have w32 : 0 ≤ Xi T6 1 3 ∧ Xi T6 1 3 ≤ 200 := hHT6.c _ _
            refine l_callV rfl rfl rfl (t_vo_addFirst hHU11 2 27 _ ⟨by omega, by omega⟩ rfl (hl122) (show Xi U11 5 2 + 1 ≤ 24 by first | omega | (have hz : Xi U11 5 2 = Xi U11 5 (2 : Int).toNat := rfl; omega)) _) ?_
            rintro _ T12 ⟨hHT12, w39, z38, rfl, w38, w33, w34, w35, w36, w37⟩
            have hFT12 : FR md_wo_startAgain S T12 := FR.tr hFU11 w39 rfl
            show Rl _ _ _ _ _ [iv z38, .ref 20] _ _
            have hz2 : z38 = Xi U11 5 2 := by have t := (by assumption : z38 = Xi U11 5 (2 : Int).toNat); exact t
            have hc2a : Xi T12 5 2 = Xi U11 5 2 + 1 := by have t := (by assumption : Xi T12 5 (2 : Int).toNat = Xi U11 5 (2 : Int).toNat + 1); exact t
            have ho2a : ∀ j, j ≠ 2 → Xi T12 5 j = Xi U11 5 j := by have t := (by assumption : ∀ j, j ≠ (2 : Int).toNat → Xi T12 5 j = Xi U11 5 j); exact t
            have hl133 : LEX T12 := by assumption
            have hk133 : KN0 T12 40 0 := kn_f (by assumption : FR md_vo_addFirst U11 T12) rfl hk0
            refine l_iconst rfl ?_
            refine l_callV rfl rfl rfl (t_wo_makeObject hHT12 z38 4 ⟨by omega, by omega⟩ ⟨by omega, by omega⟩ _) ?_
            rintro _ T13 ⟨hHT13, w41, rfl⟩
            have hFT13 : FR md_wo_startAgain S T13 := FR.tr hFT12 w41 rfl
            show Rl _ _ _ _ _ [] _ _
            have h5x : ∀ j, Xi T13 5 j = Xi T12 5 j := fun j => ((by assumption : FR md_wo_makeObject T12 T13).cx 5 rfl j).1
            have h5x2 := h5x 2
            have hl137 : LEX T13 := LEX_FR (by assumption : FR md_wo_makeObject T12 T13) rfl rfl hl133
            have hk137 : KN0 T13 40 0 := kn_f (by assumption : FR md_wo_makeObject T12 T13) rfl hk133
            refine l_return rfl rfl ?_
            have w42 : Xi T13 5 2 = Xi T12 5 2 := (show Xi T13 5 2 = Xi T12 5 2 from w41.x _ _ rfl)
            have w43 : 0 ≤ Xi T12 5 2 ∧ Xi T12 5 2 ≤ 24 := hHT12.c _ _
            exact ⟨hHT13, hFT13, rfl, (hl137), (by omega), (fun j hj => (h5x j).trans ((ho2a j hj).trans (h5w j))), (hk137)⟩
          · refine l_iconst rfl ?_
            refine l_istore_n rfl rfl rfl ?_
            exact Rl_weak (C70 _ T6 hHT6 hFT6 (v1) (0) (by omega) (by omega) (by first | assumption | exact FR.rf) (by assumption) (by omega) rfl) (And.intro rfl (And.intro rfl (And.intro rfl (True.intro))))
      refine l_iload_n rfl rfl ?_
      refine l_bipush rfl rfl ?_
      refine l_icmp_ge rfl rfl (by unfold rg; omega) (by unfold rg; omega) (fun w44 => ?_) (fun w45 => ?_)
      · refine l_iconst rfl ?_
        refine l_istore_n rfl rfl rfl ?_
        exact Rl_weak (C62 _ T1 hHT1 hFT1 (0) (by omega) (by first | assumption | exact FR.rf) (by first | assumption | exact kn_e (by omega) (by assumption)) rfl) (And.intro rfl (And.intro rfl (True.intro)))
      · refine l_iconst rfl ?_
        refine l_istore_n rfl rfl rfl ?_
        exact Rl_weak (C10 _ T1 hHT1 hFT1 (v1) (0) (by omega) (by omega) (by first | assumption | exact FR.rf) (by assumption) (by omega) rfl) (And.intro rfl (And.intro rfl (And.intro rfl (True.intro))))
  refine l_iconst rfl ?_
  refine l_istore_n rfl rfl rfl ?_
  exact Rl_weak (C2 _ S hH hF (0) (by omega) (by first | assumption | exact FR.rf) (by first | exact kn_n (by omega) (by assumption) | exact kn_0) rfl) (And.intro rfl (And.intro rfl (True.intro)))

