section
theorem gT_i {T : Int → Int} {k a z c : Int} (h : gT T k a = (z, c)) : (z = 1 → T a = k ∧ c = a + 1) ∧ (z = 0 → T a ≠ k ∧ c = a) := by
  by_cases q : T a = k
  · rw [gT_1 q] at h
    have h1 := congrArg Prod.fst h
    have h2 := congrArg Prod.snd h
    simp only at h1 h2
    exact ⟨fun _ => ⟨q, h2.symm⟩, fun w => by omega⟩
  · rw [gT_0 q] at h
    have h1 := congrArg Prod.fst h
    have h2 := congrArg Prod.snd h
    simp only at h1 h2
    exact ⟨fun w => by omega, fun _ => ⟨q, h2.symm⟩⟩
theorem gBt_i {T : Int → Int} {a z c : Int} (h : gBt T a = (z, c)) : (z = 1 → T a = 16 ∨ T a = 104) ∧ (z = 0 → T a ≠ 16 ∧ T a ≠ 104) := by
  by_cases q : T a = 104
  · rw [gBt_c q rfl] at h
    have h1 := congrArg Prod.fst h
    simp only at h1
    exact ⟨fun _ => Or.inr q, fun w => by omega⟩
  · by_cases q2 : T a = 16
    · rw [gBt_a q q2] at h
      have h1 := congrArg Prod.fst h
      simp only at h1
      exact ⟨fun _ => Or.inl q2, fun w => by omega⟩
    · rw [gBt_0 q q2] at h
      have h1 := congrArg Prod.fst h
      simp only at h1
      exact ⟨fun w => by omega, fun _ => ⟨q2, q⟩⟩
/-- the sort of a sentence that ends in RUNS -/
def crs (T : Int → Int) (al a : Int) : Int := if al ≠ 0 then 15 else if T (re7 T a) = 7 then 14 else if T (re7 T a) = 16 ∨ T (re7 T a) = 104 then 16 else 15
theorem crs_i {T : Int → Int} {al a s : Int} (h : (al ≠ 0 ∧ s = 15) ∨ (al = 0 ∧ T (re7 T a) = 7 ∧ s = 14) ∨ (al = 0 ∧ T (re7 T a) ≠ 7 ∧ (T (re7 T a) = 16 ∨ T (re7 T a) = 104) ∧ s = 16) ∨ (al = 0 ∧ T (re7 T a) ≠ 7 ∧ T (re7 T a) ≠ 16 ∧ T (re7 T a) ≠ 104 ∧ s = 15)) : s = crs T al a := by
  unfold crs
  rcases h with ⟨h, e⟩ | ⟨h, h1, e⟩ | ⟨h, h1, h2, e⟩ | ⟨h, h1, h2, h3, e⟩
  · rw [if_pos h, e]
  · rw [if_neg (by omega), if_pos h1, e]
  · rw [if_neg (by omega), if_neg h1, if_pos h2, e]
  · rw [if_neg (by omega), if_neg h1, if_neg (by omega), e]
theorem rs_x {T : Int → Int} {X : Int × Int} {al n a : Int} (h : (al ≠ 0 → X = gT T 103 a) ∧ (al = 0 → X = gSq (gRn T (5000 - n).toNat a) (gT T 103))) (hn : 5000 ≤ n) : X = gT T 103 a := by
  by_cases q : al = 0
  · exact rs_e (h.2 q) hn
  · exact h.1 q

def md_gr_takePhrases__p : List rec := [(890, 891, 1, 2)]
abbrev Q_gr_takePhrases__p (S : sS) : pst := fun r S1 => RI S1 ∧ FR md_gr_takePhrases__p S S1 ∧ (∃ z : Int, r = some (iv z) ∧ (0 ≤ z ∧ z ≤ 1) ∧ (gPs (ty7 S) (Xi S 890 1) = (z, Xi S1 890 1)) ∧ (Xi S 890 1 ≤ Xi S1 890 1 ∧ Xi S1 890 1 ≤ Xi S 876 7))
set_option maxRecDepth 100000 in
theorem t_gr_takePhrases__p {S : sS} (hH : RI S) (hfr : NFR S) (hr : Xi S 876 7 ≤ 5130) (ha : 0 ≤ Xi S 890 1 ∧ Xi S 890 1 ≤ Xi S 876 7) (d : Nat) : Mp lay0 (d + 6) m_gr_takePhrases [.ref 890] S (Q_gr_takePhrases__p S) := by
  refine Mp_R rfl rfl (fun fu => ?_)
  have hF : FR md_gr_takePhrases__p S S := FR.rf
  have w1 : -2147483648 ≤ Xi S 876 7 ∧ Xi S 876 7 ≤ 2147483647 := Xi_rgI
  have w2 : -2147483648 ≤ Xi S 890 1 ∧ Xi S 890 1 ≤ 2147483647 := Xi_rgI
  have C4 : ∀ (n4 : Nat) (_ : n4 ≤ fu) (T1 : sS) (_ : RI T1) (_ : FR md_gr_takePhrases__p S T1) (v1 : Int) (v2 : Int), (0 ≤ v1 ∧ v1 ≤ 1) → (-2147483648 ≤ v2 ∧ v2 ≤ 2147483647) → ((v2 = 0 → v1 = 1 ∧ Xi T1 890 1 = Xi S 890 1) ∧ (0 < v2 → v1 = 1 → gPs (ty7 S) (Xi S 890 1) = gPsn (ty7 S) (5000 - v2).toNat (Xi T1 890 1)) ∧ (v1 = 0 → gPs (ty7 S) (Xi S 890 1) = (0, Xi T1 890 1))) → (0 ≤ v2 ∧ v2 ≤ 5000) → (Xi S 890 1 ≤ Xi T1 890 1 ∧ Xi T1 890 1 ≤ Xi S 876 7) → Pl n4 lay0 (d + 5) m_gr_takePhrases 4 [(0, .ref 890), (1, iv v1), (2, iv v2)] [] T1 (Q_gr_takePhrases__p S) := by
    intro n4
    induction n4 with
    | zero => intros; exact Pl_0
    | succ n4 ih4 =>
      intro hm4 T1 hHT1 hFT1 v1 v2 w3 w4 L4 w5 w6
      have w7 : Xi T1 876 7 = Xi S 876 7 := hFT1.x _ _ rfl
      have w8 : -2147483648 ≤ Xi T1 876 7 ∧ Xi T1 876 7 ≤ 2147483647 := Xi_rgI
      have w9 : -2147483648 ≤ Xi T1 890 1 ∧ Xi T1 890 1 ≤ 2147483647 := Xi_rgI
      have C56 : ∀  (T2 : sS) (_ : RI T2) (_ : FR md_gr_takePhrases__p S T2) (v1 : Int), (0 ≤ v1 ∧ v1 ≤ 1) → (gPs (ty7 S) (Xi S 890 1) = (v1, Xi T2 890 1)) → (Xi S 890 1 ≤ Xi T2 890 1 ∧ Xi T2 890 1 ≤ Xi S 876 7) → Pl n4 lay0 (d + 5) m_gr_takePhrases 56 [(1, iv v1)] [] T2 (Q_gr_takePhrases__p S) := by
        intro T2 hHT2 hFT2 v1 w10 L56 w11
        have w12 : Xi T2 876 7 = Xi S 876 7 := hFT2.x _ _ rfl
        have w13 : -2147483648 ≤ Xi T2 876 7 ∧ Xi T2 876 7 ≤ 2147483647 := Xi_rgI
        have w14 : -2147483648 ≤ Xi T2 890 1 ∧ Xi T2 890 1 ≤ 2147483647 := Xi_rgI
        refine y_iload_n rfl rfl ?_
        refine y_ireturn rfl (retI_z (by omega)) ?_
        exact ⟨hHT2, hFT2, _, rfl, ⟨by omega, by omega⟩, (L56), (by omega)⟩
      refine ys_iload_n rfl rfl ?_
      refine y_sipush rfl rfl ?_
      refine y_icmp_ge rfl rfl (by unfold rg; omega) (by unfold rg; omega) (fun w15 => ?_) (fun w16 => ?_)
      · exact Pl_weak (C56 T1 hHT1 hFT1 (v1) (by omega) (by first | exact lp_o (fun _ => rfl) ⟨fun q => L4.2.1 (by omega) q, L4.2.2⟩ (by omega) (by omega) | (rw [L4.2.2 (by omega)]; exact pe (by omega) rfl) | (rw [lp_n (fun _ _ => rfl) (L4.2.1 (by omega) (by omega)) (by omega) gp22 (by omega)]; exact pe (by omega) rfl) | (rw [lp_e (fun _ => rfl) (L4.2.1 (by omega) (by omega)) (by omega)]; exact pe (by omega) rfl)) (by omega)) (by omega) (And.intro rfl (True.intro))
      · refine y_iload_n rfl rfl ?_
        refine y_if_eq rfl rfl (by unfold rg; omega) (fun w17 => ?_) (fun w18 => ?_)
        · exact Pl_weak (C56 T1 hHT1 hFT1 (v1) (by omega) (by first | exact lp_o (fun _ => rfl) ⟨fun q => L4.2.1 (by omega) q, L4.2.2⟩ (by omega) (by omega) | (rw [L4.2.2 (by omega)]; exact pe (by omega) rfl) | (rw [lp_n (fun _ _ => rfl) (L4.2.1 (by omega) (by omega)) (by omega) gp22 (by omega)]; exact pe (by omega) rfl) | (rw [lp_e (fun _ => rfl) (L4.2.1 (by omega) (by omega)) (by omega)]; exact pe (by omega) rfl)) (by omega)) (by omega) (And.intro rfl (True.intro))
        · refine y_iload_n rfl rfl ?_
          refine y_if_eq rfl rfl (by unfold rg; omega) (fun w19 => ?_) (fun w20 => ?_)
          · refine y_aload_n rfl rfl ?_
            refine y_bipush rfl rfl ?_
            refine y_callV rfl rfl rfl (t_gr_take__p hHT1 44 ⟨by omega, by omega⟩ (by first | assumption | exact (NFR_FR hFT1 rfl rfl (by assumption : NFR S))) (by first | assumption | omega) (by first | assumption | omega) _) ?_
            rintro _ T3 ⟨hHT3, w24, z23, rfl, w23, w21, w22⟩
            have hFT3 : FR md_gr_takePhrases__p S T3 := FR.tr hFT1 w24 rfl
            show Pl _ _ _ _ _ _ [iv z23] _ _
            have gp31 := w21
            rw [FRT hFT1 rfl rfl] at gp31
            clear w21
            refine y_if_eq rfl rfl (by unfold rg; omega) (fun w25 => ?_) (fun w26 => ?_)
            · rw [show z23 = 0 by omega] at gp31
              refine y_aload_n rfl rfl ?_
              have w27 : Xi T3 876 7 = Xi T1 876 7 := (show Xi T3 876 7 = Xi T1 876 7 from w24.x _ _ rfl)
              refine y_callV rfl rfl rfl (t_gr_takePhrase__p hHT3 (by first | assumption | exact (NFR_FR hFT3 rfl rfl (by assumption : NFR S))) (by first | assumption | omega) (by first | assumption | omega) _) ?_
              rintro _ T4 ⟨hHT4, w31, z30, rfl, w30, w28, w29⟩
              have hFT4 : FR md_gr_takePhrases__p S T4 := FR.tr hFT3 w31 rfl
              show Pl _ _ _ _ _ _ [iv z30] _ _
              have gp46 := w28
              rw [FRT hFT3 rfl rfl] at gp46
              clear w28
              refine y_istore_n rfl rfl rfl ?_
              refine y_iinc rfl rfl rfl rfl ?_
              refine y_goto rfl rfl ?_
              have w32 : Xi T4 876 7 = Xi T1 876 7 := (show Xi T4 876 7 = Xi T3 876 7 from w31.x _ _ rfl).trans ((show Xi T3 876 7 = Xi T1 876 7 from w24.x _ _ rfl))
              exact Pl_weak (ih4 (by omega) T4 hHT4 hFT4 (z30) ((v2 + 1)) (by omega) (by omega) (by first | exact ⟨fun _ => ⟨rfl, rfl⟩, fun q => absurd q (by omega), fun q => absurd q (by omega)⟩ | exact ps_0 L4.1 (by omega) (by first | exact Or.inl ⟨by omega, gp31, gp46⟩ | exact Or.inr ⟨by omega, gp31, gp39⟩) | exact ps_s (L4.2.1 (by omega) (by omega)) (by omega) (by omega) gp22 (by omega) (by first | exact Or.inl ⟨by omega, gp31, gp46⟩ | exact Or.inr ⟨by omega, gp31, gp39⟩)) (by omega) (by omega)) (by omega) (And.intro rfl (And.intro rfl (And.intro rfl (True.intro))))
            · rw [show z23 = 1 by omega] at gp31
              refine y_aload_n rfl rfl ?_
              refine y_iconst rfl ?_
              have w33 : Xi T3 876 7 = Xi T1 876 7 := (show Xi T3 876 7 = Xi T1 876 7 from w24.x _ _ rfl)
              refine y_callV rfl rfl rfl (t_gr_takeTest__p hHT3 1 ⟨by omega, by omega⟩ (by first | assumption | exact (NFR_FR hFT3 rfl rfl (by assumption : NFR S))) (by first | assumption | omega) (by first | assumption | omega) _) ?_
              rintro _ T5 ⟨hHT5, w37, z36, rfl, w36, w34, w35⟩
              have hFT5 : FR md_gr_takePhrases__p S T5 := FR.tr hFT3 w37 rfl
              show Pl _ _ _ _ _ _ [iv z36] _ _
              have gp39 := w34
              rw [FRT hFT3 rfl rfl] at gp39
              clear w34
              refine y_goto rfl rfl ?_
              refine y_istore_n rfl rfl rfl ?_
              refine y_iinc rfl rfl rfl rfl ?_
              refine y_goto rfl rfl ?_
              have w38 : Xi T5 876 7 = Xi T1 876 7 := (show Xi T5 876 7 = Xi T3 876 7 from w37.x _ _ rfl).trans ((show Xi T3 876 7 = Xi T1 876 7 from w24.x _ _ rfl))
              exact Pl_weak (ih4 (by omega) T5 hHT5 hFT5 (z36) ((v2 + 1)) (by omega) (by omega) (by first | exact ⟨fun _ => ⟨rfl, rfl⟩, fun q => absurd q (by omega), fun q => absurd q (by omega)⟩ | exact ps_0 L4.1 (by omega) (by first | exact Or.inl ⟨by omega, gp31, gp46⟩ | exact Or.inr ⟨by omega, gp31, gp39⟩) | exact ps_s (L4.2.1 (by omega) (by omega)) (by omega) (by omega) gp22 (by omega) (by first | exact Or.inl ⟨by omega, gp31, gp46⟩ | exact Or.inr ⟨by omega, gp31, gp39⟩)) (by omega) (by omega)) (by omega) (And.intro rfl (And.intro rfl (And.intro rfl (True.intro))))
          · refine y_aload_n rfl rfl ?_
            refine y_bipush rfl rfl ?_
            refine y_callV rfl rfl rfl (t_gr_take__p hHT1 105 ⟨by omega, by omega⟩ (by first | assumption | exact (NFR_FR hFT1 rfl rfl (by assumption : NFR S))) (by first | assumption | omega) (by first | assumption | omega) _) ?_
            rintro _ T6 ⟨hHT6, w42, z41, rfl, w41, w39, w40⟩
            have hFT6 : FR md_gr_takePhrases__p S T6 := FR.tr hFT1 w42 rfl
            show Pl _ _ _ _ _ _ [iv z41] _ _
            have gp22 := w39
            rw [FRT hFT1 rfl rfl] at gp22
            clear w39
            refine y_if_eq rfl rfl (by unfold rg; omega) (fun w43 => ?_) (fun w44 => ?_)
            · rw [show z41 = 0 by omega] at gp22
              have w45 : Xi T6 876 7 = Xi T1 876 7 := (show Xi T6 876 7 = Xi T1 876 7 from w42.x _ _ rfl)
              exact Pl_weak (C56 T6 hHT6 hFT6 (v1) (by omega) (by first | exact lp_o (fun _ => rfl) ⟨fun q => L4.2.1 (by omega) q, L4.2.2⟩ (by omega) (by omega) | (rw [L4.2.2 (by omega)]; exact pe (by omega) rfl) | (rw [lp_n (fun _ _ => rfl) (L4.2.1 (by omega) (by omega)) (by omega) gp22 (by omega)]; exact pe (by omega) rfl) | (rw [lp_e (fun _ => rfl) (L4.2.1 (by omega) (by omega)) (by omega)]; exact pe (by omega) rfl)) (by omega)) (by omega) (And.intro rfl (True.intro))
            · rw [show z41 = 1 by omega] at gp22
              refine y_aload_n rfl rfl ?_
              refine y_bipush rfl rfl ?_
              have w46 : Xi T6 876 7 = Xi T1 876 7 := (show Xi T6 876 7 = Xi T1 876 7 from w42.x _ _ rfl)
              refine y_callV rfl rfl rfl (t_gr_take__p hHT6 44 ⟨by omega, by omega⟩ (by first | assumption | exact (NFR_FR hFT6 rfl rfl (by assumption : NFR S))) (by first | assumption | omega) (by first | assumption | omega) _) ?_
              rintro _ T7 ⟨hHT7, w50, z49, rfl, w49, w47, w48⟩
              have hFT7 : FR md_gr_takePhrases__p S T7 := FR.tr hFT6 w50 rfl
              show Pl _ _ _ _ _ _ [iv z49] _ _
              have gp31 := w47
              rw [FRT hFT6 rfl rfl] at gp31
              clear w47
              refine y_if_eq rfl rfl (by unfold rg; omega) (fun w51 => ?_) (fun w52 => ?_)
              · rw [show z49 = 0 by omega] at gp31
                refine y_aload_n rfl rfl ?_
                have w53 : Xi T7 876 7 = Xi T1 876 7 := (show Xi T7 876 7 = Xi T6 876 7 from w50.x _ _ rfl).trans ((show Xi T6 876 7 = Xi T1 876 7 from w42.x _ _ rfl))
                refine y_callV rfl rfl rfl (t_gr_takePhrase__p hHT7 (by first | assumption | exact (NFR_FR hFT7 rfl rfl (by assumption : NFR S))) (by first | assumption | omega) (by first | assumption | omega) _) ?_
                rintro _ T8 ⟨hHT8, w57, z56, rfl, w56, w54, w55⟩
                have hFT8 : FR md_gr_takePhrases__p S T8 := FR.tr hFT7 w57 rfl
                show Pl _ _ _ _ _ _ [iv z56] _ _
                have gp46 := w54
                rw [FRT hFT7 rfl rfl] at gp46
                clear w54
                refine y_istore_n rfl rfl rfl ?_
                refine y_iinc rfl rfl rfl rfl ?_
                refine y_goto rfl rfl ?_
                have w58 : Xi T8 876 7 = Xi T1 876 7 := (show Xi T8 876 7 = Xi T7 876 7 from w57.x _ _ rfl).trans ( (show Xi T7 876 7 = Xi T6 876 7 from w50.x _ _ rfl).trans ((show Xi T6 876 7 = Xi T1 876 7 from w42.x _ _ rfl)))
                exact Pl_weak (ih4 (by omega) T8 hHT8 hFT8 (z56) ((v2 + 1)) (by omega) (by omega) (by first | exact ⟨fun _ => ⟨rfl, rfl⟩, fun q => absurd q (by omega), fun q => absurd q (by omega)⟩ | exact ps_0 L4.1 (by omega) (by first | exact Or.inl ⟨by omega, gp31, gp46⟩ | exact Or.inr ⟨by omega, gp31, gp39⟩) | exact ps_s (L4.2.1 (by omega) (by omega)) (by omega) (by omega) gp22 (by omega) (by first | exact Or.inl ⟨by omega, gp31, gp46⟩ | exact Or.inr ⟨by omega, gp31, gp39⟩)) (by omega) (by omega)) (by omega) (And.intro rfl (And.intro rfl (And.intro rfl (True.intro))))
              · rw [show z49 = 1 by omega] at gp31
                refine y_aload_n rfl rfl ?_
                refine y_iconst rfl ?_
                have w59 : Xi T7 876 7 = Xi T1 876 7 := (show Xi T7 876 7 = Xi T6 876 7 from w50.x _ _ rfl).trans ((show Xi T6 876 7 = Xi T1 876 7 from w42.x _ _ rfl))
                refine y_callV rfl rfl rfl (t_gr_takeTest__p hHT7 1 ⟨by omega, by omega⟩ (by first | assumption | exact (NFR_FR hFT7 rfl rfl (by assumption : NFR S))) (by first | assumption | omega) (by first | assumption | omega) _) ?_
                rintro _ T9 ⟨hHT9, w63, z62, rfl, w62, w60, w61⟩
                have hFT9 : FR md_gr_takePhrases__p S T9 := FR.tr hFT7 w63 rfl
                show Pl _ _ _ _ _ _ [iv z62] _ _
                have gp39 := w60
                rw [FRT hFT7 rfl rfl] at gp39
                clear w60
                refine y_goto rfl rfl ?_
                refine y_istore_n rfl rfl rfl ?_
                refine y_iinc rfl rfl rfl rfl ?_
                refine y_goto rfl rfl ?_
                have w64 : Xi T9 876 7 = Xi T1 876 7 := (show Xi T9 876 7 = Xi T7 876 7 from w63.x _ _ rfl).trans ( (show Xi T7 876 7 = Xi T6 876 7 from w50.x _ _ rfl).trans ((show Xi T6 876 7 = Xi T1 876 7 from w42.x _ _ rfl)))
                exact Pl_weak (ih4 (by omega) T9 hHT9 hFT9 (z62) ((v2 + 1)) (by omega) (by omega) (by first | exact ⟨fun _ => ⟨rfl, rfl⟩, fun q => absurd q (by omega), fun q => absurd q (by omega)⟩ | exact ps_0 L4.1 (by omega) (by first | exact Or.inl ⟨by omega, gp31, gp46⟩ | exact Or.inr ⟨by omega, gp31, gp39⟩) | exact ps_s (L4.2.1 (by omega) (by omega)) (by omega) (by omega) gp22 (by omega) (by first | exact Or.inl ⟨by omega, gp31, gp46⟩ | exact Or.inr ⟨by omega, gp31, gp39⟩)) (by omega) (by omega)) (by omega) (And.intro rfl (And.intro rfl (And.intro rfl (True.intro))))
  refine y_iconst rfl ?_
  refine y_istore_n rfl rfl rfl ?_
  refine y_iconst rfl ?_
  refine y_istore_n rfl rfl rfl ?_
  exact Pl_weak (C4 fu (by omega) S hH hF (1) (0) (by omega) (by omega) (by first | exact ⟨fun _ => ⟨rfl, rfl⟩, fun q => absurd q (by omega), fun q => absurd q (by omega)⟩ | exact ps_0 L4.1 (by omega) (by first | exact Or.inl ⟨by omega, gp31, gp46⟩ | exact Or.inr ⟨by omega, gp31, gp39⟩) | exact ps_s (L4.2.1 (by omega) (by omega)) (by omega) (by omega) gp22 (by omega) (by first | exact Or.inl ⟨by omega, gp31, gp46⟩ | exact Or.inr ⟨by omega, gp31, gp39⟩)) (by omega) (by omega)) (by omega) (And.intro rfl (And.intro rfl (And.intro rfl (True.intro))))
def md_gr_checkRuns__p : List rec := [(890, 891, 1, 2), (890, 891, 2, 3)]
abbrev Q_gr_checkRuns__p (S : sS) (alone : Int) : pst := fun r S1 => RI S1 ∧ FR md_gr_checkRuns__p S S1 ∧ (∃ z : Int, r = some (iv z) ∧ (0 ≤ z ∧ z ≤ 1) ∧ (ckR (ty7 S) alone (Xi S 890 1) = (z, Xi S1 890 1)) ∧ (Xi S 890 1 ≤ Xi S1 890 1 ∧ Xi S1 890 1 ≤ Xi S 876 7) ∧ (z = 1 → Xi S1 890 2 = crs (ty7 S) alone (Xi S 890 1)))
set_option maxRecDepth 100000 in
theorem c97_gr_checkRuns__p {S : sS} (hH : RI S) (alone : Int) (halone : 0 ≤ alone ∧ alone ≤ 1) (hfr : NFR S) (hr : Xi S 876 7 ≤ 5130) (ha : 0 ≤ Xi S 890 1 ∧ Xi S 890 1 ≤ Xi S 876 7) (d : Nat) (fu : Nat) : ∀  (T1 : sS) (_ : RI T1) (_ : FR md_gr_checkRuns__p S T1), (ckR (ty7 S) alone (Xi S 890 1) = gT (ty7 S) 103 (Xi T1 890 1)) → (Xi S 890 1 ≤ Xi T1 890 1 ∧ Xi T1 890 1 ≤ Xi S 876 7) → (Xi T1 890 2 = crs (ty7 S) alone (Xi S 890 1)) → Pl fu lay0 (d + 3) m_gr_checkRuns 97 [(0, .ref 890)] [] T1 (Q_gr_checkRuns__p S alone) := by
  have hF : FR md_gr_checkRuns__p S S := FR.rf
  have w1 : -2147483648 ≤ Xi S 876 7 ∧ Xi S 876 7 ≤ 2147483647 := Xi_rgI
  have w2 : -2147483648 ≤ Xi S 890 1 ∧ Xi S 890 1 ≤ 2147483647 := Xi_rgI
  have w3 : -2147483648 ≤ Xi S 890 2 ∧ Xi S 890 2 ≤ 2147483647 := Xi_rgI
  intro T1 hHT1 hFT1 K97 w4 s97
  have w5 : Xi T1 876 7 = Xi S 876 7 := hFT1.x _ _ rfl
  have w6 : -2147483648 ≤ Xi T1 876 7 ∧ Xi T1 876 7 ≤ 2147483647 := Xi_rgI
  have w7 : -2147483648 ≤ Xi T1 890 1 ∧ Xi T1 890 1 ≤ 2147483647 := Xi_rgI
  have w8 : -2147483648 ≤ Xi T1 890 2 ∧ Xi T1 890 2 ≤ 2147483647 := Xi_rgI
  refine y_aload_n rfl rfl ?_
  refine y_bipush rfl rfl ?_
  refine y_callV rfl rfl rfl (t_gr_take__p hHT1 103 ⟨by omega, by omega⟩ (by first | assumption | exact (NFR_FR hFT1 rfl rfl (by assumption : NFR S))) (by first | assumption | omega) (by first | assumption | omega) _) ?_
  rintro _ T2 ⟨hHT2, w12, z11, rfl, w11, w9, w10⟩
  have hFT2 : FR md_gr_checkRuns__p S T2 := FR.tr hFT1 w12 rfl
  show Pl _ _ _ _ _ _ [iv z11] _ _
  have gp100 := w9
  rw [FRT hFT1 rfl rfl] at gp100
  clear w9
  refine y_ireturn rfl (retI_z (by omega)) ?_
  have w13 : Xi T2 876 7 = Xi T1 876 7 := (show Xi T2 876 7 = Xi T1 876 7 from w12.x _ _ rfl)
  have w14 : Xi T2 890 2 = Xi T1 890 2 := (show Xi T2 890 2 = Xi T1 890 2 from w12.x _ _ rfl)
  exact ⟨hHT2, hFT2, _, rfl, ⟨by omega, by omega⟩, (by first | (have t := gp100; exact K97.trans gp100) | (have t := gp83; exact (rs_s (K58.2 (by omega)) (by omega) gp70 gp83).2 (by first | rfl | omega)) | (have t := gp35; rw [ckR_c gp7 (by omega) gp22, gp35]; first | (have t := gp44; rw [gS_1]; first | exact gp44 | (refine gp44.trans ?_; exact pe (by omega) (by omega))) | rw [gS_0]) | exact ckR_0 gp7), (by omega), (by first | (have t := gp100; exact (fun _ => (by rw [show Xi T2 890 2 = Xi T1 890 2 by omega]; exact s97))) | (have t := gp83; exact (fun q => absurd q (by omega))) | (have t := gp44; exact (fun _ => crs_i (Or.inr (Or.inl ⟨by omega, t22.o.1 (by omega), by omega⟩)))) | exact (fun q => absurd q (by omega)))⟩
set_option maxRecDepth 100000 in
theorem c58_gr_checkRuns__p {S : sS} (hH : RI S) (alone : Int) (halone : 0 ≤ alone ∧ alone ≤ 1) (hfr : NFR S) (hr : Xi S 876 7 ≤ 5130) (ha : 0 ≤ Xi S 890 1 ∧ Xi S 890 1 ≤ Xi S 876 7) (d : Nat) (fu : Nat) : ∀ (n58 : Nat) (_ : n58 ≤ fu) (T3 : sS) (_ : RI T3) (_ : FR md_gr_checkRuns__p S T3) (v2 : Int), (-2147483648 ≤ v2 ∧ v2 ≤ 2147483647) → ((alone ≠ 0 → ckR (ty7 S) alone (Xi S 890 1) = gT (ty7 S) 103 (Xi T3 890 1)) ∧ (alone = 0 → ckR (ty7 S) alone (Xi S 890 1) = gSq (gRn (ty7 S) (5000 - v2).toNat (Xi T3 890 1)) (gT (ty7 S) 103))) → (0 ≤ v2 ∧ v2 ≤ 5000) → (Xi S 890 1 ≤ Xi T3 890 1 ∧ Xi T3 890 1 ≤ Xi S 876 7) → (Hid ((v2 = 0 → Xi T3 890 2 = 15 ∧ (alone = 0 → Xi T3 890 1 = re7 (ty7 S) (Xi S 890 1) ∧ ty7 S (re7 (ty7 S) (Xi S 890 1)) ≠ 7)) ∧ (0 < v2 → alone = 0 ∧ Xi T3 890 2 = 16 ∧ (ty7 S (re7 (ty7 S) (Xi S 890 1)) = 16 ∨ ty7 S (re7 (ty7 S) (Xi S 890 1)) = 104) ∧ ty7 S (re7 (ty7 S) (Xi S 890 1)) ≠ 7))) → Pl n58 lay0 (d + 3) m_gr_checkRuns 58 [(0, .ref 890), (1, iv alone), (2, iv v2)] [] T3 (Q_gr_checkRuns__p S alone) := by
  have C97 := c97_gr_checkRuns__p hH alone halone hfr hr ha d  fu
  have hF : FR md_gr_checkRuns__p S S := FR.rf
  have w1 : -2147483648 ≤ Xi S 876 7 ∧ Xi S 876 7 ≤ 2147483647 := Xi_rgI
  have w2 : -2147483648 ≤ Xi S 890 1 ∧ Xi S 890 1 ≤ 2147483647 := Xi_rgI
  have w3 : -2147483648 ≤ Xi S 890 2 ∧ Xi S 890 2 ≤ 2147483647 := Xi_rgI
  intro n58
  induction n58 with
  | zero => intros; exact Pl_0
  | succ n58 ih58 =>
    intro hm58 T3 hHT3 hFT3 v2 w15 K58 w16 w17 s58
    have w18 : Xi T3 876 7 = Xi S 876 7 := hFT3.x _ _ rfl
    have w19 : -2147483648 ≤ Xi T3 876 7 ∧ Xi T3 876 7 ≤ 2147483647 := Xi_rgI
    have w20 : -2147483648 ≤ Xi T3 890 1 ∧ Xi T3 890 1 ≤ 2147483647 := Xi_rgI
    have w21 : -2147483648 ≤ Xi T3 890 2 ∧ Xi T3 890 2 ≤ 2147483647 := Xi_rgI
    refine ys_iload_n rfl rfl ?_
    refine y_sipush rfl rfl ?_
    refine y_icmp_ge rfl rfl (by unfold rg; omega) (by unfold rg; omega) (fun w22 => ?_) (fun w23 => ?_)
    · exact Pl_weak (C97 T3 hHT3 hFT3  (by first | (have t := gp70; exact rs_n (K58.2 (by omega)) (by omega) gp70) | exact rs_x K58 (by omega) | exact K58.1 (by omega)) (by omega) (by first | (have t := gp70; exact crs_i ((by omega : v2 = 0 ∨ 0 < v2).elim (fun q => by have y := t70.o.2 (by omega); have u := s58.o.1 q; have w := u.2 (by omega); rw [w.1] at y; exact Or.inr (Or.inr (Or.inr ⟨by omega, w.2, y.1, y.2, by omega⟩))) (fun q => by have u := s58.o.2 q; exact Or.inr (Or.inr (Or.inl ⟨u.1, u.2.2.2, u.2.2.1, by omega⟩))))) | exact (by omega : v2 = 0 ∨ 0 < v2).elim (fun q => by have u := s58.o.1 q; exact crs_i (Or.inl ⟨by omega, u.1⟩)) (fun q => by have u := s58.o.2 q; exact crs_i (Or.inr (Or.inr (Or.inl ⟨u.1, u.2.2.2, u.2.2.1, u.2.1⟩)))))) (by omega) (And.intro rfl (True.intro))
    · refine y_iload_n rfl rfl ?_
      refine y_if_ne rfl rfl (by unfold rg; omega) (fun w24 => ?_) (fun w25 => ?_)
      · exact Pl_weak (C97 T3 hHT3 hFT3  (by first | (have t := gp70; exact rs_n (K58.2 (by omega)) (by omega) gp70) | exact rs_x K58 (by omega) | exact K58.1 (by omega)) (by omega) (by first | (have t := gp70; exact crs_i ((by omega : v2 = 0 ∨ 0 < v2).elim (fun q => by have y := t70.o.2 (by omega); have u := s58.o.1 q; have w := u.2 (by omega); rw [w.1] at y; exact Or.inr (Or.inr (Or.inr ⟨by omega, w.2, y.1, y.2, by omega⟩))) (fun q => by have u := s58.o.2 q; exact Or.inr (Or.inr (Or.inl ⟨u.1, u.2.2.2, u.2.2.1, by omega⟩))))) | exact (by omega : v2 = 0 ∨ 0 < v2).elim (fun q => by have u := s58.o.1 q; exact crs_i (Or.inl ⟨by omega, u.1⟩)) (fun q => by have u := s58.o.2 q; exact crs_i (Or.inr (Or.inr (Or.inl ⟨u.1, u.2.2.2, u.2.2.1, u.2.1⟩)))))) (by omega) (And.intro rfl (True.intro))
      · refine y_aload_n rfl rfl ?_
        refine y_callV rfl rfl rfl (t_gr_takeBetween__p hHT3 (by first | assumption | exact (NFR_FR hFT3 rfl rfl (by assumption : NFR S))) (by first | assumption | omega) (by first | assumption | omega) _) ?_
        rintro _ T4 ⟨hHT4, w29, z28, rfl, w28, w26, w27⟩
        have hFT4 : FR md_gr_checkRuns__p S T4 := FR.tr hFT3 w29 rfl
        show Pl _ _ _ _ _ _ [iv z28] _ _
        have gp70 := w26
        rw [FRT hFT3 rfl rfl] at gp70
        clear w26
        have t70 : Hid ((z28 = 1 → ty7 S (Xi T3 890 1) = 16 ∨ ty7 S (Xi T3 890 1) = 104) ∧ (z28 = 0 → ty7 S (Xi T3 890 1) ≠ 16 ∧ ty7 S (Xi T3 890 1) ≠ 104)) := gBt_i gp70
        refine y_if_eq rfl rfl (by unfold rg; omega) (fun w30 => ?_) (fun w31 => ?_)
        · rw [show z28 = 0 by omega] at gp70
          have w32 : Xi T4 876 7 = Xi T3 876 7 := (show Xi T4 876 7 = Xi T3 876 7 from w29.x _ _ rfl)
          have w33 : Xi T4 890 2 = Xi T3 890 2 := (show Xi T4 890 2 = Xi T3 890 2 from w29.x _ _ rfl)
          exact Pl_weak (C97 T4 hHT4 hFT4  (by first | (have t := gp70; exact rs_n (K58.2 (by omega)) (by omega) gp70) | exact rs_x K58 (by omega) | exact K58.1 (by omega)) (by omega) (by first | (have t := gp70; exact crs_i ((by omega : v2 = 0 ∨ 0 < v2).elim (fun q => by have y := t70.o.2 (by omega); have u := s58.o.1 q; have w := u.2 (by omega); rw [w.1] at y; exact Or.inr (Or.inr (Or.inr ⟨by omega, w.2, y.1, y.2, by omega⟩))) (fun q => by have u := s58.o.2 q; exact Or.inr (Or.inr (Or.inl ⟨u.1, u.2.2.2, u.2.2.1, by omega⟩))))) | exact (by omega : v2 = 0 ∨ 0 < v2).elim (fun q => by have u := s58.o.1 q; exact crs_i (Or.inl ⟨by omega, u.1⟩)) (fun q => by have u := s58.o.2 q; exact crs_i (Or.inr (Or.inr (Or.inl ⟨u.1, u.2.2.2, u.2.2.1, u.2.1⟩)))))) (by omega) (And.intro rfl (True.intro))
        · rw [show z28 = 1 by omega] at gp70
          refine y_aload_n rfl rfl ?_
          refine y_bipush rfl rfl ?_
          refine y_pfi rfl rfl rfl rfl ?_
          obtain ⟨U5, eU5⟩ : ∃ T : sS, T = uI T4 890 2 (Int32.ofInt 16) := ⟨_, rfl⟩
          rw [← eU5]
          have hHU5 : RI U5 := by rw [eU5]; exact RI_w hHT4
          have hFU5 : FR md_gr_checkRuns__p S U5 := by rw [eU5]; exact FR.wI hFT4 (mdf_i (r := (890, 891, 2, 3)) (List.mem_of_getElem? (i := 1) rfl) (inR_i (by omega) (by omega) (by omega) (by omega)))
          have w34 : Xi U5 890 2 = 16 := by rw [eU5]; exact Xi_same (by unfold rg; omega)
          refine y_aload_n rfl rfl ?_
          have w35 : Xi U5 876 7 = Xi T3 876 7 := (show Xi U5 876 7 = Xi T4 876 7 from by rw [eU5]; exact Xi_ne (by omega)).trans ((show Xi T4 876 7 = Xi T3 876 7 from w29.x _ _ rfl))
          have w36 : Xi U5 890 1 = Xi T4 890 1 := (show Xi U5 890 1 = Xi T4 890 1 from by rw [eU5]; exact Xi_ne (by omega))
          refine y_callV rfl rfl rfl (t_gr_takeRun__p hHU5 (by first | assumption | exact (NFR_FR hFU5 rfl rfl (by assumption : NFR S))) (by first | assumption | omega) (by first | assumption | omega) _) ?_
          rintro _ T6 ⟨hHT6, w40, z39, rfl, w39, w37, w38⟩
          have hFT6 : FR md_gr_checkRuns__p S T6 := FR.tr hFU5 w40 rfl
          show Pl _ _ _ _ _ _ [iv z39] _ _
          have gp83 := w37
          rw [FRT hFU5 rfl rfl] at gp83
          try rw [show Xi U5 890 1 = Xi T4 890 1 by omega] at gp83
          clear w37
          refine y_if_ne rfl rfl (by unfold rg; omega) (fun w41 => ?_) (fun w42 => ?_)
          · rw [show z39 = 1 by omega] at gp83
            refine y_iinc rfl rfl rfl rfl ?_
            refine y_goto rfl rfl ?_
            have w43 : Xi T6 876 7 = Xi T3 876 7 := (show Xi T6 876 7 = Xi U5 876 7 from w40.x _ _ rfl).trans ( (show Xi U5 876 7 = Xi T4 876 7 from by rw [eU5]; exact Xi_ne (by omega)).trans ((show Xi T4 876 7 = Xi T3 876 7 from w29.x _ _ rfl)))
            have w44 : Xi T6 890 2 = Xi U5 890 2 := (show Xi T6 890 2 = Xi U5 890 2 from w40.x _ _ rfl)
            exact Pl_weak (ih58 (by omega) T6 hHT6 hFT6 ((v2 + 1)) (by omega) (by first | exact K56 | exact ⟨fun q => absurd q (by omega), fun q => (rs_s (K58.2 q) (by omega) gp70 gp83).1 (by first | rfl | omega)⟩) (by omega) (by omega) (by first | (have t := gp83; exact ⟨fun q => absurd q (by omega), fun _ => (by omega : v2 = 0 ∨ 0 < v2).elim (fun q => by have u := s58.o.1 q; have w := u.2 (by omega); have y := t70.o.1 (by omega); rw [w.1] at y; exact ⟨by omega, by omega, y, w.2⟩) (fun q => by have u := s58.o.2 q; exact ⟨u.1, by omega, u.2.2⟩)⟩) | exact ⟨fun _ => ⟨by omega, e56.o⟩, fun q => absurd q (by omega)⟩)) (by omega) (And.intro rfl (And.intro rfl (And.intro rfl (True.intro))))
          · rw [show z39 = 0 by omega] at gp83
            refine y_iconst rfl ?_
            refine y_ireturn rfl rfl ?_
            have w45 : Xi T6 876 7 = Xi T3 876 7 := (show Xi T6 876 7 = Xi U5 876 7 from w40.x _ _ rfl).trans ( (show Xi U5 876 7 = Xi T4 876 7 from by rw [eU5]; exact Xi_ne (by omega)).trans ((show Xi T4 876 7 = Xi T3 876 7 from w29.x _ _ rfl)))
            have w46 : Xi T6 890 2 = Xi U5 890 2 := (show Xi T6 890 2 = Xi U5 890 2 from w40.x _ _ rfl)
            exact ⟨hHT6, hFT6, _, rfl, ⟨by omega, by omega⟩, (by first | (have t := gp100; exact K97.trans gp100) | (have t := gp83; exact (rs_s (K58.2 (by omega)) (by omega) gp70 gp83).2 (by first | rfl | omega)) | (have t := gp35; rw [ckR_c gp7 (by omega) gp22, gp35]; first | (have t := gp44; rw [gS_1]; first | exact gp44 | (refine gp44.trans ?_; exact pe (by omega) (by omega))) | rw [gS_0]) | exact ckR_0 gp7), (by omega), (by first | (have t := gp100; exact (fun _ => (by rw [show Xi T6 890 2 = Xi T3 890 2 by omega]; exact s97))) | (have t := gp83; exact (fun q => absurd q (by omega))) | (have t := gp44; exact (fun _ => crs_i (Or.inr (Or.inl ⟨by omega, t22.o.1 (by omega), by omega⟩)))) | exact (fun q => absurd q (by omega)))⟩
set_option maxRecDepth 100000 in
theorem c56_gr_checkRuns__p {S : sS} (hH : RI S) (alone : Int) (halone : 0 ≤ alone ∧ alone ≤ 1) (hfr : NFR S) (hr : Xi S 876 7 ≤ 5130) (ha : 0 ≤ Xi S 890 1 ∧ Xi S 890 1 ≤ Xi S 876 7) (d : Nat) (fu : Nat) : ∀  (T7 : sS) (_ : RI T7) (_ : FR md_gr_checkRuns__p S T7), ((alone ≠ 0 → ckR (ty7 S) alone (Xi S 890 1) = gT (ty7 S) 103 (Xi T7 890 1)) ∧ (alone = 0 → ckR (ty7 S) alone (Xi S 890 1) = gSq (gRn (ty7 S) 5000 (Xi T7 890 1)) (gT (ty7 S) 103))) → (Xi S 890 1 ≤ Xi T7 890 1 ∧ Xi T7 890 1 ≤ Xi S 876 7) → (Xi T7 890 2 = 15) → (Hid (alone = 0 → Xi T7 890 1 = re7 (ty7 S) (Xi S 890 1) ∧ ty7 S (re7 (ty7 S) (Xi S 890 1)) ≠ 7)) → Pl fu lay0 (d + 3) m_gr_checkRuns 56 [(0, .ref 890), (1, iv alone)] [] T7 (Q_gr_checkRuns__p S alone) := by
  have C58 := c58_gr_checkRuns__p hH alone halone hfr hr ha d  fu
  have hF : FR md_gr_checkRuns__p S S := FR.rf
  have w1 : -2147483648 ≤ Xi S 876 7 ∧ Xi S 876 7 ≤ 2147483647 := Xi_rgI
  have w2 : -2147483648 ≤ Xi S 890 1 ∧ Xi S 890 1 ≤ 2147483647 := Xi_rgI
  have w3 : -2147483648 ≤ Xi S 890 2 ∧ Xi S 890 2 ≤ 2147483647 := Xi_rgI
  intro T7 hHT7 hFT7 K56 w47 w48 e56
  have w49 : Xi T7 876 7 = Xi S 876 7 := hFT7.x _ _ rfl
  have w50 : -2147483648 ≤ Xi T7 876 7 ∧ Xi T7 876 7 ≤ 2147483647 := Xi_rgI
  have w51 : -2147483648 ≤ Xi T7 890 1 ∧ Xi T7 890 1 ≤ 2147483647 := Xi_rgI
  have w52 : -2147483648 ≤ Xi T7 890 2 ∧ Xi T7 890 2 ≤ 2147483647 := Xi_rgI
  refine y_iconst rfl ?_
  refine y_istore_n rfl rfl rfl ?_
  exact Pl_weak (C58 fu (by omega) T7 hHT7 hFT7 (0) (by omega) (by first | exact K56 | exact ⟨fun q => absurd q (by omega), fun q => (rs_s (K58.2 q) (by omega) gp70 gp83).1 (by first | rfl | omega)⟩) (by omega) (by omega) (by first | (have t := gp83; exact ⟨fun q => absurd q (by omega), fun _ => (by omega : v2 = 0 ∨ 0 < v2).elim (fun q => by have u := s58.o.1 q; have w := u.2 (by omega); have y := t70.o.1 (by omega); rw [w.1] at y; exact ⟨by omega, by omega, y, w.2⟩) (fun q => by have u := s58.o.2 q; exact ⟨u.1, by omega, u.2.2⟩)⟩) | exact ⟨fun _ => ⟨by omega, e56.o⟩, fun q => absurd q (by omega)⟩)) (by omega) (And.intro rfl (And.intro rfl (And.intro rfl (True.intro))))
set_option maxRecDepth 100000 in
theorem t_gr_checkRuns__p {S : sS} (hH : RI S) (alone : Int) (halone : 0 ≤ alone ∧ alone ≤ 1) (hfr : NFR S) (hr : Xi S 876 7 ≤ 5130) (ha : 0 ≤ Xi S 890 1 ∧ Xi S 890 1 ≤ Xi S 876 7) (d : Nat) : Mp lay0 (d + 4) m_gr_checkRuns [.ref 890, iv alone] S (Q_gr_checkRuns__p S alone) := by
  refine Mp_R rfl rfl (fun fu => ?_)
  have C97 := c97_gr_checkRuns__p hH alone halone hfr hr ha d  fu
  have C58 := c58_gr_checkRuns__p hH alone halone hfr hr ha d  fu
  have C56 := c56_gr_checkRuns__p hH alone halone hfr hr ha d  fu
  have hF : FR md_gr_checkRuns__p S S := FR.rf
  have w1 : -2147483648 ≤ Xi S 876 7 ∧ Xi S 876 7 ≤ 2147483647 := Xi_rgI
  have w2 : -2147483648 ≤ Xi S 890 1 ∧ Xi S 890 1 ≤ 2147483647 := Xi_rgI
  have w3 : -2147483648 ≤ Xi S 890 2 ∧ Xi S 890 2 ≤ 2147483647 := Xi_rgI
  refine y_aload_n rfl rfl ?_
  refine y_bipush rfl rfl ?_
  refine y_pfi rfl rfl rfl rfl ?_
  obtain ⟨U8, eU8⟩ : ∃ T : sS, T = uI S 890 2 (Int32.ofInt 15) := ⟨_, rfl⟩
  rw [← eU8]
  have hHU8 : RI U8 := by rw [eU8]; exact RI_w hH
  have hFU8 : FR md_gr_checkRuns__p S U8 := by rw [eU8]; exact FR.wI hF (mdf_i (r := (890, 891, 2, 3)) (List.mem_of_getElem? (i := 1) rfl) (inR_i (by omega) (by omega) (by omega) (by omega)))
  have w53 : Xi U8 890 2 = 15 := by rw [eU8]; exact Xi_same (by unfold rg; omega)
  refine y_aload_n rfl rfl ?_
  have w54 : Xi U8 876 7 = Xi S 876 7 := (show Xi U8 876 7 = Xi S 876 7 from by rw [eU8]; exact Xi_ne (by omega))
  have w55 : Xi U8 890 1 = Xi S 890 1 := (show Xi U8 890 1 = Xi S 890 1 from by rw [eU8]; exact Xi_ne (by omega))
  refine y_callV rfl rfl rfl (t_gr_takeRun__p hHU8 (by first | assumption | exact (NFR_FR hFU8 rfl rfl (by assumption : NFR S))) (by first | assumption | omega) (by first | assumption | omega) _) ?_
  rintro _ T9 ⟨hHT9, w59, z58, rfl, w58, w56, w57⟩
  have hFT9 : FR md_gr_checkRuns__p S T9 := FR.tr hFU8 w59 rfl
  show Pl _ _ _ _ _ _ [iv z58] _ _
  have gp7 := w56
  rw [FRT hFU8 rfl rfl] at gp7
  try rw [show Xi U8 890 1 = Xi S 890 1 by omega] at gp7
  clear w56
  have e7 : Xi T9 890 1 = re7 (ty7 S) (Xi S 890 1) := (congrArg Prod.snd gp7).symm
  refine y_if_ne rfl rfl (by unfold rg; omega) (fun w60 => ?_) (fun w61 => ?_)
  · rw [show z58 = 1 by omega] at gp7
    refine y_iload_n rfl rfl ?_
    refine y_if_ne rfl rfl (by unfold rg; omega) (fun w62 => ?_) (fun w63 => ?_)
    · have w64 : Xi T9 876 7 = Xi S 876 7 := (show Xi T9 876 7 = Xi U8 876 7 from w59.x _ _ rfl).trans ((show Xi U8 876 7 = Xi S 876 7 from by rw [eU8]; exact Xi_ne (by omega)))
      have w65 : Xi T9 890 2 = Xi U8 890 2 := (show Xi T9 890 2 = Xi U8 890 2 from w59.x _ _ rfl)
      exact Pl_weak (C56 T9 hHT9 hFT9  (by first | (have t := gp22; exact ⟨fun q => absurd q (by omega), fun q => ckR_b gp7 q gp22⟩) | exact ⟨fun q => ckR_a gp7 q, fun q => absurd q (by omega)⟩) (by omega) (by omega) (by first | (have t := gp22; exact (fun _ => by have u := t22.o.2 (by omega); exact ⟨by omega, u.1⟩)) | exact (fun q => absurd q (by omega)))) (by omega) (And.intro rfl (And.intro rfl (True.intro)))
    · refine y_aload_n rfl rfl ?_
      refine y_bipush rfl rfl ?_
      have w66 : Xi T9 876 7 = Xi S 876 7 := (show Xi T9 876 7 = Xi U8 876 7 from w59.x _ _ rfl).trans ((show Xi U8 876 7 = Xi S 876 7 from by rw [eU8]; exact Xi_ne (by omega)))
      refine y_callV rfl rfl rfl (t_gr_take__p hHT9 7 ⟨by omega, by omega⟩ (by first | assumption | exact (NFR_FR hFT9 rfl rfl (by assumption : NFR S))) (by first | assumption | omega) (by first | assumption | omega) _) ?_
      rintro _ T10 ⟨hHT10, w71, z70, rfl, w70, w68, w69⟩
      have hFT10 : FR md_gr_checkRuns__p S T10 := FR.tr hFT9 w71 rfl
      show Pl _ _ _ _ _ _ [iv z70] _ _
      have gp22 := w68
      rw [FRT hFT9 rfl rfl] at gp22
      clear w68
      have t22 : Hid ((z70 = 1 → ty7 S (re7 (ty7 S) (Xi S 890 1)) = 7) ∧ (z70 = 0 → ty7 S (re7 (ty7 S) (Xi S 890 1)) ≠ 7 ∧ Xi T10 890 1 = Xi T9 890 1)) := by have t := gT_i gp22; rw [e7] at t; exact ⟨fun q => (t.1 q).1, fun q => ⟨(t.2 q).1, by rw [e7]; exact (t.2 q).2⟩⟩
      refine y_if_eq rfl rfl (by unfold rg; omega) (fun w72 => ?_) (fun w73 => ?_)
      · rw [show z70 = 0 by omega] at gp22
        have w74 : Xi T10 876 7 = Xi S 876 7 := (show Xi T10 876 7 = Xi T9 876 7 from w71.x _ _ rfl).trans ( (show Xi T9 876 7 = Xi U8 876 7 from w59.x _ _ rfl).trans ((show Xi U8 876 7 = Xi S 876 7 from by rw [eU8]; exact Xi_ne (by omega))))
        have w75 : Xi T10 890 2 = Xi U8 890 2 := (show Xi T10 890 2 = Xi T9 890 2 from w71.x _ _ rfl).trans ((show Xi T9 890 2 = Xi U8 890 2 from w59.x _ _ rfl))
        exact Pl_weak (C56 T10 hHT10 hFT10  (by first | (have t := gp22; exact ⟨fun q => absurd q (by omega), fun q => ckR_b gp7 q gp22⟩) | exact ⟨fun q => ckR_a gp7 q, fun q => absurd q (by omega)⟩) (by omega) (by omega) (by first | (have t := gp22; exact (fun _ => by have u := t22.o.2 (by omega); exact ⟨by omega, u.1⟩)) | exact (fun q => absurd q (by omega)))) (by omega) (And.intro rfl (And.intro rfl (True.intro)))
      · rw [show z70 = 1 by omega] at gp22
        refine y_aload_n rfl rfl ?_
        refine y_bipush rfl rfl ?_
        refine y_pfi rfl rfl rfl rfl ?_
        obtain ⟨U11, eU11⟩ : ∃ T : sS, T = uI T10 890 2 (Int32.ofInt 14) := ⟨_, rfl⟩
        rw [← eU11]
        have hHU11 : RI U11 := by rw [eU11]; exact RI_w hHT10
        have hFU11 : FR md_gr_checkRuns__p S U11 := by rw [eU11]; exact FR.wI hFT10 (mdf_i (r := (890, 891, 2, 3)) (List.mem_of_getElem? (i := 1) rfl) (inR_i (by omega) (by omega) (by omega) (by omega)))
        have w76 : Xi U11 890 2 = 14 := by rw [eU11]; exact Xi_same (by unfold rg; omega)
        refine y_aload_n rfl rfl ?_
        have w77 : Xi U11 876 7 = Xi S 876 7 := (show Xi U11 876 7 = Xi T10 876 7 from by rw [eU11]; exact Xi_ne (by omega)).trans ( (show Xi T10 876 7 = Xi T9 876 7 from w71.x _ _ rfl).trans ( (show Xi T9 876 7 = Xi U8 876 7 from w59.x _ _ rfl).trans ((show Xi U8 876 7 = Xi S 876 7 from by rw [eU8]; exact Xi_ne (by omega)))))
        have w78 : Xi U11 890 1 = Xi T10 890 1 := (show Xi U11 890 1 = Xi T10 890 1 from by rw [eU11]; exact Xi_ne (by omega))
        refine y_callV rfl rfl rfl (t_gr_takeName__p hHU11 (by first | assumption | exact (NFR_FR hFU11 rfl rfl (by assumption : NFR S))) (by first | assumption | omega) (by first | assumption | omega) _) ?_
        rintro _ T12 ⟨hHT12, w82, z81, rfl, w81, w79, w80⟩
        have hFT12 : FR md_gr_checkRuns__p S T12 := FR.tr hFU11 w82 rfl
        show Pl _ _ _ _ _ _ [iv z81] _ _
        have gp35 := w79
        rw [FRT hFU11 rfl rfl] at gp35
        try rw [show Xi U11 890 1 = Xi T10 890 1 by omega] at gp35
        clear w79
        refine y_if_eq rfl rfl (by unfold rg; omega) (fun w83 => ?_) (fun w84 => ?_)
        · rw [show z81 = 0 by omega] at gp35
          refine y_iconst rfl ?_
          refine y_ireturn rfl rfl ?_
          have w85 : Xi T12 876 7 = Xi S 876 7 := (show Xi T12 876 7 = Xi U11 876 7 from w82.x _ _ rfl).trans ( (show Xi U11 876 7 = Xi T10 876 7 from by rw [eU11]; exact Xi_ne (by omega)).trans ( (show Xi T10 876 7 = Xi T9 876 7 from w71.x _ _ rfl).trans ( (show Xi T9 876 7 = Xi U8 876 7 from w59.x _ _ rfl).trans ((show Xi U8 876 7 = Xi S 876 7 from by rw [eU8]; exact Xi_ne (by omega))))))
          have w86 : Xi T12 890 2 = Xi U11 890 2 := (show Xi T12 890 2 = Xi U11 890 2 from w82.x _ _ rfl)
          exact ⟨hHT12, hFT12, _, rfl, ⟨by omega, by omega⟩, (by first | (have t := gp100; exact K97.trans gp100) | (have t := gp83; exact (rs_s (K58.2 (by omega)) (by omega) gp70 gp83).2 (by first | rfl | omega)) | (have t := gp35; rw [ckR_c gp7 (by omega) gp22, gp35]; first | (have t := gp44; rw [gS_1]; first | exact gp44 | (refine gp44.trans ?_; exact pe (by omega) (by omega))) | rw [gS_0]) | exact ckR_0 gp7), (by omega), (by first | (have t := gp100; exact (fun _ => (by rw [show Xi T12 890 2 = Xi S 890 2 by omega]; exact s97))) | (have t := gp83; exact (fun q => absurd q (by omega))) | (have t := gp44; exact (fun _ => crs_i (Or.inr (Or.inl ⟨by omega, t22.o.1 (by omega), by omega⟩)))) | exact (fun q => absurd q (by omega)))⟩
        · rw [show z81 = 1 by omega] at gp35
          refine y_aload_n rfl rfl ?_
          refine y_bipush rfl rfl ?_
          have w87 : Xi T12 876 7 = Xi S 876 7 := (show Xi T12 876 7 = Xi U11 876 7 from w82.x _ _ rfl).trans ( (show Xi U11 876 7 = Xi T10 876 7 from by rw [eU11]; exact Xi_ne (by omega)).trans ( (show Xi T10 876 7 = Xi T9 876 7 from w71.x _ _ rfl).trans ( (show Xi T9 876 7 = Xi U8 876 7 from w59.x _ _ rfl).trans ((show Xi U8 876 7 = Xi S 876 7 from by rw [eU8]; exact Xi_ne (by omega))))))
          refine y_callV rfl rfl rfl (t_gr_take__p hHT12 103 ⟨by omega, by omega⟩ (by first | assumption | exact (NFR_FR hFT12 rfl rfl (by assumption : NFR S))) (by first | assumption | omega) (by first | assumption | omega) _) ?_
          rintro _ T13 ⟨hHT13, w92, z91, rfl, w91, w89, w90⟩
          have hFT13 : FR md_gr_checkRuns__p S T13 := FR.tr hFT12 w92 rfl
          show Pl _ _ _ _ _ _ [iv z91] _ _
          have gp44 := w89
          rw [FRT hFT12 rfl rfl] at gp44
          clear w89
          refine y_if_eq rfl rfl (by unfold rg; omega) (fun w93 => ?_) (fun w94 => ?_)
          · rw [show z91 = 0 by omega] at gp44
            refine y_iconst rfl ?_
            refine y_ireturn rfl rfl ?_
            have w95 : Xi T13 876 7 = Xi S 876 7 := (show Xi T13 876 7 = Xi T12 876 7 from w92.x _ _ rfl).trans ( (show Xi T12 876 7 = Xi U11 876 7 from w82.x _ _ rfl).trans ( (show Xi U11 876 7 = Xi T10 876 7 from by rw [eU11]; exact Xi_ne (by omega)).trans ( (show Xi T10 876 7 = Xi T9 876 7 from w71.x _ _ rfl).trans ( (show Xi T9 876 7 = Xi U8 876 7 from w59.x _ _ rfl).trans ((show Xi U8 876 7 = Xi S 876 7 from by rw [eU8]; exact Xi_ne (by omega)))))))
            have w96 : Xi T13 890 2 = Xi U11 890 2 := (show Xi T13 890 2 = Xi T12 890 2 from w92.x _ _ rfl).trans ((show Xi T12 890 2 = Xi U11 890 2 from w82.x _ _ rfl))
            exact ⟨hHT13, hFT13, _, rfl, ⟨by omega, by omega⟩, (by first | (have t := gp100; exact K97.trans gp100) | (have t := gp83; exact (rs_s (K58.2 (by omega)) (by omega) gp70 gp83).2 (by first | rfl | omega)) | (have t := gp35; rw [ckR_c gp7 (by omega) gp22, gp35]; first | (have t := gp44; rw [gS_1]; first | exact gp44 | (refine gp44.trans ?_; exact pe (by omega) (by omega))) | rw [gS_0]) | exact ckR_0 gp7), (by omega), (by first | (have t := gp100; exact (fun _ => (by rw [show Xi T13 890 2 = Xi S 890 2 by omega]; exact s97))) | (have t := gp83; exact (fun q => absurd q (by omega))) | (have t := gp44; exact (fun _ => crs_i (Or.inr (Or.inl ⟨by omega, t22.o.1 (by omega), by omega⟩)))) | exact (fun q => absurd q (by omega)))⟩
          · rw [show z91 = 1 by omega] at gp44
            refine y_iconst rfl ?_
            refine y_goto rfl rfl ?_
            refine y_ireturn rfl rfl ?_
            have w97 : Xi T13 876 7 = Xi S 876 7 := (show Xi T13 876 7 = Xi T12 876 7 from w92.x _ _ rfl).trans ( (show Xi T12 876 7 = Xi U11 876 7 from w82.x _ _ rfl).trans ( (show Xi U11 876 7 = Xi T10 876 7 from by rw [eU11]; exact Xi_ne (by omega)).trans ( (show Xi T10 876 7 = Xi T9 876 7 from w71.x _ _ rfl).trans ( (show Xi T9 876 7 = Xi U8 876 7 from w59.x _ _ rfl).trans ((show Xi U8 876 7 = Xi S 876 7 from by rw [eU8]; exact Xi_ne (by omega)))))))
            have w98 : Xi T13 890 2 = Xi U11 890 2 := (show Xi T13 890 2 = Xi T12 890 2 from w92.x _ _ rfl).trans ((show Xi T12 890 2 = Xi U11 890 2 from w82.x _ _ rfl))
            exact ⟨hHT13, hFT13, _, rfl, ⟨by omega, by omega⟩, (by first | (have t := gp100; exact K97.trans gp100) | (have t := gp83; exact (rs_s (K58.2 (by omega)) (by omega) gp70 gp83).2 (by first | rfl | omega)) | (have t := gp35; rw [ckR_c gp7 (by omega) gp22, gp35]; first | (have t := gp44; rw [gS_1]; first | exact gp44 | (refine gp44.trans ?_; exact pe (by omega) (by omega))) | rw [gS_0]) | exact ckR_0 gp7), (by omega), (by first | (have t := gp100; exact (fun _ => (by rw [show Xi T13 890 2 = Xi S 890 2 by omega]; exact s97))) | (have t := gp83; exact (fun q => absurd q (by omega))) | (have t := gp44; exact (fun _ => crs_i (Or.inr (Or.inl ⟨by omega, t22.o.1 (by omega), by omega⟩)))) | exact (fun q => absurd q (by omega)))⟩
  · rw [show z58 = 0 by omega] at gp7
    refine y_iconst rfl ?_
    refine y_ireturn rfl rfl ?_
    have w99 : Xi T9 876 7 = Xi S 876 7 := (show Xi T9 876 7 = Xi U8 876 7 from w59.x _ _ rfl).trans ((show Xi U8 876 7 = Xi S 876 7 from by rw [eU8]; exact Xi_ne (by omega)))
    have w100 : Xi T9 890 2 = Xi U8 890 2 := (show Xi T9 890 2 = Xi U8 890 2 from w59.x _ _ rfl)
    exact ⟨hHT9, hFT9, _, rfl, ⟨by omega, by omega⟩, (by first | (have t := gp100; exact K97.trans gp100) | (have t := gp83; exact (rs_s (K58.2 (by omega)) (by omega) gp70 gp83).2 (by first | rfl | omega)) | (have t := gp35; rw [ckR_c gp7 (by omega) gp22, gp35]; first | (have t := gp44; rw [gS_1]; first | exact gp44 | (refine gp44.trans ?_; exact pe (by omega) (by omega))) | rw [gS_0]) | exact ckR_0 gp7), (by omega), (by first | (have t := gp100; exact (fun _ => (by rw [show Xi T9 890 2 = Xi S 890 2 by omega]; exact s97))) | (have t := gp83; exact (fun q => absurd q (by omega))) | (have t := gp44; exact (fun _ => crs_i (Or.inr (Or.inl ⟨by omega, t22.o.1 (by omega), by omega⟩)))) | exact (fun q => absurd q (by omega)))⟩
end
