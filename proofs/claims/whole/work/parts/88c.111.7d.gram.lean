section
theorem lp_o {l : Nat → Int → Int × Int} (hl : ∀ a, l 0 a = (1, a)) {X : Int × Int} {N : Int} {n a g : Int} (h : (g = 1 → X = l (N - n).toNat a) ∧ (g = 0 → X = (0, a))) (hg : g = 0 ∨ g = 1) (hn : N ≤ n) : X = (g, a) := by
  rcases hg with q | q
  · rw [h.2 q, q]
  · rw [lp_e hl (h.1 q) hn, q]

def md_gr_takeList__p : List rec := [(890, 891, 1, 2)]
abbrev Q_gr_takeList__p (S : sS) : pst := fun r S1 => RI S1 ∧ FR md_gr_takeList__p S S1 ∧ (∃ z : Int, r = some (iv z) ∧ (0 ≤ z ∧ z ≤ 1) ∧ (gLs (ty7 S) (Xi S 890 1) = (z, Xi S1 890 1)) ∧ (Xi S 890 1 ≤ Xi S1 890 1 ∧ Xi S1 890 1 ≤ Xi S 876 7))
set_option maxRecDepth 100000 in
theorem t_gr_takeList__p {S : sS} (hH : RI S) (hfr : NFR S) (hr : Xi S 876 7 ≤ 5130) (ha : 0 ≤ Xi S 890 1 ∧ Xi S 890 1 ≤ Xi S 876 7) (d : Nat) : Mp lay0 (d + 4) m_gr_takeList [.ref 890] S (Q_gr_takeList__p S) := by
  refine Mp_R rfl rfl (fun fu => ?_)
  have hF : FR md_gr_takeList__p S S := FR.rf
  have w1 : -2147483648 ≤ Xi S 876 7 ∧ Xi S 876 7 ≤ 2147483647 := Xi_rgI
  have w2 : -2147483648 ≤ Xi S 890 1 ∧ Xi S 890 1 ≤ 2147483647 := Xi_rgI
  have C7 : ∀ (n7 : Nat) (_ : n7 ≤ fu) (T1 : sS) (_ : RI T1) (_ : FR md_gr_takeList__p S T1) (v1 : Int) (v2 : Int), (0 ≤ v1 ∧ v1 ≤ 1) → (-2147483648 ≤ v2 ∧ v2 ≤ 2147483647) → ((v1 = 1 → gLs (ty7 S) (Xi S 890 1) = gLn (ty7 S) (5000 - v2).toNat (Xi T1 890 1)) ∧ (v1 = 0 → gLs (ty7 S) (Xi S 890 1) = (0, Xi T1 890 1))) → (0 ≤ v2 ∧ v2 ≤ 5000) → (Xi S 890 1 ≤ Xi T1 890 1 ∧ Xi T1 890 1 ≤ Xi S 876 7) → Pl n7 lay0 (d + 3) m_gr_takeList 7 [(0, .ref 890), (1, iv v1), (2, iv v2)] [] T1 (Q_gr_takeList__p S) := by
    intro n7
    induction n7 with
    | zero => intros; exact Pl_0
    | succ n7 ih7 =>
      intro hm7 T1 hHT1 hFT1 v1 v2 w3 w4 L7 w5 w6
      have w7 : Xi T1 876 7 = Xi S 876 7 := hFT1.x _ _ rfl
      have w8 : -2147483648 ≤ Xi T1 876 7 ∧ Xi T1 876 7 ≤ 2147483647 := Xi_rgI
      have w9 : -2147483648 ≤ Xi T1 890 1 ∧ Xi T1 890 1 ≤ 2147483647 := Xi_rgI
      have C36 : ∀  (T2 : sS) (_ : RI T2) (_ : FR md_gr_takeList__p S T2) (v1 : Int), (0 ≤ v1 ∧ v1 ≤ 1) → (gLs (ty7 S) (Xi S 890 1) = (v1, Xi T2 890 1)) → (Xi S 890 1 ≤ Xi T2 890 1 ∧ Xi T2 890 1 ≤ Xi S 876 7) → Pl n7 lay0 (d + 3) m_gr_takeList 36 [(1, iv v1)] [] T2 (Q_gr_takeList__p S) := by
        intro T2 hHT2 hFT2 v1 w10 L36 w11
        have w12 : Xi T2 876 7 = Xi S 876 7 := hFT2.x _ _ rfl
        have w13 : -2147483648 ≤ Xi T2 876 7 ∧ Xi T2 876 7 ≤ 2147483647 := Xi_rgI
        have w14 : -2147483648 ≤ Xi T2 890 1 ∧ Xi T2 890 1 ≤ 2147483647 := Xi_rgI
        refine y_iload_n rfl rfl ?_
        refine y_ireturn rfl (retI_z (by omega)) ?_
        exact ⟨hHT2, hFT2, _, rfl, ⟨by omega, by omega⟩, (L36), (by omega)⟩
      refine ys_iload_n rfl rfl ?_
      refine y_sipush rfl rfl ?_
      refine y_icmp_ge rfl rfl (by unfold rg; omega) (by unfold rg; omega) (fun w15 => ?_) (fun w16 => ?_)
      · exact Pl_weak (C36 T1 hHT1 hFT1 (v1) (by omega) (by first | exact lp_o (fun _ => rfl) L7 (by omega) (by omega) | (rw [lp_n (fun _ _ => rfl) (L7.1 (by omega)) (by omega) gp19 (by omega)]; exact pe (by omega) rfl) | (rw [lp_e (fun _ => rfl) (L7.1 (by omega)) (by omega)]; exact pe (by omega) rfl) | (rw [L7.2 (by omega)]; exact pe (by omega) rfl)) (by omega)) (by omega) (And.intro rfl (True.intro))
      · refine y_iload_n rfl rfl ?_
        refine y_if_eq rfl rfl (by unfold rg; omega) (fun w17 => ?_) (fun w18 => ?_)
        · exact Pl_weak (C36 T1 hHT1 hFT1 (v1) (by omega) (by first | exact lp_o (fun _ => rfl) L7 (by omega) (by omega) | (rw [lp_n (fun _ _ => rfl) (L7.1 (by omega)) (by omega) gp19 (by omega)]; exact pe (by omega) rfl) | (rw [lp_e (fun _ => rfl) (L7.1 (by omega)) (by omega)]; exact pe (by omega) rfl) | (rw [L7.2 (by omega)]; exact pe (by omega) rfl)) (by omega)) (by omega) (And.intro rfl (True.intro))
        · refine y_aload_n rfl rfl ?_
          refine y_callV rfl rfl rfl (t_gr_takeBetween__p hHT1 (by first | assumption | exact (NFR_FR hFT1 rfl rfl (by assumption : NFR S))) (by first | assumption | omega) (by first | assumption | omega) _) ?_
          rintro _ T3 ⟨hHT3, w22, z21, rfl, w21, w19, w20⟩
          have hFT3 : FR md_gr_takeList__p S T3 := FR.tr hFT1 w22 rfl
          show Pl _ _ _ _ _ _ [iv z21] _ _
          have gp19 := w19
          rw [FRT hFT1 rfl rfl] at gp19
          clear w19
          refine y_if_eq rfl rfl (by unfold rg; omega) (fun w23 => ?_) (fun w24 => ?_)
          · rw [show z21 = 0 by omega] at gp19
            have w25 : Xi T3 876 7 = Xi T1 876 7 := (show Xi T3 876 7 = Xi T1 876 7 from w22.x _ _ rfl)
            exact Pl_weak (C36 T3 hHT3 hFT3 (v1) (by omega) (by first | exact lp_o (fun _ => rfl) L7 (by omega) (by omega) | (rw [lp_n (fun _ _ => rfl) (L7.1 (by omega)) (by omega) gp19 (by omega)]; exact pe (by omega) rfl) | (rw [lp_e (fun _ => rfl) (L7.1 (by omega)) (by omega)]; exact pe (by omega) rfl) | (rw [L7.2 (by omega)]; exact pe (by omega) rfl)) (by omega)) (by omega) (And.intro rfl (True.intro))
          · rw [show z21 = 1 by omega] at gp19
            refine y_aload_n rfl rfl ?_
            have w26 : Xi T3 876 7 = Xi T1 876 7 := (show Xi T3 876 7 = Xi T1 876 7 from w22.x _ _ rfl)
            refine y_callV rfl rfl rfl (t_gr_takeName__p hHT3 (by first | assumption | exact (NFR_FR hFT3 rfl rfl (by assumption : NFR S))) (by first | assumption | omega) (by first | assumption | omega) _) ?_
            rintro _ T4 ⟨hHT4, w30, z29, rfl, w29, w27, w28⟩
            have hFT4 : FR md_gr_takeList__p S T4 := FR.tr hFT3 w30 rfl
            show Pl _ _ _ _ _ _ [iv z29] _ _
            have gp26 := w27
            rw [FRT hFT3 rfl rfl] at gp26
            clear w27
            refine y_istore_n rfl rfl rfl ?_
            refine y_iinc rfl rfl rfl rfl ?_
            refine y_goto rfl rfl ?_
            have w31 : Xi T4 876 7 = Xi T1 876 7 := (show Xi T4 876 7 = Xi T3 876 7 from w30.x _ _ rfl).trans ((show Xi T3 876 7 = Xi T1 876 7 from w22.x _ _ rfl))
            exact Pl_weak (ih7 (by omega) T4 hHT4 hFT4 (z29) ((v2 + 1)) (by omega) (by omega) (by first | exact lp_0 (T := ty7 S) (f := gN (ty7 S)) (l := gLn (ty7 S)) (N := 5000) rfl gp1 | exact lp_s (fun _ _ => rfl) (L7.1 (by omega)) (by omega) gp19 (by omega) gp26) (by omega) (by omega)) (by omega) (And.intro rfl (And.intro rfl (And.intro rfl (True.intro))))
  refine y_aload_n rfl rfl ?_
  refine y_callV rfl rfl rfl (t_gr_takeName__p hH (by first | assumption | exact (NFR_FR hF rfl rfl (by assumption : NFR S))) (by first | assumption | omega) (by first | assumption | omega) _) ?_
  rintro _ T5 ⟨hHT5, w35, z34, rfl, w34, w32, w33⟩
  have hFT5 : FR md_gr_takeList__p S T5 := FR.tr hF w35 rfl
  show Pl _ _ _ _ _ _ [iv z34] _ _
  have gp1 := w32
  clear w32
  refine y_istore_n rfl rfl rfl ?_
  refine y_iconst rfl ?_
  refine y_istore_n rfl rfl rfl ?_
  have w36 : Xi T5 876 7 = Xi S 876 7 := (show Xi T5 876 7 = Xi S 876 7 from w35.x _ _ rfl)
  exact Pl_weak (C7 fu (by omega) T5 hHT5 hFT5 (z34) (0) (by omega) (by omega) (by first | exact lp_0 (T := ty7 S) (f := gN (ty7 S)) (l := gLn (ty7 S)) (N := 5000) rfl gp1 | exact lp_s (fun _ _ => rfl) (L7.1 (by omega)) (by omega) gp19 (by omega) gp26) (by omega) (by omega)) (by omega) (And.intro rfl (And.intro rfl (And.intro rfl (True.intro))))
def md_gr_takeThing__p : List rec := [(890, 891, 1, 2)]
abbrev Q_gr_takeThing__p (S : sS) : pst := fun r S1 => RI S1 ∧ FR md_gr_takeThing__p S S1 ∧ (∃ z : Int, r = some (iv z) ∧ (0 ≤ z ∧ z ≤ 1) ∧ (gTh (ty7 S) (Xi S 890 1) = (z, Xi S1 890 1)) ∧ (Xi S 890 1 ≤ Xi S1 890 1 ∧ Xi S1 890 1 ≤ Xi S 876 7))
set_option maxRecDepth 100000 in
theorem t_gr_takeThing__p {S : sS} (hH : RI S) (hfr : NFR S) (hr : Xi S 876 7 ≤ 5130) (ha : 0 ≤ Xi S 890 1 ∧ Xi S 890 1 ≤ Xi S 876 7) (d : Nat) : Mp lay0 (d + 3) m_gr_takeThing [.ref 890] S (Q_gr_takeThing__p S) := by
  refine Mp_R rfl rfl (fun fu => ?_)
  have hF : FR md_gr_takeThing__p S S := FR.rf
  have w1 : -2147483648 ≤ Xi S 876 7 ∧ Xi S 876 7 ≤ 2147483647 := Xi_rgI
  have w2 : -2147483648 ≤ Xi S 890 1 ∧ Xi S 890 1 ≤ 2147483647 := Xi_rgI
  refine y_aload_n rfl rfl ?_
  refine y_bipush rfl rfl ?_
  refine y_callV rfl rfl rfl (t_gr_take__p hH 54 ⟨by omega, by omega⟩ (by first | assumption | exact (NFR_FR hF rfl rfl (by assumption : NFR S))) (by first | assumption | omega) (by first | assumption | omega) _) ?_
  rintro _ T1 ⟨hHT1, w6, z5, rfl, w5, w3, w4⟩
  have hFT1 : FR md_gr_takeThing__p S T1 := FR.tr hF w6 rfl
  show Pl _ _ _ _ _ _ [iv z5] _ _
  have gp3 := w3
  clear w3
  refine y_if_ne rfl rfl (by unfold rg; omega) (fun w7 => ?_) (fun w8 => ?_)
  · rw [show z5 = 1 by omega] at gp3
    refine y_iconst rfl ?_
    refine y_ireturn rfl rfl ?_
    have w9 : Xi T1 876 7 = Xi S 876 7 := (show Xi T1 876 7 = Xi S 876 7 from w6.x _ _ rfl)
    exact ⟨hHT1, hFT1, _, rfl, ⟨by omega, by omega⟩, (by (try simp only [gS_1, gS_0, o_1, o_0, i10, i00, n10, n00, if_true, if_false, art7, pl7, th7, bp7, gTh, gN, gp3]); (repeat ((first | rw [if_pos (by omega)] | rw [if_neg (by omega)]); (try simp only [gS_1, gS_0, o_1, o_0, i10, i00, n10, n00, if_true, if_false, art7, pl7, th7, bp7, gTh, gN, gp3]))); first | done | exact pe (by omega) (by omega) | (exfalso; omega)), (by omega)⟩
  · rw [show z5 = 0 by omega] at gp3
    refine y_aload_n rfl rfl ?_
    refine y_bipush rfl rfl ?_
    have w10 : Xi T1 876 7 = Xi S 876 7 := (show Xi T1 876 7 = Xi S 876 7 from w6.x _ _ rfl)
    refine y_callV rfl rfl rfl (t_gr_take__p hHT1 53 ⟨by omega, by omega⟩ (by first | assumption | exact (NFR_FR hFT1 rfl rfl (by assumption : NFR S))) (by first | assumption | omega) (by first | assumption | omega) _) ?_
    rintro _ T2 ⟨hHT2, w14, z13, rfl, w13, w11, w12⟩
    have hFT2 : FR md_gr_takeThing__p S T2 := FR.tr hFT1 w14 rfl
    show Pl _ _ _ _ _ _ [iv z13] _ _
    have gp12 := w11
    rw [FRT hFT1 rfl rfl] at gp12
    clear w11
    refine y_if_eq rfl rfl (by unfold rg; omega) (fun w15 => ?_) (fun w16 => ?_)
    · rw [show z13 = 0 by omega] at gp12
      refine y_aload_n rfl rfl ?_
      refine y_gfr rfl rfl rfl rfl rfl (hHT2.r 890 0 876 rfl) ?_
      refine y_aload_n rfl rfl ?_
      refine y_gfi rfl rfl rfl rfl rfl ?_
      have w17 : -2147483648 ≤ (Xi T2 890 1) ∧ (Xi T2 890 1) ≤ 2147483647 := Xi_rgI
      have w18 : Xi T2 876 7 = Xi S 876 7 := (show Xi T2 876 7 = Xi T1 876 7 from w14.x _ _ rfl).trans ((show Xi T1 876 7 = Xi S 876 7 from w6.x _ _ rfl))
      refine y_callV rfl rfl rfl (t_to_typeAt__p hHT2 (Xi T2 890 1) ⟨by omega, by omega⟩ _) ?_
      rintro _ _ ⟨rfl, z21, rfl, w21, w19, w20⟩
      show Pl _ _ _ _ _ _ [iv z21] _ _
      have gq28 := w19
      rw [FRT hFT2 rfl rfl] at gq28
      clear w19
      refine y_iconst rfl ?_
      refine y_icmp_ne rfl rfl (by unfold rg; omega) (by unfold rg; omega) (fun w22 => ?_) (fun w23 => ?_)
      · refine y_iconst rfl ?_
        refine y_istore_n rfl rfl rfl ?_
        refine y_aload_n rfl rfl ?_
        refine y_aload_n rfl rfl ?_
        refine y_gfr rfl rfl rfl rfl rfl (hHT2.r 890 0 876 rfl) ?_
        refine y_aload_n rfl rfl ?_
        refine y_gfi rfl rfl rfl rfl rfl ?_
        refine y_callV rfl rfl rfl (t_to_behindArt__p hHT2 (Xi T2 890 1) ⟨by omega, by omega⟩ _) ?_
        rintro _ _ ⟨rfl, z27, rfl, w27, w25, w26⟩
        show Pl _ _ _ _ _ _ [iv z27, .ref 890] _ _
        have gq50 := w25
        rw [FRT hFT2 rfl rfl] at gq50
        clear w25
        refine y_pfi rfl rfl rfl rfl ?_
        obtain ⟨U3, eU3⟩ : ∃ T : sS, T = uI T2 890 1 (Int32.ofInt z27) := ⟨_, rfl⟩
        rw [← eU3]
        have hHU3 : RI U3 := by rw [eU3]; exact RI_w hHT2
        have hFU3 : FR md_gr_takeThing__p S U3 := by rw [eU3]; exact FR.wI hFT2 (mdf_i (r := (890, 891, 1, 2)) (List.mem_of_getElem? (i := 0) rfl) (inR_i (by omega) (by omega) (by omega) (by omega)))
        have w28 : Xi U3 890 1 = z27 := by rw [eU3]; exact Xi_same (by unfold rg; omega)
        refine y_iload_n rfl rfl ?_
        refine y_if_eq rfl rfl (by unfold rg; omega) (fun w29 => ?_) (fun w30 => absurd w30 (by omega))
        · refine y_aload_n rfl rfl ?_
          have w31 : Xi U3 876 7 = Xi S 876 7 := (show Xi U3 876 7 = Xi T2 876 7 from by rw [eU3]; exact Xi_ne (by omega)).trans ( (show Xi T2 876 7 = Xi T1 876 7 from w14.x _ _ rfl).trans ((show Xi T1 876 7 = Xi S 876 7 from w6.x _ _ rfl)))
          refine y_callV rfl rfl rfl (t_gr_takeRun__p hHU3 (by first | assumption | exact (NFR_FR hFU3 rfl rfl (by assumption : NFR S))) (by first | assumption | omega) (by first | assumption | omega) _) ?_
          rintro _ T4 ⟨hHT4, w35, z34, rfl, w34, w32, w33⟩
          have hFT4 : FR md_gr_takeThing__p S T4 := FR.tr hFU3 w35 rfl
          show Pl _ _ _ _ _ _ [iv z34] _ _
          have gp70 := w32
          rw [FRT hFU3 rfl rfl] at gp70
          try rw [show Xi U3 890 1 = z27 by omega] at gp70
          clear w32
          refine y_if_eq rfl rfl (by unfold rg; omega) (fun w36 => ?_) (fun w37 => ?_)
          · rw [show z34 = 0 by omega] at gp70
            refine y_iconst rfl ?_
            refine y_ireturn rfl rfl ?_
            have w38 : Xi T4 876 7 = Xi S 876 7 := (show Xi T4 876 7 = Xi U3 876 7 from w35.x _ _ rfl).trans ( (show Xi U3 876 7 = Xi T2 876 7 from by rw [eU3]; exact Xi_ne (by omega)).trans ( (show Xi T2 876 7 = Xi T1 876 7 from w14.x _ _ rfl).trans ((show Xi T1 876 7 = Xi S 876 7 from w6.x _ _ rfl))))
            exact ⟨hHT4, hFT4, _, rfl, ⟨by omega, by omega⟩, (by (try simp only [gS_1, gS_0, o_1, o_0, i10, i00, n10, n00, if_true, if_false, art7, pl7, th7, bp7, gTh, gN, gp3, gp12, gq28, gq50, gp70]); (repeat ((first | rw [if_pos (by omega)] | rw [if_neg (by omega)]); (try simp only [gS_1, gS_0, o_1, o_0, i10, i00, n10, n00, if_true, if_false, art7, pl7, th7, bp7, gTh, gN, gp3, gp12, gq28, gq50, gp70]))); first | done | exact pe (by omega) (by omega) | (exfalso; omega)), (by omega)⟩
          · rw [show z34 = 1 by omega] at gp70
            refine y_iconst rfl ?_
            refine y_goto rfl rfl ?_
            refine y_ireturn rfl rfl ?_
            have w39 : Xi T4 876 7 = Xi S 876 7 := (show Xi T4 876 7 = Xi U3 876 7 from w35.x _ _ rfl).trans ( (show Xi U3 876 7 = Xi T2 876 7 from by rw [eU3]; exact Xi_ne (by omega)).trans ( (show Xi T2 876 7 = Xi T1 876 7 from w14.x _ _ rfl).trans ((show Xi T1 876 7 = Xi S 876 7 from w6.x _ _ rfl))))
            exact ⟨hHT4, hFT4, _, rfl, ⟨by omega, by omega⟩, (by (try simp only [gS_1, gS_0, o_1, o_0, i10, i00, n10, n00, if_true, if_false, art7, pl7, th7, bp7, gTh, gN, gp3, gp12, gq28, gq50, gp70]); (repeat ((first | rw [if_pos (by omega)] | rw [if_neg (by omega)]); (try simp only [gS_1, gS_0, o_1, o_0, i10, i00, n10, n00, if_true, if_false, art7, pl7, th7, bp7, gTh, gN, gp3, gp12, gq28, gq50, gp70]))); first | done | exact pe (by omega) (by omega) | (exfalso; omega)), (by omega)⟩
      · refine y_iconst rfl ?_
        refine y_goto rfl rfl ?_
        refine y_istore_n rfl rfl rfl ?_
        refine y_aload_n rfl rfl ?_
        refine y_aload_n rfl rfl ?_
        refine y_gfr rfl rfl rfl rfl rfl (hHT2.r 890 0 876 rfl) ?_
        refine y_aload_n rfl rfl ?_
        refine y_gfi rfl rfl rfl rfl rfl ?_
        refine y_callV rfl rfl rfl (t_to_behindArt__p hHT2 (Xi T2 890 1) ⟨by omega, by omega⟩ _) ?_
        rintro _ _ ⟨rfl, z43, rfl, w43, w41, w42⟩
        show Pl _ _ _ _ _ _ [iv z43, .ref 890] _ _
        have gq50 := w41
        rw [FRT hFT2 rfl rfl] at gq50
        clear w41
        refine y_pfi rfl rfl rfl rfl ?_
        obtain ⟨U5, eU5⟩ : ∃ T : sS, T = uI T2 890 1 (Int32.ofInt z43) := ⟨_, rfl⟩
        rw [← eU5]
        have hHU5 : RI U5 := by rw [eU5]; exact RI_w hHT2
        have hFU5 : FR md_gr_takeThing__p S U5 := by rw [eU5]; exact FR.wI hFT2 (mdf_i (r := (890, 891, 1, 2)) (List.mem_of_getElem? (i := 0) rfl) (inR_i (by omega) (by omega) (by omega) (by omega)))
        have w44 : Xi U5 890 1 = z43 := by rw [eU5]; exact Xi_same (by unfold rg; omega)
        refine y_iload_n rfl rfl ?_
        refine y_if_eq rfl rfl (by unfold rg; omega) (fun w45 => absurd w45 (by omega)) (fun w46 => ?_)
        · refine y_aload_n rfl rfl ?_
          refine y_bipush rfl rfl ?_
          have w47 : Xi U5 876 7 = Xi S 876 7 := (show Xi U5 876 7 = Xi T2 876 7 from by rw [eU5]; exact Xi_ne (by omega)).trans ( (show Xi T2 876 7 = Xi T1 876 7 from w14.x _ _ rfl).trans ((show Xi T1 876 7 = Xi S 876 7 from w6.x _ _ rfl)))
          refine y_callV rfl rfl rfl (t_gr_take__p hHU5 53 ⟨by omega, by omega⟩ (by first | assumption | exact (NFR_FR hFU5 rfl rfl (by assumption : NFR S))) (by first | assumption | omega) (by first | assumption | omega) _) ?_
          rintro _ T6 ⟨hHT6, w51, z50, rfl, w50, w48, w49⟩
          have hFT6 : FR md_gr_takeThing__p S T6 := FR.tr hFU5 w51 rfl
          show Pl _ _ _ _ _ _ [iv z50] _ _
          have gp63 := w48
          rw [FRT hFU5 rfl rfl] at gp63
          try rw [show Xi U5 890 1 = z43 by omega] at gp63
          clear w48
          refine y_if_ne rfl rfl (by unfold rg; omega) (fun w52 => ?_) (fun w53 => ?_)
          · rw [show z50 = 1 by omega] at gp63
            refine y_iconst rfl ?_
            refine y_goto rfl rfl ?_
            refine y_ireturn rfl rfl ?_
            have w54 : Xi T6 876 7 = Xi S 876 7 := (show Xi T6 876 7 = Xi U5 876 7 from w51.x _ _ rfl).trans ( (show Xi U5 876 7 = Xi T2 876 7 from by rw [eU5]; exact Xi_ne (by omega)).trans ( (show Xi T2 876 7 = Xi T1 876 7 from w14.x _ _ rfl).trans ((show Xi T1 876 7 = Xi S 876 7 from w6.x _ _ rfl))))
            exact ⟨hHT6, hFT6, _, rfl, ⟨by omega, by omega⟩, (by (try simp only [gS_1, gS_0, o_1, o_0, i10, i00, n10, n00, if_true, if_false, art7, pl7, th7, bp7, gTh, gN, gp3, gp12, gq28, gq50, gp63]); (repeat ((first | rw [if_pos (by omega)] | rw [if_neg (by omega)]); (try simp only [gS_1, gS_0, o_1, o_0, i10, i00, n10, n00, if_true, if_false, art7, pl7, th7, bp7, gTh, gN, gp3, gp12, gq28, gq50, gp63]))); first | done | exact pe (by omega) (by omega) | (exfalso; omega)), (by omega)⟩
          · rw [show z50 = 0 by omega] at gp63
            refine y_aload_n rfl rfl ?_
            have w55 : Xi T6 876 7 = Xi S 876 7 := (show Xi T6 876 7 = Xi U5 876 7 from w51.x _ _ rfl).trans ( (show Xi U5 876 7 = Xi T2 876 7 from by rw [eU5]; exact Xi_ne (by omega)).trans ( (show Xi T2 876 7 = Xi T1 876 7 from w14.x _ _ rfl).trans ((show Xi T1 876 7 = Xi S 876 7 from w6.x _ _ rfl))))
            refine y_callV rfl rfl rfl (t_gr_takeRun__p hHT6 (by first | assumption | exact (NFR_FR hFT6 rfl rfl (by assumption : NFR S))) (by first | assumption | omega) (by first | assumption | omega) _) ?_
            rintro _ T7 ⟨hHT7, w59, z58, rfl, w58, w56, w57⟩
            have hFT7 : FR md_gr_takeThing__p S T7 := FR.tr hFT6 w59 rfl
            show Pl _ _ _ _ _ _ [iv z58] _ _
            have gp70 := w56
            rw [FRT hFT6 rfl rfl] at gp70
            clear w56
            refine y_if_eq rfl rfl (by unfold rg; omega) (fun w60 => ?_) (fun w61 => ?_)
            · rw [show z58 = 0 by omega] at gp70
              refine y_iconst rfl ?_
              refine y_ireturn rfl rfl ?_
              have w62 : Xi T7 876 7 = Xi S 876 7 := (show Xi T7 876 7 = Xi T6 876 7 from w59.x _ _ rfl).trans ( (show Xi T6 876 7 = Xi U5 876 7 from w51.x _ _ rfl).trans ( (show Xi U5 876 7 = Xi T2 876 7 from by rw [eU5]; exact Xi_ne (by omega)).trans ( (show Xi T2 876 7 = Xi T1 876 7 from w14.x _ _ rfl).trans ((show Xi T1 876 7 = Xi S 876 7 from w6.x _ _ rfl)))))
              exact ⟨hHT7, hFT7, _, rfl, ⟨by omega, by omega⟩, (by (try simp only [gS_1, gS_0, o_1, o_0, i10, i00, n10, n00, if_true, if_false, art7, pl7, th7, bp7, gTh, gN, gp3, gp12, gq28, gq50, gp63, gp70]); (repeat ((first | rw [if_pos (by omega)] | rw [if_neg (by omega)]); (try simp only [gS_1, gS_0, o_1, o_0, i10, i00, n10, n00, if_true, if_false, art7, pl7, th7, bp7, gTh, gN, gp3, gp12, gq28, gq50, gp63, gp70]))); first | done | exact pe (by omega) (by omega) | (exfalso; omega)), (by omega)⟩
            · rw [show z58 = 1 by omega] at gp70
              refine y_iconst rfl ?_
              refine y_goto rfl rfl ?_
              refine y_ireturn rfl rfl ?_
              have w63 : Xi T7 876 7 = Xi S 876 7 := (show Xi T7 876 7 = Xi T6 876 7 from w59.x _ _ rfl).trans ( (show Xi T6 876 7 = Xi U5 876 7 from w51.x _ _ rfl).trans ( (show Xi U5 876 7 = Xi T2 876 7 from by rw [eU5]; exact Xi_ne (by omega)).trans ( (show Xi T2 876 7 = Xi T1 876 7 from w14.x _ _ rfl).trans ((show Xi T1 876 7 = Xi S 876 7 from w6.x _ _ rfl)))))
              exact ⟨hHT7, hFT7, _, rfl, ⟨by omega, by omega⟩, (by (try simp only [gS_1, gS_0, o_1, o_0, i10, i00, n10, n00, if_true, if_false, art7, pl7, th7, bp7, gTh, gN, gp3, gp12, gq28, gq50, gp63, gp70]); (repeat ((first | rw [if_pos (by omega)] | rw [if_neg (by omega)]); (try simp only [gS_1, gS_0, o_1, o_0, i10, i00, n10, n00, if_true, if_false, art7, pl7, th7, bp7, gTh, gN, gp3, gp12, gq28, gq50, gp63, gp70]))); first | done | exact pe (by omega) (by omega) | (exfalso; omega)), (by omega)⟩
    · rw [show z13 = 1 by omega] at gp12
      refine y_iconst rfl ?_
      refine y_ireturn rfl rfl ?_
      have w64 : Xi T2 876 7 = Xi S 876 7 := (show Xi T2 876 7 = Xi T1 876 7 from w14.x _ _ rfl).trans ((show Xi T1 876 7 = Xi S 876 7 from w6.x _ _ rfl))
      exact ⟨hHT2, hFT2, _, rfl, ⟨by omega, by omega⟩, (by (try simp only [gS_1, gS_0, o_1, o_0, i10, i00, n10, n00, if_true, if_false, art7, pl7, th7, bp7, gTh, gN, gp3, gp12]); (repeat ((first | rw [if_pos (by omega)] | rw [if_neg (by omega)]); (try simp only [gS_1, gS_0, o_1, o_0, i10, i00, n10, n00, if_true, if_false, art7, pl7, th7, bp7, gTh, gN, gp3, gp12]))); first | done | exact pe (by omega) (by omega) | (exfalso; omega)), (by omega)⟩
def md_gr_takePlace__p : List rec := [(890, 891, 1, 2)]
abbrev Q_gr_takePlace__p (S : sS) (any : Int) : pst := fun r S1 => RI S1 ∧ FR md_gr_takePlace__p S S1 ∧ (∃ z : Int, r = some (iv z) ∧ (0 ≤ z ∧ z ≤ 1) ∧ (gPl (ty7 S) any (Xi S 890 1) = (z, Xi S1 890 1)) ∧ (Xi S 890 1 ≤ Xi S1 890 1 ∧ Xi S1 890 1 ≤ Xi S 876 7))
set_option maxRecDepth 100000 in
theorem t_gr_takePlace__p {S : sS} (hH : RI S) (any : Int) (hany : 0 ≤ any ∧ any ≤ 1) (hfr : NFR S) (hr : Xi S 876 7 ≤ 5130) (ha : 0 ≤ Xi S 890 1 ∧ Xi S 890 1 ≤ Xi S 876 7) (hp : ty7 S (Xi S 890 1) ≠ 107) (d : Nat) : Mp lay0 (d + 4) m_gr_takePlace [.ref 890, iv any] S (Q_gr_takePlace__p S any) := by
  refine Mp_R rfl rfl (fun fu => ?_)
  have hF : FR md_gr_takePlace__p S S := FR.rf
  have w1 : -2147483648 ≤ Xi S 876 7 ∧ Xi S 876 7 ≤ 2147483647 := Xi_rgI
  have w2 : -2147483648 ≤ Xi S 890 1 ∧ Xi S 890 1 ≤ 2147483647 := Xi_rgI
  refine y_aload_n rfl rfl ?_
  refine y_gfr rfl rfl rfl rfl rfl (hH.r 890 0 876 rfl) ?_
  refine y_aload_n rfl rfl ?_
  refine y_gfi rfl rfl rfl rfl rfl ?_
  refine y_callV rfl rfl rfl (t_to_typeAt__p hH (Xi S 890 1) ⟨by omega, by omega⟩ _) ?_
  rintro _ _ ⟨rfl, z5, rfl, w5, w3, w4⟩
  show Pl _ _ _ _ _ _ [iv z5] _ _
  have gq8 := w3
  clear w3
  refine y_istore_n rfl rfl rfl ?_
  refine y_aload_n rfl rfl ?_
  refine y_dup rfl rfl ?_
  refine y_gfi rfl rfl rfl rfl rfl ?_
  refine y_iconst rfl ?_
  refine y_iadd rfl ?_
  refine y_pfi rfl rfl rfl rfl ?_
  obtain ⟨U1, eU1⟩ : ∃ T : sS, T = uI S 890 1 (Int32.ofInt ((Xi S 890 1) + 1)) := ⟨_, rfl⟩
  rw [← eU1]
  have hHU1 : RI U1 := by rw [eU1]; exact RI_w hH
  have hFU1 : FR md_gr_takePlace__p S U1 := by rw [eU1]; exact FR.wI hF (mdf_i (r := (890, 891, 1, 2)) (List.mem_of_getElem? (i := 0) rfl) (inR_i (by omega) (by omega) (by omega) (by omega)))
  have w6 : Xi U1 890 1 = ((Xi S 890 1) + 1) := by rw [eU1]; exact Xi_same (by unfold rg; omega)
  refine y_iload_n rfl rfl ?_
  refine y_bipush rfl rfl ?_
  refine y_icmp_ne rfl rfl (by unfold rg; omega) (by unfold rg; omega) (fun w7 => ?_) (fun w8 => ?_)
  · refine y_iload_n rfl rfl ?_
    refine y_bipush rfl rfl ?_
    refine y_icmp_eq rfl rfl (by unfold rg; omega) (by unfold rg; omega) (fun w9 => ?_) (fun w10 => ?_)
    · refine y_aload_n rfl rfl ?_
      refine y_bipush rfl rfl ?_
      have w11 : Xi U1 876 7 = Xi S 876 7 := (show Xi U1 876 7 = Xi S 876 7 from by rw [eU1]; exact Xi_ne (by omega))
      refine y_callV rfl rfl rfl (t_gr_take__p hHU1 10 ⟨by omega, by omega⟩ (by first | assumption | exact (NFR_FR hFU1 rfl rfl (by assumption : NFR S))) (by first | assumption | omega) (by first | assumption | omega) _) ?_
      rintro _ T2 ⟨hHT2, w15, z14, rfl, w14, w12, w13⟩
      have hFT2 : FR md_gr_takePlace__p S T2 := FR.tr hFU1 w15 rfl
      show Pl _ _ _ _ _ _ [iv z14] _ _
      have gp52 := w12
      rw [FRT hFU1 rfl rfl] at gp52
      try rw [show Xi U1 890 1 = ((Xi S 890 1) + 1) by omega] at gp52
      clear w12
      refine y_if_ne rfl rfl (by unfold rg; omega) (fun w16 => ?_) (fun w17 => ?_)
      · rw [show z14 = 1 by omega] at gp52
        refine y_iload_n rfl rfl ?_
        refine y_if_eq rfl rfl (by unfold rg; omega) (fun w18 => ?_) (fun w19 => ?_)
        · refine y_aload_n rfl rfl ?_
          have w20 : Xi T2 876 7 = Xi S 876 7 := (show Xi T2 876 7 = Xi U1 876 7 from w15.x _ _ rfl).trans ((show Xi U1 876 7 = Xi S 876 7 from by rw [eU1]; exact Xi_ne (by omega)))
          refine y_callV rfl rfl rfl (t_gr_takeName__p hHT2 (by first | assumption | exact (NFR_FR hFT2 rfl rfl (by assumption : NFR S))) (by first | assumption | omega) (by first | assumption | omega) _) ?_
          rintro _ T3 ⟨hHT3, w24, z23, rfl, w23, w21, w22⟩
          have hFT3 : FR md_gr_takePlace__p S T3 := FR.tr hFT2 w24 rfl
          show Pl _ _ _ _ _ _ [iv z23] _ _
          have gp72 := w21
          rw [FRT hFT2 rfl rfl] at gp72
          clear w21
          refine y_ireturn rfl (retI_z (by omega)) ?_
          have w25 : Xi T3 876 7 = Xi S 876 7 := (show Xi T3 876 7 = Xi T2 876 7 from w24.x _ _ rfl).trans ( (show Xi T2 876 7 = Xi U1 876 7 from w15.x _ _ rfl).trans ((show Xi U1 876 7 = Xi S 876 7 from by rw [eU1]; exact Xi_ne (by omega))))
          exact ⟨hHT3, hFT3, _, rfl, ⟨by omega, by omega⟩, (by (first | rw [show z23 = 1 by omega] at gp72 | rw [show z23 = 0 by omega] at gp72 | skip); (try simp only [gS_1, gS_0, o_1, o_0, i10, i00, n10, n00, if_true, if_false, art7, pl7, th7, bp7, gPl, gq8, gp52, gp72]); (repeat ((first | rw [if_pos (by omega)] | rw [if_neg (by omega)]); (try simp only [gS_1, gS_0, o_1, o_0, i10, i00, n10, n00, if_true, if_false, art7, pl7, th7, bp7, gPl, gq8, gp52, gp72]))); first | done | exact pe (by omega) (by omega) | (exfalso; omega)), (by omega)⟩
        · refine y_aload_n rfl rfl ?_
          have w26 : Xi T2 876 7 = Xi S 876 7 := (show Xi T2 876 7 = Xi U1 876 7 from w15.x _ _ rfl).trans ((show Xi U1 876 7 = Xi S 876 7 from by rw [eU1]; exact Xi_ne (by omega)))
          refine y_callV rfl rfl rfl (t_gr_takeThing__p hHT2 (by first | assumption | exact (NFR_FR hFT2 rfl rfl (by assumption : NFR S))) (by first | assumption | omega) (by first | assumption | omega) _) ?_
          rintro _ T4 ⟨hHT4, w30, z29, rfl, w29, w27, w28⟩
          have hFT4 : FR md_gr_takePlace__p S T4 := FR.tr hFT2 w30 rfl
          show Pl _ _ _ _ _ _ [iv z29] _ _
          have gp65 := w27
          rw [FRT hFT2 rfl rfl] at gp65
          clear w27
          refine y_goto rfl rfl ?_
          refine y_ireturn rfl (retI_z (by omega)) ?_
          have w31 : Xi T4 876 7 = Xi S 876 7 := (show Xi T4 876 7 = Xi T2 876 7 from w30.x _ _ rfl).trans ( (show Xi T2 876 7 = Xi U1 876 7 from w15.x _ _ rfl).trans ((show Xi U1 876 7 = Xi S 876 7 from by rw [eU1]; exact Xi_ne (by omega))))
          exact ⟨hHT4, hFT4, _, rfl, ⟨by omega, by omega⟩, (by (first | rw [show z29 = 1 by omega] at gp65 | rw [show z29 = 0 by omega] at gp65 | skip); (try simp only [gS_1, gS_0, o_1, o_0, i10, i00, n10, n00, if_true, if_false, art7, pl7, th7, bp7, gPl, gq8, gp52, gp65]); (repeat ((first | rw [if_pos (by omega)] | rw [if_neg (by omega)]); (try simp only [gS_1, gS_0, o_1, o_0, i10, i00, n10, n00, if_true, if_false, art7, pl7, th7, bp7, gPl, gq8, gp52, gp65]))); first | done | exact pe (by omega) (by omega) | (exfalso; omega)), (by omega)⟩
      · rw [show z14 = 0 by omega] at gp52
        refine y_iconst rfl ?_
        refine y_ireturn rfl rfl ?_
        have w32 : Xi T2 876 7 = Xi S 876 7 := (show Xi T2 876 7 = Xi U1 876 7 from w15.x _ _ rfl).trans ((show Xi U1 876 7 = Xi S 876 7 from by rw [eU1]; exact Xi_ne (by omega)))
        exact ⟨hHT2, hFT2, _, rfl, ⟨by omega, by omega⟩, (by (try simp only [gS_1, gS_0, o_1, o_0, i10, i00, n10, n00, if_true, if_false, art7, pl7, th7, bp7, gPl, gq8, gp52]); (repeat ((first | rw [if_pos (by omega)] | rw [if_neg (by omega)]); (try simp only [gS_1, gS_0, o_1, o_0, i10, i00, n10, n00, if_true, if_false, art7, pl7, th7, bp7, gPl, gq8, gp52]))); first | done | exact pe (by omega) (by omega) | (exfalso; omega)), (by omega)⟩
    · refine y_iload_n rfl rfl ?_
      refine y_bipush rfl rfl ?_
      refine y_icmp_ne rfl rfl (by unfold rg; omega) (by unfold rg; omega) (fun w33 => ?_) (fun w34 => ?_)
      · refine y_iload_n rfl rfl ?_
        refine y_if_eq rfl rfl (by unfold rg; omega) (fun w35 => ?_) (fun w36 => ?_)
        · refine y_aload_n rfl rfl ?_
          have w37 : Xi U1 876 7 = Xi S 876 7 := (show Xi U1 876 7 = Xi S 876 7 from by rw [eU1]; exact Xi_ne (by omega))
          refine y_callV rfl rfl rfl (t_gr_takeName__p hHU1 (by first | assumption | exact (NFR_FR hFU1 rfl rfl (by assumption : NFR S))) (by first | assumption | omega) (by first | assumption | omega) _) ?_
          rintro _ T5 ⟨hHT5, w41, z40, rfl, w40, w38, w39⟩
          have hFT5 : FR md_gr_takePlace__p S T5 := FR.tr hFU1 w41 rfl
          show Pl _ _ _ _ _ _ [iv z40] _ _
          have gp72 := w38
          rw [FRT hFU1 rfl rfl] at gp72
          try rw [show Xi U1 890 1 = ((Xi S 890 1) + 1) by omega] at gp72
          clear w38
          refine y_ireturn rfl (retI_z (by omega)) ?_
          have w42 : Xi T5 876 7 = Xi S 876 7 := (show Xi T5 876 7 = Xi U1 876 7 from w41.x _ _ rfl).trans ((show Xi U1 876 7 = Xi S 876 7 from by rw [eU1]; exact Xi_ne (by omega)))
          exact ⟨hHT5, hFT5, _, rfl, ⟨by omega, by omega⟩, (by (first | rw [show z40 = 1 by omega] at gp72 | rw [show z40 = 0 by omega] at gp72 | skip); (try simp only [gS_1, gS_0, o_1, o_0, i10, i00, n10, n00, if_true, if_false, art7, pl7, th7, bp7, gPl, gq8, gp72]); (repeat ((first | rw [if_pos (by omega)] | rw [if_neg (by omega)]); (try simp only [gS_1, gS_0, o_1, o_0, i10, i00, n10, n00, if_true, if_false, art7, pl7, th7, bp7, gPl, gq8, gp72]))); first | done | exact pe (by omega) (by omega) | (exfalso; omega)), (by omega)⟩
        · refine y_aload_n rfl rfl ?_
          have w43 : Xi U1 876 7 = Xi S 876 7 := (show Xi U1 876 7 = Xi S 876 7 from by rw [eU1]; exact Xi_ne (by omega))
          refine y_callV rfl rfl rfl (t_gr_takeThing__p hHU1 (by first | assumption | exact (NFR_FR hFU1 rfl rfl (by assumption : NFR S))) (by first | assumption | omega) (by first | assumption | omega) _) ?_
          rintro _ T6 ⟨hHT6, w47, z46, rfl, w46, w44, w45⟩
          have hFT6 : FR md_gr_takePlace__p S T6 := FR.tr hFU1 w47 rfl
          show Pl _ _ _ _ _ _ [iv z46] _ _
          have gp65 := w44
          rw [FRT hFU1 rfl rfl] at gp65
          try rw [show Xi U1 890 1 = ((Xi S 890 1) + 1) by omega] at gp65
          clear w44
          refine y_goto rfl rfl ?_
          refine y_ireturn rfl (retI_z (by omega)) ?_
          have w48 : Xi T6 876 7 = Xi S 876 7 := (show Xi T6 876 7 = Xi U1 876 7 from w47.x _ _ rfl).trans ((show Xi U1 876 7 = Xi S 876 7 from by rw [eU1]; exact Xi_ne (by omega)))
          exact ⟨hHT6, hFT6, _, rfl, ⟨by omega, by omega⟩, (by (first | rw [show z46 = 1 by omega] at gp65 | rw [show z46 = 0 by omega] at gp65 | skip); (try simp only [gS_1, gS_0, o_1, o_0, i10, i00, n10, n00, if_true, if_false, art7, pl7, th7, bp7, gPl, gq8, gp65]); (repeat ((first | rw [if_pos (by omega)] | rw [if_neg (by omega)]); (try simp only [gS_1, gS_0, o_1, o_0, i10, i00, n10, n00, if_true, if_false, art7, pl7, th7, bp7, gPl, gq8, gp65]))); first | done | exact pe (by omega) (by omega) | (exfalso; omega)), (by omega)⟩
      · refine y_aload_n rfl rfl ?_
        refine y_bipush rfl rfl ?_
        have w49 : Xi U1 876 7 = Xi S 876 7 := (show Xi U1 876 7 = Xi S 876 7 from by rw [eU1]; exact Xi_ne (by omega))
        refine y_callV rfl rfl rfl (t_gr_take__p hHU1 10 ⟨by omega, by omega⟩ (by first | assumption | exact (NFR_FR hFU1 rfl rfl (by assumption : NFR S))) (by first | assumption | omega) (by first | assumption | omega) _) ?_
        rintro _ T7 ⟨hHT7, w53, z52, rfl, w52, w50, w51⟩
        have hFT7 : FR md_gr_takePlace__p S T7 := FR.tr hFU1 w53 rfl
        show Pl _ _ _ _ _ _ [iv z52] _ _
        have gp52 := w50
        rw [FRT hFU1 rfl rfl] at gp52
        try rw [show Xi U1 890 1 = ((Xi S 890 1) + 1) by omega] at gp52
        clear w50
        refine y_if_ne rfl rfl (by unfold rg; omega) (fun w54 => ?_) (fun w55 => ?_)
        · rw [show z52 = 1 by omega] at gp52
          refine y_iload_n rfl rfl ?_
          refine y_if_eq rfl rfl (by unfold rg; omega) (fun w56 => ?_) (fun w57 => ?_)
          · refine y_aload_n rfl rfl ?_
            have w58 : Xi T7 876 7 = Xi S 876 7 := (show Xi T7 876 7 = Xi U1 876 7 from w53.x _ _ rfl).trans ((show Xi U1 876 7 = Xi S 876 7 from by rw [eU1]; exact Xi_ne (by omega)))
            refine y_callV rfl rfl rfl (t_gr_takeName__p hHT7 (by first | assumption | exact (NFR_FR hFT7 rfl rfl (by assumption : NFR S))) (by first | assumption | omega) (by first | assumption | omega) _) ?_
            rintro _ T8 ⟨hHT8, w62, z61, rfl, w61, w59, w60⟩
            have hFT8 : FR md_gr_takePlace__p S T8 := FR.tr hFT7 w62 rfl
            show Pl _ _ _ _ _ _ [iv z61] _ _
            have gp72 := w59
            rw [FRT hFT7 rfl rfl] at gp72
            clear w59
            refine y_ireturn rfl (retI_z (by omega)) ?_
            have w63 : Xi T8 876 7 = Xi S 876 7 := (show Xi T8 876 7 = Xi T7 876 7 from w62.x _ _ rfl).trans ( (show Xi T7 876 7 = Xi U1 876 7 from w53.x _ _ rfl).trans ((show Xi U1 876 7 = Xi S 876 7 from by rw [eU1]; exact Xi_ne (by omega))))
            exact ⟨hHT8, hFT8, _, rfl, ⟨by omega, by omega⟩, (by (first | rw [show z61 = 1 by omega] at gp72 | rw [show z61 = 0 by omega] at gp72 | skip); (try simp only [gS_1, gS_0, o_1, o_0, i10, i00, n10, n00, if_true, if_false, art7, pl7, th7, bp7, gPl, gq8, gp52, gp72]); (repeat ((first | rw [if_pos (by omega)] | rw [if_neg (by omega)]); (try simp only [gS_1, gS_0, o_1, o_0, i10, i00, n10, n00, if_true, if_false, art7, pl7, th7, bp7, gPl, gq8, gp52, gp72]))); first | done | exact pe (by omega) (by omega) | (exfalso; omega)), (by omega)⟩
          · refine y_aload_n rfl rfl ?_
            have w64 : Xi T7 876 7 = Xi S 876 7 := (show Xi T7 876 7 = Xi U1 876 7 from w53.x _ _ rfl).trans ((show Xi U1 876 7 = Xi S 876 7 from by rw [eU1]; exact Xi_ne (by omega)))
            refine y_callV rfl rfl rfl (t_gr_takeThing__p hHT7 (by first | assumption | exact (NFR_FR hFT7 rfl rfl (by assumption : NFR S))) (by first | assumption | omega) (by first | assumption | omega) _) ?_
            rintro _ T9 ⟨hHT9, w68, z67, rfl, w67, w65, w66⟩
            have hFT9 : FR md_gr_takePlace__p S T9 := FR.tr hFT7 w68 rfl
            show Pl _ _ _ _ _ _ [iv z67] _ _
            have gp65 := w65
            rw [FRT hFT7 rfl rfl] at gp65
            clear w65
            refine y_goto rfl rfl ?_
            refine y_ireturn rfl (retI_z (by omega)) ?_
            have w69 : Xi T9 876 7 = Xi S 876 7 := (show Xi T9 876 7 = Xi T7 876 7 from w68.x _ _ rfl).trans ( (show Xi T7 876 7 = Xi U1 876 7 from w53.x _ _ rfl).trans ((show Xi U1 876 7 = Xi S 876 7 from by rw [eU1]; exact Xi_ne (by omega))))
            exact ⟨hHT9, hFT9, _, rfl, ⟨by omega, by omega⟩, (by (first | rw [show z67 = 1 by omega] at gp65 | rw [show z67 = 0 by omega] at gp65 | skip); (try simp only [gS_1, gS_0, o_1, o_0, i10, i00, n10, n00, if_true, if_false, art7, pl7, th7, bp7, gPl, gq8, gp52, gp65]); (repeat ((first | rw [if_pos (by omega)] | rw [if_neg (by omega)]); (try simp only [gS_1, gS_0, o_1, o_0, i10, i00, n10, n00, if_true, if_false, art7, pl7, th7, bp7, gPl, gq8, gp52, gp65]))); first | done | exact pe (by omega) (by omega) | (exfalso; omega)), (by omega)⟩
        · rw [show z52 = 0 by omega] at gp52
          refine y_iconst rfl ?_
          refine y_ireturn rfl rfl ?_
          have w70 : Xi T7 876 7 = Xi S 876 7 := (show Xi T7 876 7 = Xi U1 876 7 from w53.x _ _ rfl).trans ((show Xi U1 876 7 = Xi S 876 7 from by rw [eU1]; exact Xi_ne (by omega)))
          exact ⟨hHT7, hFT7, _, rfl, ⟨by omega, by omega⟩, (by (try simp only [gS_1, gS_0, o_1, o_0, i10, i00, n10, n00, if_true, if_false, art7, pl7, th7, bp7, gPl, gq8, gp52]); (repeat ((first | rw [if_pos (by omega)] | rw [if_neg (by omega)]); (try simp only [gS_1, gS_0, o_1, o_0, i10, i00, n10, n00, if_true, if_false, art7, pl7, th7, bp7, gPl, gq8, gp52]))); first | done | exact pe (by omega) (by omega) | (exfalso; omega)), (by omega)⟩
  · refine y_aload_n rfl rfl ?_
    refine y_bipush rfl rfl ?_
    have w71 : Xi U1 876 7 = Xi S 876 7 := (show Xi U1 876 7 = Xi S 876 7 from by rw [eU1]; exact Xi_ne (by omega))
    refine y_callV rfl rfl rfl (t_gr_take__p hHU1 7 ⟨by omega, by omega⟩ (by first | assumption | exact (NFR_FR hFU1 rfl rfl (by assumption : NFR S))) (by first | assumption | omega) (by first | assumption | omega) _) ?_
    rintro _ T10 ⟨hHT10, w75, z74, rfl, w74, w72, w73⟩
    have hFT10 : FR md_gr_takePlace__p S T10 := FR.tr hFU1 w75 rfl
    show Pl _ _ _ _ _ _ [iv z74] _ _
    have gp31 := w72
    rw [FRT hFU1 rfl rfl] at gp31
    try rw [show Xi U1 890 1 = ((Xi S 890 1) + 1) by omega] at gp31
    clear w72
    refine y_if_eq rfl rfl (by unfold rg; omega) (fun w76 => ?_) (fun w77 => ?_)
    · rw [show z74 = 0 by omega] at gp31
      refine y_iconst rfl ?_
      refine y_ireturn rfl rfl ?_
      have w78 : Xi T10 876 7 = Xi S 876 7 := (show Xi T10 876 7 = Xi U1 876 7 from w75.x _ _ rfl).trans ((show Xi U1 876 7 = Xi S 876 7 from by rw [eU1]; exact Xi_ne (by omega)))
      exact ⟨hHT10, hFT10, _, rfl, ⟨by omega, by omega⟩, (by (try simp only [gS_1, gS_0, o_1, o_0, i10, i00, n10, n00, if_true, if_false, art7, pl7, th7, bp7, gPl, gq8, gp31]); (repeat ((first | rw [if_pos (by omega)] | rw [if_neg (by omega)]); (try simp only [gS_1, gS_0, o_1, o_0, i10, i00, n10, n00, if_true, if_false, art7, pl7, th7, bp7, gPl, gq8, gp31]))); first | done | exact pe (by omega) (by omega) | (exfalso; omega)), (by omega)⟩
    · rw [show z74 = 1 by omega] at gp31
      refine y_iload_n rfl rfl ?_
      refine y_bipush rfl rfl ?_
      refine y_icmp_eq rfl rfl (by unfold rg; omega) (by unfold rg; omega) (fun w79 => ?_) (fun w80 => ?_)
      · refine y_aload_n rfl rfl ?_
        refine y_bipush rfl rfl ?_
        have w81 : Xi T10 876 7 = Xi S 876 7 := (show Xi T10 876 7 = Xi U1 876 7 from w75.x _ _ rfl).trans ((show Xi U1 876 7 = Xi S 876 7 from by rw [eU1]; exact Xi_ne (by omega)))
        refine y_callV rfl rfl rfl (t_gr_take__p hHT10 10 ⟨by omega, by omega⟩ (by first | assumption | exact (NFR_FR hFT10 rfl rfl (by assumption : NFR S))) (by first | assumption | omega) (by first | assumption | omega) _) ?_
        rintro _ T11 ⟨hHT11, w85, z84, rfl, w84, w82, w83⟩
        have hFT11 : FR md_gr_takePlace__p S T11 := FR.tr hFT10 w85 rfl
        show Pl _ _ _ _ _ _ [iv z84] _ _
        have gp52 := w82
        rw [FRT hFT10 rfl rfl] at gp52
        clear w82
        refine y_if_ne rfl rfl (by unfold rg; omega) (fun w86 => ?_) (fun w87 => ?_)
        · rw [show z84 = 1 by omega] at gp52
          refine y_iload_n rfl rfl ?_
          refine y_if_eq rfl rfl (by unfold rg; omega) (fun w88 => ?_) (fun w89 => ?_)
          · refine y_aload_n rfl rfl ?_
            have w90 : Xi T11 876 7 = Xi S 876 7 := (show Xi T11 876 7 = Xi T10 876 7 from w85.x _ _ rfl).trans ( (show Xi T10 876 7 = Xi U1 876 7 from w75.x _ _ rfl).trans ((show Xi U1 876 7 = Xi S 876 7 from by rw [eU1]; exact Xi_ne (by omega))))
            refine y_callV rfl rfl rfl (t_gr_takeName__p hHT11 (by first | assumption | exact (NFR_FR hFT11 rfl rfl (by assumption : NFR S))) (by first | assumption | omega) (by first | assumption | omega) _) ?_
            rintro _ T12 ⟨hHT12, w94, z93, rfl, w93, w91, w92⟩
            have hFT12 : FR md_gr_takePlace__p S T12 := FR.tr hFT11 w94 rfl
            show Pl _ _ _ _ _ _ [iv z93] _ _
            have gp72 := w91
            rw [FRT hFT11 rfl rfl] at gp72
            clear w91
            refine y_ireturn rfl (retI_z (by omega)) ?_
            have w95 : Xi T12 876 7 = Xi S 876 7 := (show Xi T12 876 7 = Xi T11 876 7 from w94.x _ _ rfl).trans ( (show Xi T11 876 7 = Xi T10 876 7 from w85.x _ _ rfl).trans ( (show Xi T10 876 7 = Xi U1 876 7 from w75.x _ _ rfl).trans ((show Xi U1 876 7 = Xi S 876 7 from by rw [eU1]; exact Xi_ne (by omega)))))
            exact ⟨hHT12, hFT12, _, rfl, ⟨by omega, by omega⟩, (by (first | rw [show z93 = 1 by omega] at gp72 | rw [show z93 = 0 by omega] at gp72 | skip); (try simp only [gS_1, gS_0, o_1, o_0, i10, i00, n10, n00, if_true, if_false, art7, pl7, th7, bp7, gPl, gq8, gp31, gp52, gp72]); (repeat ((first | rw [if_pos (by omega)] | rw [if_neg (by omega)]); (try simp only [gS_1, gS_0, o_1, o_0, i10, i00, n10, n00, if_true, if_false, art7, pl7, th7, bp7, gPl, gq8, gp31, gp52, gp72]))); first | done | exact pe (by omega) (by omega) | (exfalso; omega)), (by omega)⟩
          · refine y_aload_n rfl rfl ?_
            have w96 : Xi T11 876 7 = Xi S 876 7 := (show Xi T11 876 7 = Xi T10 876 7 from w85.x _ _ rfl).trans ( (show Xi T10 876 7 = Xi U1 876 7 from w75.x _ _ rfl).trans ((show Xi U1 876 7 = Xi S 876 7 from by rw [eU1]; exact Xi_ne (by omega))))
            refine y_callV rfl rfl rfl (t_gr_takeThing__p hHT11 (by first | assumption | exact (NFR_FR hFT11 rfl rfl (by assumption : NFR S))) (by first | assumption | omega) (by first | assumption | omega) _) ?_
            rintro _ T13 ⟨hHT13, w100, z99, rfl, w99, w97, w98⟩
            have hFT13 : FR md_gr_takePlace__p S T13 := FR.tr hFT11 w100 rfl
            show Pl _ _ _ _ _ _ [iv z99] _ _
            have gp65 := w97
            rw [FRT hFT11 rfl rfl] at gp65
            clear w97
            refine y_goto rfl rfl ?_
            refine y_ireturn rfl (retI_z (by omega)) ?_
            have w101 : Xi T13 876 7 = Xi S 876 7 := (show Xi T13 876 7 = Xi T11 876 7 from w100.x _ _ rfl).trans ( (show Xi T11 876 7 = Xi T10 876 7 from w85.x _ _ rfl).trans ( (show Xi T10 876 7 = Xi U1 876 7 from w75.x _ _ rfl).trans ((show Xi U1 876 7 = Xi S 876 7 from by rw [eU1]; exact Xi_ne (by omega)))))
            exact ⟨hHT13, hFT13, _, rfl, ⟨by omega, by omega⟩, (by (first | rw [show z99 = 1 by omega] at gp65 | rw [show z99 = 0 by omega] at gp65 | skip); (try simp only [gS_1, gS_0, o_1, o_0, i10, i00, n10, n00, if_true, if_false, art7, pl7, th7, bp7, gPl, gq8, gp31, gp52, gp65]); (repeat ((first | rw [if_pos (by omega)] | rw [if_neg (by omega)]); (try simp only [gS_1, gS_0, o_1, o_0, i10, i00, n10, n00, if_true, if_false, art7, pl7, th7, bp7, gPl, gq8, gp31, gp52, gp65]))); first | done | exact pe (by omega) (by omega) | (exfalso; omega)), (by omega)⟩
        · rw [show z84 = 0 by omega] at gp52
          refine y_iconst rfl ?_
          refine y_ireturn rfl rfl ?_
          have w102 : Xi T11 876 7 = Xi S 876 7 := (show Xi T11 876 7 = Xi T10 876 7 from w85.x _ _ rfl).trans ( (show Xi T10 876 7 = Xi U1 876 7 from w75.x _ _ rfl).trans ((show Xi U1 876 7 = Xi S 876 7 from by rw [eU1]; exact Xi_ne (by omega))))
          exact ⟨hHT11, hFT11, _, rfl, ⟨by omega, by omega⟩, (by (try simp only [gS_1, gS_0, o_1, o_0, i10, i00, n10, n00, if_true, if_false, art7, pl7, th7, bp7, gPl, gq8, gp31, gp52]); (repeat ((first | rw [if_pos (by omega)] | rw [if_neg (by omega)]); (try simp only [gS_1, gS_0, o_1, o_0, i10, i00, n10, n00, if_true, if_false, art7, pl7, th7, bp7, gPl, gq8, gp31, gp52]))); first | done | exact pe (by omega) (by omega) | (exfalso; omega)), (by omega)⟩
      · refine y_iload_n rfl rfl ?_
        refine y_bipush rfl rfl ?_
        refine y_icmp_ne rfl rfl (by unfold rg; omega) (by unfold rg; omega) (fun w103 => ?_) (fun w104 => ?_)
        · refine y_iload_n rfl rfl ?_
          refine y_if_eq rfl rfl (by unfold rg; omega) (fun w105 => ?_) (fun w106 => ?_)
          · refine y_aload_n rfl rfl ?_
            have w107 : Xi T10 876 7 = Xi S 876 7 := (show Xi T10 876 7 = Xi U1 876 7 from w75.x _ _ rfl).trans ((show Xi U1 876 7 = Xi S 876 7 from by rw [eU1]; exact Xi_ne (by omega)))
            refine y_callV rfl rfl rfl (t_gr_takeName__p hHT10 (by first | assumption | exact (NFR_FR hFT10 rfl rfl (by assumption : NFR S))) (by first | assumption | omega) (by first | assumption | omega) _) ?_
            rintro _ T14 ⟨hHT14, w111, z110, rfl, w110, w108, w109⟩
            have hFT14 : FR md_gr_takePlace__p S T14 := FR.tr hFT10 w111 rfl
            show Pl _ _ _ _ _ _ [iv z110] _ _
            have gp72 := w108
            rw [FRT hFT10 rfl rfl] at gp72
            clear w108
            refine y_ireturn rfl (retI_z (by omega)) ?_
            have w112 : Xi T14 876 7 = Xi S 876 7 := (show Xi T14 876 7 = Xi T10 876 7 from w111.x _ _ rfl).trans ( (show Xi T10 876 7 = Xi U1 876 7 from w75.x _ _ rfl).trans ((show Xi U1 876 7 = Xi S 876 7 from by rw [eU1]; exact Xi_ne (by omega))))
            exact ⟨hHT14, hFT14, _, rfl, ⟨by omega, by omega⟩, (by (first | rw [show z110 = 1 by omega] at gp72 | rw [show z110 = 0 by omega] at gp72 | skip); (try simp only [gS_1, gS_0, o_1, o_0, i10, i00, n10, n00, if_true, if_false, art7, pl7, th7, bp7, gPl, gq8, gp31, gp72]); (repeat ((first | rw [if_pos (by omega)] | rw [if_neg (by omega)]); (try simp only [gS_1, gS_0, o_1, o_0, i10, i00, n10, n00, if_true, if_false, art7, pl7, th7, bp7, gPl, gq8, gp31, gp72]))); first | done | exact pe (by omega) (by omega) | (exfalso; omega)), (by omega)⟩
          · refine y_aload_n rfl rfl ?_
            have w113 : Xi T10 876 7 = Xi S 876 7 := (show Xi T10 876 7 = Xi U1 876 7 from w75.x _ _ rfl).trans ((show Xi U1 876 7 = Xi S 876 7 from by rw [eU1]; exact Xi_ne (by omega)))
            refine y_callV rfl rfl rfl (t_gr_takeThing__p hHT10 (by first | assumption | exact (NFR_FR hFT10 rfl rfl (by assumption : NFR S))) (by first | assumption | omega) (by first | assumption | omega) _) ?_
            rintro _ T15 ⟨hHT15, w117, z116, rfl, w116, w114, w115⟩
            have hFT15 : FR md_gr_takePlace__p S T15 := FR.tr hFT10 w117 rfl
            show Pl _ _ _ _ _ _ [iv z116] _ _
            have gp65 := w114
            rw [FRT hFT10 rfl rfl] at gp65
            clear w114
            refine y_goto rfl rfl ?_
            refine y_ireturn rfl (retI_z (by omega)) ?_
            have w118 : Xi T15 876 7 = Xi S 876 7 := (show Xi T15 876 7 = Xi T10 876 7 from w117.x _ _ rfl).trans ( (show Xi T10 876 7 = Xi U1 876 7 from w75.x _ _ rfl).trans ((show Xi U1 876 7 = Xi S 876 7 from by rw [eU1]; exact Xi_ne (by omega))))
            exact ⟨hHT15, hFT15, _, rfl, ⟨by omega, by omega⟩, (by (first | rw [show z116 = 1 by omega] at gp65 | rw [show z116 = 0 by omega] at gp65 | skip); (try simp only [gS_1, gS_0, o_1, o_0, i10, i00, n10, n00, if_true, if_false, art7, pl7, th7, bp7, gPl, gq8, gp31, gp65]); (repeat ((first | rw [if_pos (by omega)] | rw [if_neg (by omega)]); (try simp only [gS_1, gS_0, o_1, o_0, i10, i00, n10, n00, if_true, if_false, art7, pl7, th7, bp7, gPl, gq8, gp31, gp65]))); first | done | exact pe (by omega) (by omega) | (exfalso; omega)), (by omega)⟩
        · refine y_aload_n rfl rfl ?_
          refine y_bipush rfl rfl ?_
          have w119 : Xi T10 876 7 = Xi S 876 7 := (show Xi T10 876 7 = Xi U1 876 7 from w75.x _ _ rfl).trans ((show Xi U1 876 7 = Xi S 876 7 from by rw [eU1]; exact Xi_ne (by omega)))
          refine y_callV rfl rfl rfl (t_gr_take__p hHT10 10 ⟨by omega, by omega⟩ (by first | assumption | exact (NFR_FR hFT10 rfl rfl (by assumption : NFR S))) (by first | assumption | omega) (by first | assumption | omega) _) ?_
          rintro _ T16 ⟨hHT16, w123, z122, rfl, w122, w120, w121⟩
          have hFT16 : FR md_gr_takePlace__p S T16 := FR.tr hFT10 w123 rfl
          show Pl _ _ _ _ _ _ [iv z122] _ _
          have gp52 := w120
          rw [FRT hFT10 rfl rfl] at gp52
          clear w120
          refine y_if_ne rfl rfl (by unfold rg; omega) (fun w124 => ?_) (fun w125 => ?_)
          · rw [show z122 = 1 by omega] at gp52
            refine y_iload_n rfl rfl ?_
            refine y_if_eq rfl rfl (by unfold rg; omega) (fun w126 => ?_) (fun w127 => ?_)
            · refine y_aload_n rfl rfl ?_
              have w128 : Xi T16 876 7 = Xi S 876 7 := (show Xi T16 876 7 = Xi T10 876 7 from w123.x _ _ rfl).trans ( (show Xi T10 876 7 = Xi U1 876 7 from w75.x _ _ rfl).trans ((show Xi U1 876 7 = Xi S 876 7 from by rw [eU1]; exact Xi_ne (by omega))))
              refine y_callV rfl rfl rfl (t_gr_takeName__p hHT16 (by first | assumption | exact (NFR_FR hFT16 rfl rfl (by assumption : NFR S))) (by first | assumption | omega) (by first | assumption | omega) _) ?_
              rintro _ T17 ⟨hHT17, w132, z131, rfl, w131, w129, w130⟩
              have hFT17 : FR md_gr_takePlace__p S T17 := FR.tr hFT16 w132 rfl
              show Pl _ _ _ _ _ _ [iv z131] _ _
              have gp72 := w129
              rw [FRT hFT16 rfl rfl] at gp72
              clear w129
              refine y_ireturn rfl (retI_z (by omega)) ?_
              have w133 : Xi T17 876 7 = Xi S 876 7 := (show Xi T17 876 7 = Xi T16 876 7 from w132.x _ _ rfl).trans ( (show Xi T16 876 7 = Xi T10 876 7 from w123.x _ _ rfl).trans ( (show Xi T10 876 7 = Xi U1 876 7 from w75.x _ _ rfl).trans ((show Xi U1 876 7 = Xi S 876 7 from by rw [eU1]; exact Xi_ne (by omega)))))
              exact ⟨hHT17, hFT17, _, rfl, ⟨by omega, by omega⟩, (by (first | rw [show z131 = 1 by omega] at gp72 | rw [show z131 = 0 by omega] at gp72 | skip); (try simp only [gS_1, gS_0, o_1, o_0, i10, i00, n10, n00, if_true, if_false, art7, pl7, th7, bp7, gPl, gq8, gp31, gp52, gp72]); (repeat ((first | rw [if_pos (by omega)] | rw [if_neg (by omega)]); (try simp only [gS_1, gS_0, o_1, o_0, i10, i00, n10, n00, if_true, if_false, art7, pl7, th7, bp7, gPl, gq8, gp31, gp52, gp72]))); first | done | exact pe (by omega) (by omega) | (exfalso; omega)), (by omega)⟩
            · refine y_aload_n rfl rfl ?_
              have w134 : Xi T16 876 7 = Xi S 876 7 := (show Xi T16 876 7 = Xi T10 876 7 from w123.x _ _ rfl).trans ( (show Xi T10 876 7 = Xi U1 876 7 from w75.x _ _ rfl).trans ((show Xi U1 876 7 = Xi S 876 7 from by rw [eU1]; exact Xi_ne (by omega))))
              refine y_callV rfl rfl rfl (t_gr_takeThing__p hHT16 (by first | assumption | exact (NFR_FR hFT16 rfl rfl (by assumption : NFR S))) (by first | assumption | omega) (by first | assumption | omega) _) ?_
              rintro _ T18 ⟨hHT18, w138, z137, rfl, w137, w135, w136⟩
              have hFT18 : FR md_gr_takePlace__p S T18 := FR.tr hFT16 w138 rfl
              show Pl _ _ _ _ _ _ [iv z137] _ _
              have gp65 := w135
              rw [FRT hFT16 rfl rfl] at gp65
              clear w135
              refine y_goto rfl rfl ?_
              refine y_ireturn rfl (retI_z (by omega)) ?_
              have w139 : Xi T18 876 7 = Xi S 876 7 := (show Xi T18 876 7 = Xi T16 876 7 from w138.x _ _ rfl).trans ( (show Xi T16 876 7 = Xi T10 876 7 from w123.x _ _ rfl).trans ( (show Xi T10 876 7 = Xi U1 876 7 from w75.x _ _ rfl).trans ((show Xi U1 876 7 = Xi S 876 7 from by rw [eU1]; exact Xi_ne (by omega)))))
              exact ⟨hHT18, hFT18, _, rfl, ⟨by omega, by omega⟩, (by (first | rw [show z137 = 1 by omega] at gp65 | rw [show z137 = 0 by omega] at gp65 | skip); (try simp only [gS_1, gS_0, o_1, o_0, i10, i00, n10, n00, if_true, if_false, art7, pl7, th7, bp7, gPl, gq8, gp31, gp52, gp65]); (repeat ((first | rw [if_pos (by omega)] | rw [if_neg (by omega)]); (try simp only [gS_1, gS_0, o_1, o_0, i10, i00, n10, n00, if_true, if_false, art7, pl7, th7, bp7, gPl, gq8, gp31, gp52, gp65]))); first | done | exact pe (by omega) (by omega) | (exfalso; omega)), (by omega)⟩
          · rw [show z122 = 0 by omega] at gp52
            refine y_iconst rfl ?_
            refine y_ireturn rfl rfl ?_
            have w140 : Xi T16 876 7 = Xi S 876 7 := (show Xi T16 876 7 = Xi T10 876 7 from w123.x _ _ rfl).trans ( (show Xi T10 876 7 = Xi U1 876 7 from w75.x _ _ rfl).trans ((show Xi U1 876 7 = Xi S 876 7 from by rw [eU1]; exact Xi_ne (by omega))))
            exact ⟨hHT16, hFT16, _, rfl, ⟨by omega, by omega⟩, (by (try simp only [gS_1, gS_0, o_1, o_0, i10, i00, n10, n00, if_true, if_false, art7, pl7, th7, bp7, gPl, gq8, gp31, gp52]); (repeat ((first | rw [if_pos (by omega)] | rw [if_neg (by omega)]); (try simp only [gS_1, gS_0, o_1, o_0, i10, i00, n10, n00, if_true, if_false, art7, pl7, th7, bp7, gPl, gq8, gp31, gp52]))); first | done | exact pe (by omega) (by omega) | (exfalso; omega)), (by omega)⟩
def md_gr_takeWhat__p : List rec := [(890, 891, 1, 2)]
abbrev Q_gr_takeWhat__p (S : sS) : pst := fun r S1 => RI S1 ∧ FR md_gr_takeWhat__p S S1 ∧ (∃ z : Int, r = some (iv z) ∧ (0 ≤ z ∧ z ≤ 1) ∧ (gWh (ty7 S) (Xi S 890 1) = (z, Xi S1 890 1)) ∧ (Xi S 890 1 ≤ Xi S1 890 1 ∧ Xi S1 890 1 ≤ Xi S 876 7))
set_option maxRecDepth 100000 in
theorem t_gr_takeWhat__p {S : sS} (hH : RI S) (hfr : NFR S) (hr : Xi S 876 7 ≤ 5130) (ha : 0 ≤ Xi S 890 1 ∧ Xi S 890 1 ≤ Xi S 876 7) (d : Nat) : Mp lay0 (d + 3) m_gr_takeWhat [.ref 890] S (Q_gr_takeWhat__p S) := by
  refine Mp_R rfl rfl (fun fu => ?_)
  have hF : FR md_gr_takeWhat__p S S := FR.rf
  have w1 : -2147483648 ≤ Xi S 876 7 ∧ Xi S 876 7 ≤ 2147483647 := Xi_rgI
  have w2 : -2147483648 ≤ Xi S 890 1 ∧ Xi S 890 1 ≤ 2147483647 := Xi_rgI
  refine y_aload_n rfl rfl ?_
  refine y_bipush rfl rfl ?_
  refine y_callV rfl rfl rfl (t_gr_take__p hH 101 ⟨by omega, by omega⟩ (by first | assumption | exact (NFR_FR hF rfl rfl (by assumption : NFR S))) (by first | assumption | omega) (by first | assumption | omega) _) ?_
  rintro _ T1 ⟨hHT1, w6, z5, rfl, w5, w3, w4⟩
  have hFT1 : FR md_gr_takeWhat__p S T1 := FR.tr hF w6 rfl
  show Pl _ _ _ _ _ _ [iv z5] _ _
  have gp3 := w3
  clear w3
  refine y_if_ne rfl rfl (by unfold rg; omega) (fun w7 => ?_) (fun w8 => ?_)
  · rw [show z5 = 1 by omega] at gp3
    refine y_iconst rfl ?_
    refine y_goto rfl rfl ?_
    refine y_ireturn rfl rfl ?_
    have w9 : Xi T1 876 7 = Xi S 876 7 := (show Xi T1 876 7 = Xi S 876 7 from w6.x _ _ rfl)
    exact ⟨hHT1, hFT1, _, rfl, ⟨by omega, by omega⟩, (by (try simp only [gS_1, gS_0, o_1, o_0, i10, i00, n10, n00, if_true, if_false, art7, pl7, th7, bp7, gWh, gp3]); (repeat ((first | rw [if_pos (by omega)] | rw [if_neg (by omega)]); (try simp only [gS_1, gS_0, o_1, o_0, i10, i00, n10, n00, if_true, if_false, art7, pl7, th7, bp7, gWh, gp3]))); first | done | exact pe (by omega) (by omega) | (exfalso; omega)), (by omega)⟩
  · rw [show z5 = 0 by omega] at gp3
    refine y_aload_n rfl rfl ?_
    refine y_bipush rfl rfl ?_
    have w10 : Xi T1 876 7 = Xi S 876 7 := (show Xi T1 876 7 = Xi S 876 7 from w6.x _ _ rfl)
    refine y_callV rfl rfl rfl (t_gr_take__p hHT1 102 ⟨by omega, by omega⟩ (by first | assumption | exact (NFR_FR hFT1 rfl rfl (by assumption : NFR S))) (by first | assumption | omega) (by first | assumption | omega) _) ?_
    rintro _ T2 ⟨hHT2, w14, z13, rfl, w13, w11, w12⟩
    have hFT2 : FR md_gr_takeWhat__p S T2 := FR.tr hFT1 w14 rfl
    show Pl _ _ _ _ _ _ [iv z13] _ _
    have gp12 := w11
    rw [FRT hFT1 rfl rfl] at gp12
    clear w11
    refine y_if_ne rfl rfl (by unfold rg; omega) (fun w15 => ?_) (fun w16 => ?_)
    · rw [show z13 = 1 by omega] at gp12
      refine y_iconst rfl ?_
      refine y_goto rfl rfl ?_
      refine y_ireturn rfl rfl ?_
      have w17 : Xi T2 876 7 = Xi S 876 7 := (show Xi T2 876 7 = Xi T1 876 7 from w14.x _ _ rfl).trans ((show Xi T1 876 7 = Xi S 876 7 from w6.x _ _ rfl))
      exact ⟨hHT2, hFT2, _, rfl, ⟨by omega, by omega⟩, (by (try simp only [gS_1, gS_0, o_1, o_0, i10, i00, n10, n00, if_true, if_false, art7, pl7, th7, bp7, gWh, gp3, gp12]); (repeat ((first | rw [if_pos (by omega)] | rw [if_neg (by omega)]); (try simp only [gS_1, gS_0, o_1, o_0, i10, i00, n10, n00, if_true, if_false, art7, pl7, th7, bp7, gWh, gp3, gp12]))); first | done | exact pe (by omega) (by omega) | (exfalso; omega)), (by omega)⟩
    · rw [show z13 = 0 by omega] at gp12
      refine y_aload_n rfl rfl ?_
      have w18 : Xi T2 876 7 = Xi S 876 7 := (show Xi T2 876 7 = Xi T1 876 7 from w14.x _ _ rfl).trans ((show Xi T1 876 7 = Xi S 876 7 from w6.x _ _ rfl))
      refine y_callV rfl rfl rfl (t_gr_takeRun__p hHT2 (by first | assumption | exact (NFR_FR hFT2 rfl rfl (by assumption : NFR S))) (by first | assumption | omega) (by first | assumption | omega) _) ?_
      rintro _ T3 ⟨hHT3, w22, z21, rfl, w21, w19, w20⟩
      have hFT3 : FR md_gr_takeWhat__p S T3 := FR.tr hFT2 w22 rfl
      show Pl _ _ _ _ _ _ [iv z21] _ _
      have gp19 := w19
      rw [FRT hFT2 rfl rfl] at gp19
      clear w19
      refine y_if_eq rfl rfl (by unfold rg; omega) (fun w23 => ?_) (fun w24 => ?_)
      · rw [show z21 = 0 by omega] at gp19
        refine y_iconst rfl ?_
        refine y_ireturn rfl rfl ?_
        have w25 : Xi T3 876 7 = Xi S 876 7 := (show Xi T3 876 7 = Xi T2 876 7 from w22.x _ _ rfl).trans ( (show Xi T2 876 7 = Xi T1 876 7 from w14.x _ _ rfl).trans ((show Xi T1 876 7 = Xi S 876 7 from w6.x _ _ rfl)))
        exact ⟨hHT3, hFT3, _, rfl, ⟨by omega, by omega⟩, (by (try simp only [gS_1, gS_0, o_1, o_0, i10, i00, n10, n00, if_true, if_false, art7, pl7, th7, bp7, gWh, gp3, gp12, gp19]); (repeat ((first | rw [if_pos (by omega)] | rw [if_neg (by omega)]); (try simp only [gS_1, gS_0, o_1, o_0, i10, i00, n10, n00, if_true, if_false, art7, pl7, th7, bp7, gWh, gp3, gp12, gp19]))); first | done | exact pe (by omega) (by omega) | (exfalso; omega)), (by omega)⟩
      · rw [show z21 = 1 by omega] at gp19
        refine y_iconst rfl ?_
        refine y_goto rfl rfl ?_
        refine y_ireturn rfl rfl ?_
        have w26 : Xi T3 876 7 = Xi S 876 7 := (show Xi T3 876 7 = Xi T2 876 7 from w22.x _ _ rfl).trans ( (show Xi T2 876 7 = Xi T1 876 7 from w14.x _ _ rfl).trans ((show Xi T1 876 7 = Xi S 876 7 from w6.x _ _ rfl)))
        exact ⟨hHT3, hFT3, _, rfl, ⟨by omega, by omega⟩, (by (try simp only [gS_1, gS_0, o_1, o_0, i10, i00, n10, n00, if_true, if_false, art7, pl7, th7, bp7, gWh, gp3, gp12, gp19]); (repeat ((first | rw [if_pos (by omega)] | rw [if_neg (by omega)]); (try simp only [gS_1, gS_0, o_1, o_0, i10, i00, n10, n00, if_true, if_false, art7, pl7, th7, bp7, gWh, gp3, gp12, gp19]))); first | done | exact pe (by omega) (by omega) | (exfalso; omega)), (by omega)⟩
def md_gr_takeLoose__p : List rec := [(890, 891, 1, 2)]
abbrev Q_gr_takeLoose__p (S : sS) (one : Int) (other : Int) : pst := fun r S1 => RI S1 ∧ FR md_gr_takeLoose__p S S1 ∧ (∃ z : Int, r = some (iv z) ∧ (0 ≤ z ∧ z ≤ 1) ∧ (gLo (ty7 S) one other (Xi S 890 1) = (z, Xi S1 890 1)) ∧ (Xi S 890 1 ≤ Xi S1 890 1 ∧ Xi S1 890 1 ≤ Xi S 876 7))
set_option maxRecDepth 100000 in
theorem t_gr_takeLoose__p {S : sS} (hH : RI S) (one : Int) (other : Int) (hone : -2147483648 ≤ one ∧ one ≤ 2147483647) (hother : -2147483648 ≤ other ∧ other ≤ 2147483647) (hfr : NFR S) (hr : Xi S 876 7 ≤ 5130) (ha : 0 ≤ Xi S 890 1 ∧ Xi S 890 1 ≤ Xi S 876 7) (h12 : one ≠ 107 ∧ other ≠ 107) (d : Nat) : Mp lay0 (d + 2) m_gr_takeLoose [.ref 890, iv one, iv other] S (Q_gr_takeLoose__p S one other) := by
  refine Mp_R rfl rfl (fun fu => ?_)
  have hF : FR md_gr_takeLoose__p S S := FR.rf
  have w1 : -2147483648 ≤ Xi S 876 7 ∧ Xi S 876 7 ≤ 2147483647 := Xi_rgI
  have w2 : -2147483648 ≤ Xi S 890 1 ∧ Xi S 890 1 ≤ 2147483647 := Xi_rgI
  have C18 : ∀ (n18 : Nat) (_ : n18 ≤ fu) (T1 : sS) (_ : RI T1) (_ : FR md_gr_takeLoose__p S T1) (v3 : Int) (v4 : Int), (-2147483648 ≤ v3 ∧ v3 ≤ 2147483647) → (-2147483648 ≤ v4 ∧ v4 ≤ 2147483647) → (v3 = Xi S 890 1) → (Xi S 890 1 ≤ Xi T1 890 1 ∧ Xi T1 890 1 ≤ Xi S 876 7) → (v4 ≠ 107 → Xi T1 890 1 < Xi S 876 7) → (gLoF (ty7 S) one other 5000 (Xi S 890 1) = gLoF (ty7 S) one other (5000 - (Xi T1 890 1 - Xi S 890 1)).toNat (Xi T1 890 1)) → (ty7 S (Xi T1 890 1) = v4) → Pl n18 lay0 (d + 1) m_gr_takeLoose 18 [(0, .ref 890), (1, iv one), (2, iv other), (3, iv v3), (4, iv v4)] [] T1 (Q_gr_takeLoose__p S one other) := by
    intro n18
    induction n18 with
    | zero => intros; exact Pl_0
    | succ n18 ih18 =>
      intro hm18 T1 hHT1 hFT1 v3 v4 w3 w4 w5 w6 g18 o18 q18
      have w7 : Xi T1 876 7 = Xi S 876 7 := hFT1.x _ _ rfl
      have w8 : -2147483648 ≤ Xi T1 876 7 ∧ Xi T1 876 7 ≤ 2147483647 := Xi_rgI
      have w9 : -2147483648 ≤ Xi T1 890 1 ∧ Xi T1 890 1 ≤ 2147483647 := Xi_rgI
      refine ys_aload_n rfl rfl ?_
      refine y_gfi rfl rfl rfl rfl rfl ?_
      refine y_iload_n rfl rfl ?_
      refine y_sipush rfl rfl ?_
      refine y_iadd rfl ?_
      refine y_icmp_ge rfl rfl (by unfold rg; omega) (by unfold rg; omega) (fun w10 => ?_) (fun w11 => ?_)
      · refine y_aload_n rfl rfl ?_
        refine y_gfi rfl rfl rfl rfl rfl ?_
        refine y_iload_n rfl rfl ?_
        refine y_icmp_le rfl rfl (by unfold rg; omega) (by unfold rg; omega) (fun w12 => ?_) (fun w13 => ?_)
        · refine y_iconst rfl ?_
          refine y_ireturn rfl rfl ?_
          exact ⟨hHT1, hFT1, _, rfl, ⟨by omega, by omega⟩, (by rw [gLo_of (o18.trans (lo_n (by first | exact Or.inl (by omega) | exact Or.inr (by rw [q18]; unfold art7; omega))))]; first | (rw [if_pos (by omega)]; done) | (rw [if_neg (by omega)]; done) | (rw [if_pos (by omega)]; exact pe rfl (by omega)) | (rw [if_neg (by omega)]; exact pe rfl (by omega))), (by omega)⟩
        · refine y_iconst rfl ?_
          refine y_goto rfl rfl ?_
          refine y_ireturn rfl rfl ?_
          exact ⟨hHT1, hFT1, _, rfl, ⟨by omega, by omega⟩, (by rw [gLo_of (o18.trans (lo_n (by first | exact Or.inl (by omega) | exact Or.inr (by rw [q18]; unfold art7; omega))))]; first | (rw [if_pos (by omega)]; done) | (rw [if_neg (by omega)]; done) | (rw [if_pos (by omega)]; exact pe rfl (by omega)) | (rw [if_neg (by omega)]; exact pe rfl (by omega))), (by omega)⟩
      · refine y_iload rfl rfl ?_
        refine y_bipush rfl rfl ?_
        refine y_icmp_eq rfl rfl (by unfold rg; omega) (by unfold rg; omega) (fun w14 => ?_) (fun w15 => ?_)
        · refine y_aload_n rfl rfl ?_
          refine y_dup rfl rfl ?_
          refine y_gfi rfl rfl rfl rfl rfl ?_
          refine y_iconst rfl ?_
          refine y_iadd rfl ?_
          refine y_pfi rfl rfl rfl rfl ?_
          obtain ⟨U2, eU2⟩ : ∃ T : sS, T = uI T1 890 1 (Int32.ofInt ((Xi T1 890 1) + 1)) := ⟨_, rfl⟩
          rw [← eU2]
          have hHU2 : RI U2 := by rw [eU2]; exact RI_w hHT1
          have hFU2 : FR md_gr_takeLoose__p S U2 := by rw [eU2]; exact FR.wI hFT1 (mdf_i (r := (890, 891, 1, 2)) (List.mem_of_getElem? (i := 0) rfl) (inR_i (by omega) (by omega) (by omega) (by omega)))
          have w16 : Xi U2 890 1 = ((Xi T1 890 1) + 1) := by rw [eU2]; exact Xi_same (by unfold rg; omega)
          refine y_aload_n rfl rfl ?_
          refine y_gfr rfl rfl rfl rfl rfl (hHU2.r 890 0 876 rfl) ?_
          refine y_aload_n rfl rfl ?_
          refine y_gfi rfl rfl rfl rfl rfl ?_
          have w17 : Xi U2 876 7 = Xi T1 876 7 := (show Xi U2 876 7 = Xi T1 876 7 from by rw [eU2]; exact Xi_ne (by omega))
          refine y_callV rfl rfl rfl (t_to_typeAt__p hHU2 (Xi U2 890 1) ⟨by omega, by omega⟩ _) ?_
          rintro _ _ ⟨rfl, z20, rfl, w20, w18, w19⟩
          show Pl _ _ _ _ _ _ [iv z20] _ _
          have gq75 := w18
          rw [FRT hFU2 rfl rfl] at gq75
          try rw [show Xi U2 890 1 = ((Xi T1 890 1) + 1) by omega] at gq75
          try rw [show (Xi U2 890 1) = ((Xi T1 890 1) + 1) by omega] at gq75
          clear w18
          refine y_istore rfl rfl rfl ?_
          refine y_goto rfl rfl ?_
          exact Pl_weak (ih18 (by omega) U2 hHU2 hFU2 (v3) (z20) (by omega) (by omega) (by omega) (by omega) (by omega) (by first | exact lo_0 | (rw [show Xi U2 890 1 = Xi T1 890 1 + 1 by omega]; exact o18.trans (lo_s (by omega) (by omega) (by rw [q18]; unfold art7; omega)))) (by first | exact gq13 | (rw [show Xi U2 890 1 = Xi T1 890 1 + 1 by omega]; exact gq75))) (by omega) (And.intro rfl (And.intro rfl (And.intro rfl (And.intro rfl (And.intro rfl (True.intro))))))
        · refine y_iload rfl rfl ?_
          refine y_callS rfl rfl (by decide) rfl (t_rs_isArt__p hHT1 v4 ⟨by omega, by omega⟩ _) ?_
          rintro _ _ ⟨rfl, z24, rfl, w24, w22, w23⟩
          show Pl _ _ _ _ _ _ [iv z24] _ _
          refine y_if_ne rfl rfl (by unfold rg; omega) (fun w25 => ?_) (fun w26 => ?_)
          · refine y_aload_n rfl rfl ?_
            refine y_dup rfl rfl ?_
            refine y_gfi rfl rfl rfl rfl rfl ?_
            refine y_iconst rfl ?_
            refine y_iadd rfl ?_
            refine y_pfi rfl rfl rfl rfl ?_
            obtain ⟨U3, eU3⟩ : ∃ T : sS, T = uI T1 890 1 (Int32.ofInt ((Xi T1 890 1) + 1)) := ⟨_, rfl⟩
            rw [← eU3]
            have hHU3 : RI U3 := by rw [eU3]; exact RI_w hHT1
            have hFU3 : FR md_gr_takeLoose__p S U3 := by rw [eU3]; exact FR.wI hFT1 (mdf_i (r := (890, 891, 1, 2)) (List.mem_of_getElem? (i := 0) rfl) (inR_i (by omega) (by omega) (by omega) (by omega)))
            have w27 : Xi U3 890 1 = ((Xi T1 890 1) + 1) := by rw [eU3]; exact Xi_same (by unfold rg; omega)
            refine y_aload_n rfl rfl ?_
            refine y_gfr rfl rfl rfl rfl rfl (hHU3.r 890 0 876 rfl) ?_
            refine y_aload_n rfl rfl ?_
            refine y_gfi rfl rfl rfl rfl rfl ?_
            have w28 : Xi U3 876 7 = Xi T1 876 7 := (show Xi U3 876 7 = Xi T1 876 7 from by rw [eU3]; exact Xi_ne (by omega))
            refine y_callV rfl rfl rfl (t_to_typeAt__p hHU3 (Xi U3 890 1) ⟨by omega, by omega⟩ _) ?_
            rintro _ _ ⟨rfl, z31, rfl, w31, w29, w30⟩
            show Pl _ _ _ _ _ _ [iv z31] _ _
            have gq75 := w29
            rw [FRT hFU3 rfl rfl] at gq75
            try rw [show Xi U3 890 1 = ((Xi T1 890 1) + 1) by omega] at gq75
            try rw [show (Xi U3 890 1) = ((Xi T1 890 1) + 1) by omega] at gq75
            clear w29
            refine y_istore rfl rfl rfl ?_
            refine y_goto rfl rfl ?_
            exact Pl_weak (ih18 (by omega) U3 hHU3 hFU3 (v3) (z31) (by omega) (by omega) (by omega) (by omega) (by omega) (by first | exact lo_0 | (rw [show Xi U3 890 1 = Xi T1 890 1 + 1 by omega]; exact o18.trans (lo_s (by omega) (by omega) (by rw [q18]; unfold art7; omega)))) (by first | exact gq13 | (rw [show Xi U3 890 1 = Xi T1 890 1 + 1 by omega]; exact gq75))) (by omega) (And.intro rfl (And.intro rfl (And.intro rfl (And.intro rfl (And.intro rfl (True.intro))))))
          · refine y_iload rfl rfl ?_
            refine y_iload_n rfl rfl ?_
            refine y_icmp_eq rfl rfl (by unfold rg; omega) (by unfold rg; omega) (fun w33 => ?_) (fun w34 => ?_)
            · refine y_aload_n rfl rfl ?_
              refine y_dup rfl rfl ?_
              refine y_gfi rfl rfl rfl rfl rfl ?_
              refine y_iconst rfl ?_
              refine y_iadd rfl ?_
              refine y_pfi rfl rfl rfl rfl ?_
              obtain ⟨U4, eU4⟩ : ∃ T : sS, T = uI T1 890 1 (Int32.ofInt ((Xi T1 890 1) + 1)) := ⟨_, rfl⟩
              rw [← eU4]
              have hHU4 : RI U4 := by rw [eU4]; exact RI_w hHT1
              have hFU4 : FR md_gr_takeLoose__p S U4 := by rw [eU4]; exact FR.wI hFT1 (mdf_i (r := (890, 891, 1, 2)) (List.mem_of_getElem? (i := 0) rfl) (inR_i (by omega) (by omega) (by omega) (by omega)))
              have w35 : Xi U4 890 1 = ((Xi T1 890 1) + 1) := by rw [eU4]; exact Xi_same (by unfold rg; omega)
              refine y_aload_n rfl rfl ?_
              refine y_gfr rfl rfl rfl rfl rfl (hHU4.r 890 0 876 rfl) ?_
              refine y_aload_n rfl rfl ?_
              refine y_gfi rfl rfl rfl rfl rfl ?_
              have w36 : Xi U4 876 7 = Xi T1 876 7 := (show Xi U4 876 7 = Xi T1 876 7 from by rw [eU4]; exact Xi_ne (by omega))
              refine y_callV rfl rfl rfl (t_to_typeAt__p hHU4 (Xi U4 890 1) ⟨by omega, by omega⟩ _) ?_
              rintro _ _ ⟨rfl, z39, rfl, w39, w37, w38⟩
              show Pl _ _ _ _ _ _ [iv z39] _ _
              have gq75 := w37
              rw [FRT hFU4 rfl rfl] at gq75
              try rw [show Xi U4 890 1 = ((Xi T1 890 1) + 1) by omega] at gq75
              try rw [show (Xi U4 890 1) = ((Xi T1 890 1) + 1) by omega] at gq75
              clear w37
              refine y_istore rfl rfl rfl ?_
              refine y_goto rfl rfl ?_
              exact Pl_weak (ih18 (by omega) U4 hHU4 hFU4 (v3) (z39) (by omega) (by omega) (by omega) (by omega) (by omega) (by first | exact lo_0 | (rw [show Xi U4 890 1 = Xi T1 890 1 + 1 by omega]; exact o18.trans (lo_s (by omega) (by omega) (by rw [q18]; unfold art7; omega)))) (by first | exact gq13 | (rw [show Xi U4 890 1 = Xi T1 890 1 + 1 by omega]; exact gq75))) (by omega) (And.intro rfl (And.intro rfl (And.intro rfl (And.intro rfl (And.intro rfl (True.intro))))))
            · refine y_iload rfl rfl ?_
              refine y_iload_n rfl rfl ?_
              refine y_icmp_ne rfl rfl (by unfold rg; omega) (by unfold rg; omega) (fun w41 => ?_) (fun w42 => ?_)
              · refine y_aload_n rfl rfl ?_
                refine y_gfi rfl rfl rfl rfl rfl ?_
                refine y_iload_n rfl rfl ?_
                refine y_icmp_le rfl rfl (by unfold rg; omega) (by unfold rg; omega) (fun w43 => ?_) (fun w44 => ?_)
                · refine y_iconst rfl ?_
                  refine y_ireturn rfl rfl ?_
                  exact ⟨hHT1, hFT1, _, rfl, ⟨by omega, by omega⟩, (by rw [gLo_of (o18.trans (lo_n (by first | exact Or.inl (by omega) | exact Or.inr (by rw [q18]; unfold art7; omega))))]; first | (rw [if_pos (by omega)]; done) | (rw [if_neg (by omega)]; done) | (rw [if_pos (by omega)]; exact pe rfl (by omega)) | (rw [if_neg (by omega)]; exact pe rfl (by omega))), (by omega)⟩
                · refine y_iconst rfl ?_
                  refine y_goto rfl rfl ?_
                  refine y_ireturn rfl rfl ?_
                  exact ⟨hHT1, hFT1, _, rfl, ⟨by omega, by omega⟩, (by rw [gLo_of (o18.trans (lo_n (by first | exact Or.inl (by omega) | exact Or.inr (by rw [q18]; unfold art7; omega))))]; first | (rw [if_pos (by omega)]; done) | (rw [if_neg (by omega)]; done) | (rw [if_pos (by omega)]; exact pe rfl (by omega)) | (rw [if_neg (by omega)]; exact pe rfl (by omega))), (by omega)⟩
              · refine y_aload_n rfl rfl ?_
                refine y_dup rfl rfl ?_
                refine y_gfi rfl rfl rfl rfl rfl ?_
                refine y_iconst rfl ?_
                refine y_iadd rfl ?_
                refine y_pfi rfl rfl rfl rfl ?_
                obtain ⟨U5, eU5⟩ : ∃ T : sS, T = uI T1 890 1 (Int32.ofInt ((Xi T1 890 1) + 1)) := ⟨_, rfl⟩
                rw [← eU5]
                have hHU5 : RI U5 := by rw [eU5]; exact RI_w hHT1
                have hFU5 : FR md_gr_takeLoose__p S U5 := by rw [eU5]; exact FR.wI hFT1 (mdf_i (r := (890, 891, 1, 2)) (List.mem_of_getElem? (i := 0) rfl) (inR_i (by omega) (by omega) (by omega) (by omega)))
                have w45 : Xi U5 890 1 = ((Xi T1 890 1) + 1) := by rw [eU5]; exact Xi_same (by unfold rg; omega)
                refine y_aload_n rfl rfl ?_
                refine y_gfr rfl rfl rfl rfl rfl (hHU5.r 890 0 876 rfl) ?_
                refine y_aload_n rfl rfl ?_
                refine y_gfi rfl rfl rfl rfl rfl ?_
                have w46 : Xi U5 876 7 = Xi T1 876 7 := (show Xi U5 876 7 = Xi T1 876 7 from by rw [eU5]; exact Xi_ne (by omega))
                refine y_callV rfl rfl rfl (t_to_typeAt__p hHU5 (Xi U5 890 1) ⟨by omega, by omega⟩ _) ?_
                rintro _ _ ⟨rfl, z49, rfl, w49, w47, w48⟩
                show Pl _ _ _ _ _ _ [iv z49] _ _
                have gq75 := w47
                rw [FRT hFU5 rfl rfl] at gq75
                try rw [show Xi U5 890 1 = ((Xi T1 890 1) + 1) by omega] at gq75
                try rw [show (Xi U5 890 1) = ((Xi T1 890 1) + 1) by omega] at gq75
                clear w47
                refine y_istore rfl rfl rfl ?_
                refine y_goto rfl rfl ?_
                exact Pl_weak (ih18 (by omega) U5 hHU5 hFU5 (v3) (z49) (by omega) (by omega) (by omega) (by omega) (by omega) (by first | exact lo_0 | (rw [show Xi U5 890 1 = Xi T1 890 1 + 1 by omega]; exact o18.trans (lo_s (by omega) (by omega) (by rw [q18]; unfold art7; omega)))) (by first | exact gq13 | (rw [show Xi U5 890 1 = Xi T1 890 1 + 1 by omega]; exact gq75))) (by omega) (And.intro rfl (And.intro rfl (And.intro rfl (And.intro rfl (And.intro rfl (True.intro))))))
  refine y_aload_n rfl rfl ?_
  refine y_gfi rfl rfl rfl rfl rfl ?_
  refine y_istore_n rfl rfl rfl ?_
  refine y_aload_n rfl rfl ?_
  refine y_gfr rfl rfl rfl rfl rfl (hH.r 890 0 876 rfl) ?_
  refine y_aload_n rfl rfl ?_
  refine y_gfi rfl rfl rfl rfl rfl ?_
  refine y_callV rfl rfl rfl (t_to_typeAt__p hH (Xi S 890 1) ⟨by omega, by omega⟩ _) ?_
  rintro _ _ ⟨rfl, z53, rfl, w53, w51, w52⟩
  show Pl _ _ _ _ _ _ [iv z53] _ _
  have gq13 := w51
  clear w51
  refine y_istore rfl rfl rfl ?_
  exact Pl_weak (C18 fu (by omega) S hH hF ((Xi S 890 1)) (z53) (by omega) (by omega) (by omega) (by omega) (by omega) (by first | exact lo_0 | (rw [show Xi S 890 1 = Xi S 890 1 + 1 by omega]; exact o18.trans (lo_s (by omega) (by omega) (by rw [q18]; unfold art7; omega)))) (by first | exact gq13 | (rw [show Xi S 890 1 = Xi S 890 1 + 1 by omega]; exact gq75))) (by omega) (And.intro rfl (And.intro rfl (And.intro rfl (And.intro rfl (And.intro rfl (True.intro))))))
def md_gr_takePropertyTest__p : List rec := [(890, 891, 1, 2)]
abbrev Q_gr_takePropertyTest__p (S : sS) (now : Int) : pst := fun r S1 => RI S1 ∧ FR md_gr_takePropertyTest__p S S1 ∧ (∃ z : Int, r = some (iv z) ∧ (0 ≤ z ∧ z ≤ 1) ∧ (gPt (ty7 S) now (Xi S 890 1) = (z, Xi S1 890 1)) ∧ (Xi S 890 1 ≤ Xi S1 890 1 ∧ Xi S1 890 1 ≤ Xi S 876 7))
set_option maxRecDepth 100000 in
theorem t_gr_takePropertyTest__p {S : sS} (hH : RI S) (now : Int) (hnow : 0 ≤ now ∧ now ≤ 1) (hfr : NFR S) (hr : Xi S 876 7 ≤ 5130) (ha : 0 ≤ Xi S 890 1 ∧ Xi S 890 1 ≤ Xi S 876 7) (hp : bp7 (ty7 S) (Xi S 890 1)) (d : Nat) : Mp lay0 (d + 4) m_gr_takePropertyTest [.ref 890, iv now] S (Q_gr_takePropertyTest__p S now) := by
  refine Mp_R rfl rfl (fun fu => ?_)
  have hF : FR md_gr_takePropertyTest__p S S := FR.rf
  have w1 : -2147483648 ≤ Xi S 876 7 ∧ Xi S 876 7 ≤ 2147483647 := Xi_rgI
  have w2 : -2147483648 ≤ Xi S 890 1 ∧ Xi S 890 1 ≤ 2147483647 := Xi_rgI
  have hp1 := hp.1
  have hp2 := hp.2.1
  have hp3 := hp.2.2
  have hl := ty_lt hp1
  have hl2 := ty_lt hp2
  have hl3 := ty_lt hp3
  refine y_aload_n rfl rfl ?_
  refine y_aload_n rfl rfl ?_
  refine y_gfr rfl rfl rfl rfl rfl (hH.r 890 0 876 rfl) ?_
  refine y_aload_n rfl rfl ?_
  refine y_gfi rfl rfl rfl rfl rfl ?_
  refine y_iconst rfl ?_
  refine y_iadd rfl ?_
  refine y_callV rfl rfl rfl (t_to_runEnd__p hH ((Xi S 890 1) + 1) ⟨by omega, by omega⟩ _) ?_
  rintro _ _ ⟨rfl, z5, rfl, w5, w3, w4⟩
  show Pl _ _ _ _ _ _ [iv z5, .ref 890] _ _
  have gq11 := w3
  clear w3
  refine y_iconst rfl ?_
  refine y_iadd rfl ?_
  refine y_pfi rfl rfl rfl rfl ?_
  obtain ⟨U1, eU1⟩ : ∃ T : sS, T = uI S 890 1 (Int32.ofInt (z5 + 1)) := ⟨_, rfl⟩
  rw [← eU1]
  have hHU1 : RI U1 := by rw [eU1]; exact RI_w hH
  have hFU1 : FR md_gr_takePropertyTest__p S U1 := by rw [eU1]; exact FR.wI hF (mdf_i (r := (890, 891, 1, 2)) (List.mem_of_getElem? (i := 0) rfl) (inR_i (by omega) (by omega) (by omega) (by omega)))
  have w6 : Xi U1 890 1 = (z5 + 1) := by rw [eU1]; exact Xi_same (by unfold rg; omega)
  refine y_aload_n rfl rfl ?_
  have w7 : Xi U1 876 7 = Xi S 876 7 := (show Xi U1 876 7 = Xi S 876 7 from by rw [eU1]; exact Xi_ne (by omega))
  refine y_callV rfl rfl rfl (t_gr_takeThing__p hHU1 (by first | assumption | exact (NFR_FR hFU1 rfl rfl (by assumption : NFR S))) (by first | assumption | omega) (by first | assumption | omega) _) ?_
  rintro _ T2 ⟨hHT2, w11, z10, rfl, w10, w8, w9⟩
  have hFT2 : FR md_gr_takePropertyTest__p S T2 := FR.tr hFU1 w11 rfl
  show Pl _ _ _ _ _ _ [iv z10] _ _
  have gp20 := w8
  rw [FRT hFU1 rfl rfl] at gp20
  try rw [show Xi U1 890 1 = (z5 + 1) by omega] at gp20
  clear w8
  refine y_if_eq rfl rfl (by unfold rg; omega) (fun w12 => ?_) (fun w13 => ?_)
  · rw [show z10 = 0 by omega] at gp20
    refine y_iconst rfl ?_
    refine y_ireturn rfl rfl ?_
    have w14 : Xi T2 876 7 = Xi S 876 7 := (show Xi T2 876 7 = Xi U1 876 7 from w11.x _ _ rfl).trans ((show Xi U1 876 7 = Xi S 876 7 from by rw [eU1]; exact Xi_ne (by omega)))
    exact ⟨hHT2, hFT2, _, rfl, ⟨by omega, by omega⟩, (by (try simp only [gS_1, gS_0, o_1, o_0, i10, i00, n10, n00, if_true, if_false, art7, pl7, th7, bp7, gPt, gq11, gp20]); (repeat ((first | rw [if_pos (by omega)] | rw [if_neg (by omega)]); (try simp only [gS_1, gS_0, o_1, o_0, i10, i00, n10, n00, if_true, if_false, art7, pl7, th7, bp7, gPt, gq11, gp20]))); first | done | exact pe (by omega) (by omega) | (exfalso; omega)), (by omega)⟩
  · rw [show z10 = 1 by omega] at gp20
    refine y_aload_n rfl rfl ?_
    refine y_iconst rfl ?_
    have w15 : Xi T2 876 7 = Xi S 876 7 := (show Xi T2 876 7 = Xi U1 876 7 from w11.x _ _ rfl).trans ((show Xi U1 876 7 = Xi S 876 7 from by rw [eU1]; exact Xi_ne (by omega)))
    refine y_callV rfl rfl rfl (t_gr_take__p hHT2 4 ⟨by omega, by omega⟩ (by first | assumption | exact (NFR_FR hFT2 rfl rfl (by assumption : NFR S))) (by first | assumption | omega) (by first | assumption | omega) _) ?_
    rintro _ T3 ⟨hHT3, w19, z18, rfl, w18, w16, w17⟩
    have hFT3 : FR md_gr_takePropertyTest__p S T3 := FR.tr hFT2 w19 rfl
    show Pl _ _ _ _ _ _ [iv z18] _ _
    have gp28 := w16
    rw [FRT hFT2 rfl rfl] at gp28
    clear w16
    refine y_if_ne rfl rfl (by unfold rg; omega) (fun w20 => ?_) (fun w21 => ?_)
    · rw [show z18 = 1 by omega] at gp28
      refine y_iload_n rfl rfl ?_
      refine y_if_eq rfl rfl (by unfold rg; omega) (fun w22 => ?_) (fun w23 => ?_)
      · refine y_aload_n rfl rfl ?_
        refine y_bipush rfl rfl ?_
        have w24 : Xi T3 876 7 = Xi S 876 7 := (show Xi T3 876 7 = Xi T2 876 7 from w19.x _ _ rfl).trans ( (show Xi T2 876 7 = Xi U1 876 7 from w11.x _ _ rfl).trans ((show Xi U1 876 7 = Xi S 876 7 from by rw [eU1]; exact Xi_ne (by omega))))
        refine y_callV rfl rfl rfl (t_gr_take__p hHT3 51 ⟨by omega, by omega⟩ (by first | assumption | exact (NFR_FR hFT3 rfl rfl (by assumption : NFR S))) (by first | assumption | omega) (by first | assumption | omega) _) ?_
        rintro _ T4 ⟨hHT4, w28, z27, rfl, w27, w25, w26⟩
        have hFT4 : FR md_gr_takePropertyTest__p S T4 := FR.tr hFT3 w28 rfl
        show Pl _ _ _ _ _ _ [iv z27] _ _
        have gp48 := w25
        rw [FRT hFT3 rfl rfl] at gp48
        clear w25
        refine y_if_ne rfl rfl (by unfold rg; omega) (fun w29 => ?_) (fun w30 => ?_)
        · rw [show z27 = 1 by omega] at gp48
          refine y_aload_n rfl rfl ?_
          refine y_bipush rfl rfl ?_
          have w31 : Xi T4 876 7 = Xi S 876 7 := (show Xi T4 876 7 = Xi T3 876 7 from w28.x _ _ rfl).trans ( (show Xi T3 876 7 = Xi T2 876 7 from w19.x _ _ rfl).trans ( (show Xi T2 876 7 = Xi U1 876 7 from w11.x _ _ rfl).trans ((show Xi U1 876 7 = Xi S 876 7 from by rw [eU1]; exact Xi_ne (by omega)))))
          refine y_callV rfl rfl rfl (t_gr_take__p hHT4 50 ⟨by omega, by omega⟩ (by first | assumption | exact (NFR_FR hFT4 rfl rfl (by assumption : NFR S))) (by first | assumption | omega) (by first | assumption | omega) _) ?_
          rintro _ T5 ⟨hHT5, w35, z34, rfl, w34, w32, w33⟩
          have hFT5 : FR md_gr_takePropertyTest__p S T5 := FR.tr hFT4 w35 rfl
          show Pl _ _ _ _ _ _ [iv z34] _ _
          have gp66 := w32
          rw [FRT hFT4 rfl rfl] at gp66
          clear w32
          refine y_if_eq rfl rfl (by unfold rg; omega) (fun w36 => ?_) (fun w37 => ?_)
          · rw [show z34 = 0 by omega] at gp66
            refine y_iconst rfl ?_
            refine y_ireturn rfl rfl ?_
            have w38 : Xi T5 876 7 = Xi S 876 7 := (show Xi T5 876 7 = Xi T4 876 7 from w35.x _ _ rfl).trans ( (show Xi T4 876 7 = Xi T3 876 7 from w28.x _ _ rfl).trans ( (show Xi T3 876 7 = Xi T2 876 7 from w19.x _ _ rfl).trans ( (show Xi T2 876 7 = Xi U1 876 7 from w11.x _ _ rfl).trans ((show Xi U1 876 7 = Xi S 876 7 from by rw [eU1]; exact Xi_ne (by omega))))))
            exact ⟨hHT5, hFT5, _, rfl, ⟨by omega, by omega⟩, (by (try simp only [gS_1, gS_0, o_1, o_0, i10, i00, n10, n00, if_true, if_false, art7, pl7, th7, bp7, gPt, gq11, gp20, gp28, gp48, gp66]); (repeat ((first | rw [if_pos (by omega)] | rw [if_neg (by omega)]); (try simp only [gS_1, gS_0, o_1, o_0, i10, i00, n10, n00, if_true, if_false, art7, pl7, th7, bp7, gPt, gq11, gp20, gp28, gp48, gp66]))); first | done | exact pe (by omega) (by omega) | (exfalso; omega)), (by omega)⟩
          · rw [show z34 = 1 by omega] at gp66
            refine y_aload_n rfl rfl ?_
            refine y_bipush rfl rfl ?_
            have w39 : Xi T5 876 7 = Xi S 876 7 := (show Xi T5 876 7 = Xi T4 876 7 from w35.x _ _ rfl).trans ( (show Xi T4 876 7 = Xi T3 876 7 from w28.x _ _ rfl).trans ( (show Xi T3 876 7 = Xi T2 876 7 from w19.x _ _ rfl).trans ( (show Xi T2 876 7 = Xi U1 876 7 from w11.x _ _ rfl).trans ((show Xi U1 876 7 = Xi S 876 7 from by rw [eU1]; exact Xi_ne (by omega))))))
            refine y_callV rfl rfl rfl (t_gr_take__p hHT5 101 ⟨by omega, by omega⟩ (by first | assumption | exact (NFR_FR hFT5 rfl rfl (by assumption : NFR S))) (by first | assumption | omega) (by first | assumption | omega) _) ?_
            rintro _ T6 ⟨hHT6, w43, z42, rfl, w42, w40, w41⟩
            have hFT6 : FR md_gr_takePropertyTest__p S T6 := FR.tr hFT5 w43 rfl
            show Pl _ _ _ _ _ _ [iv z42] _ _
            have gp75 := w40
            rw [FRT hFT5 rfl rfl] at gp75
            clear w40
            refine y_if_eq rfl rfl (by unfold rg; omega) (fun w44 => ?_) (fun w45 => ?_)
            · rw [show z42 = 0 by omega] at gp75
              refine y_iconst rfl ?_
              refine y_ireturn rfl rfl ?_
              have w46 : Xi T6 876 7 = Xi S 876 7 := (show Xi T6 876 7 = Xi T5 876 7 from w43.x _ _ rfl).trans ( (show Xi T5 876 7 = Xi T4 876 7 from w35.x _ _ rfl).trans ( (show Xi T4 876 7 = Xi T3 876 7 from w28.x _ _ rfl).trans ( (show Xi T3 876 7 = Xi T2 876 7 from w19.x _ _ rfl).trans ( (show Xi T2 876 7 = Xi U1 876 7 from w11.x _ _ rfl).trans ((show Xi U1 876 7 = Xi S 876 7 from by rw [eU1]; exact Xi_ne (by omega)))))))
              exact ⟨hHT6, hFT6, _, rfl, ⟨by omega, by omega⟩, (by (try simp only [gS_1, gS_0, o_1, o_0, i10, i00, n10, n00, if_true, if_false, art7, pl7, th7, bp7, gPt, gq11, gp20, gp28, gp48, gp66, gp75]); (repeat ((first | rw [if_pos (by omega)] | rw [if_neg (by omega)]); (try simp only [gS_1, gS_0, o_1, o_0, i10, i00, n10, n00, if_true, if_false, art7, pl7, th7, bp7, gPt, gq11, gp20, gp28, gp48, gp66, gp75]))); first | done | exact pe (by omega) (by omega) | (exfalso; omega)), (by omega)⟩
            · rw [show z42 = 1 by omega] at gp75
              refine y_iconst rfl ?_
              refine y_goto rfl rfl ?_
              refine y_ireturn rfl rfl ?_
              have w47 : Xi T6 876 7 = Xi S 876 7 := (show Xi T6 876 7 = Xi T5 876 7 from w43.x _ _ rfl).trans ( (show Xi T5 876 7 = Xi T4 876 7 from w35.x _ _ rfl).trans ( (show Xi T4 876 7 = Xi T3 876 7 from w28.x _ _ rfl).trans ( (show Xi T3 876 7 = Xi T2 876 7 from w19.x _ _ rfl).trans ( (show Xi T2 876 7 = Xi U1 876 7 from w11.x _ _ rfl).trans ((show Xi U1 876 7 = Xi S 876 7 from by rw [eU1]; exact Xi_ne (by omega)))))))
              exact ⟨hHT6, hFT6, _, rfl, ⟨by omega, by omega⟩, (by (try simp only [gS_1, gS_0, o_1, o_0, i10, i00, n10, n00, if_true, if_false, art7, pl7, th7, bp7, gPt, gq11, gp20, gp28, gp48, gp66, gp75]); (repeat ((first | rw [if_pos (by omega)] | rw [if_neg (by omega)]); (try simp only [gS_1, gS_0, o_1, o_0, i10, i00, n10, n00, if_true, if_false, art7, pl7, th7, bp7, gPt, gq11, gp20, gp28, gp48, gp66, gp75]))); first | done | exact pe (by omega) (by omega) | (exfalso; omega)), (by omega)⟩
        · rw [show z27 = 0 by omega] at gp48
          refine y_aload_n rfl rfl ?_
          refine y_bipush rfl rfl ?_
          have w48 : Xi T4 876 7 = Xi S 876 7 := (show Xi T4 876 7 = Xi T3 876 7 from w28.x _ _ rfl).trans ( (show Xi T3 876 7 = Xi T2 876 7 from w19.x _ _ rfl).trans ( (show Xi T2 876 7 = Xi U1 876 7 from w11.x _ _ rfl).trans ((show Xi U1 876 7 = Xi S 876 7 from by rw [eU1]; exact Xi_ne (by omega)))))
          refine y_callV rfl rfl rfl (t_gr_take__p hHT4 52 ⟨by omega, by omega⟩ (by first | assumption | exact (NFR_FR hFT4 rfl rfl (by assumption : NFR S))) (by first | assumption | omega) (by first | assumption | omega) _) ?_
          rintro _ T7 ⟨hHT7, w52, z51, rfl, w51, w49, w50⟩
          have hFT7 : FR md_gr_takePropertyTest__p S T7 := FR.tr hFT4 w52 rfl
          show Pl _ _ _ _ _ _ [iv z51] _ _
          have gp57 := w49
          rw [FRT hFT4 rfl rfl] at gp57
          clear w49
          refine y_if_eq rfl rfl (by unfold rg; omega) (fun w53 => ?_) (fun w54 => ?_)
          · rw [show z51 = 0 by omega] at gp57
            refine y_aload_n rfl rfl ?_
            refine y_bipush rfl rfl ?_
            have w55 : Xi T7 876 7 = Xi S 876 7 := (show Xi T7 876 7 = Xi T4 876 7 from w52.x _ _ rfl).trans ( (show Xi T4 876 7 = Xi T3 876 7 from w28.x _ _ rfl).trans ( (show Xi T3 876 7 = Xi T2 876 7 from w19.x _ _ rfl).trans ( (show Xi T2 876 7 = Xi U1 876 7 from w11.x _ _ rfl).trans ((show Xi U1 876 7 = Xi S 876 7 from by rw [eU1]; exact Xi_ne (by omega))))))
            refine y_callV rfl rfl rfl (t_gr_take__p hHT7 6 ⟨by omega, by omega⟩ (by first | assumption | exact (NFR_FR hFT7 rfl rfl (by assumption : NFR S))) (by first | assumption | omega) (by first | assumption | omega) _) ?_
            rintro _ T8 ⟨hHT8, w59, z58, rfl, w58, w56, w57⟩
            have hFT8 : FR md_gr_takePropertyTest__p S T8 := FR.tr hFT7 w59 rfl
            show Pl _ _ _ _ _ _ [iv z58] _ _
            have gp90 := w56
            rw [FRT hFT7 rfl rfl] at gp90
            clear w56
            refine y_pop rfl rfl ?_
            refine y_aload_n rfl rfl ?_
            have w60 : Xi T8 876 7 = Xi S 876 7 := (show Xi T8 876 7 = Xi T7 876 7 from w59.x _ _ rfl).trans ( (show Xi T7 876 7 = Xi T4 876 7 from w52.x _ _ rfl).trans ( (show Xi T4 876 7 = Xi T3 876 7 from w28.x _ _ rfl).trans ( (show Xi T3 876 7 = Xi T2 876 7 from w19.x _ _ rfl).trans ( (show Xi T2 876 7 = Xi U1 876 7 from w11.x _ _ rfl).trans ((show Xi U1 876 7 = Xi S 876 7 from by rw [eU1]; exact Xi_ne (by omega)))))))
            refine y_callV rfl rfl rfl (t_gr_takeWhat__p hHT8 (by first | assumption | exact (NFR_FR hFT8 rfl rfl (by assumption : NFR S))) (by first | assumption | omega) (by first | assumption | omega) _) ?_
            rintro _ T9 ⟨hHT9, w64, z63, rfl, w63, w61, w62⟩
            have hFT9 : FR md_gr_takePropertyTest__p S T9 := FR.tr hFT8 w64 rfl
            show Pl _ _ _ _ _ _ [iv z63] _ _
            have gp95 := w61
            rw [FRT hFT8 rfl rfl] at gp95
            clear w61
            refine y_ireturn rfl (retI_z (by omega)) ?_
            have w65 : Xi T9 876 7 = Xi S 876 7 := (show Xi T9 876 7 = Xi T8 876 7 from w64.x _ _ rfl).trans ( (show Xi T8 876 7 = Xi T7 876 7 from w59.x _ _ rfl).trans ( (show Xi T7 876 7 = Xi T4 876 7 from w52.x _ _ rfl).trans ( (show Xi T4 876 7 = Xi T3 876 7 from w28.x _ _ rfl).trans ( (show Xi T3 876 7 = Xi T2 876 7 from w19.x _ _ rfl).trans ( (show Xi T2 876 7 = Xi U1 876 7 from w11.x _ _ rfl).trans ((show Xi U1 876 7 = Xi S 876 7 from by rw [eU1]; exact Xi_ne (by omega))))))))
            exact ⟨hHT9, hFT9, _, rfl, ⟨by omega, by omega⟩, (by (first | rw [show z58 = 1 by omega] at gp90 | rw [show z58 = 0 by omega] at gp90 | skip); (first | rw [show z63 = 1 by omega] at gp95 | rw [show z63 = 0 by omega] at gp95 | skip); (try simp only [gS_1, gS_0, o_1, o_0, i10, i00, n10, n00, if_true, if_false, art7, pl7, th7, bp7, gPt, gq11, gp20, gp28, gp48, gp57, gp90, gp95]); (repeat ((first | rw [if_pos (by omega)] | rw [if_neg (by omega)]); (try simp only [gS_1, gS_0, o_1, o_0, i10, i00, n10, n00, if_true, if_false, art7, pl7, th7, bp7, gPt, gq11, gp20, gp28, gp48, gp57, gp90, gp95]))); first | done | exact pe (by omega) (by omega) | (exfalso; omega)), (by omega)⟩
          · rw [show z51 = 1 by omega] at gp57
            refine y_aload_n rfl rfl ?_
            refine y_bipush rfl rfl ?_
            have w66 : Xi T7 876 7 = Xi S 876 7 := (show Xi T7 876 7 = Xi T4 876 7 from w52.x _ _ rfl).trans ( (show Xi T4 876 7 = Xi T3 876 7 from w28.x _ _ rfl).trans ( (show Xi T3 876 7 = Xi T2 876 7 from w19.x _ _ rfl).trans ( (show Xi T2 876 7 = Xi U1 876 7 from w11.x _ _ rfl).trans ((show Xi U1 876 7 = Xi S 876 7 from by rw [eU1]; exact Xi_ne (by omega))))))
            refine y_callV rfl rfl rfl (t_gr_take__p hHT7 50 ⟨by omega, by omega⟩ (by first | assumption | exact (NFR_FR hFT7 rfl rfl (by assumption : NFR S))) (by first | assumption | omega) (by first | assumption | omega) _) ?_
            rintro _ T10 ⟨hHT10, w70, z69, rfl, w69, w67, w68⟩
            have hFT10 : FR md_gr_takePropertyTest__p S T10 := FR.tr hFT7 w70 rfl
            show Pl _ _ _ _ _ _ [iv z69] _ _
            have gp66 := w67
            rw [FRT hFT7 rfl rfl] at gp66
            clear w67
            refine y_if_eq rfl rfl (by unfold rg; omega) (fun w71 => ?_) (fun w72 => ?_)
            · rw [show z69 = 0 by omega] at gp66
              refine y_iconst rfl ?_
              refine y_ireturn rfl rfl ?_
              have w73 : Xi T10 876 7 = Xi S 876 7 := (show Xi T10 876 7 = Xi T7 876 7 from w70.x _ _ rfl).trans ( (show Xi T7 876 7 = Xi T4 876 7 from w52.x _ _ rfl).trans ( (show Xi T4 876 7 = Xi T3 876 7 from w28.x _ _ rfl).trans ( (show Xi T3 876 7 = Xi T2 876 7 from w19.x _ _ rfl).trans ( (show Xi T2 876 7 = Xi U1 876 7 from w11.x _ _ rfl).trans ((show Xi U1 876 7 = Xi S 876 7 from by rw [eU1]; exact Xi_ne (by omega)))))))
              exact ⟨hHT10, hFT10, _, rfl, ⟨by omega, by omega⟩, (by (try simp only [gS_1, gS_0, o_1, o_0, i10, i00, n10, n00, if_true, if_false, art7, pl7, th7, bp7, gPt, gq11, gp20, gp28, gp48, gp57, gp66]); (repeat ((first | rw [if_pos (by omega)] | rw [if_neg (by omega)]); (try simp only [gS_1, gS_0, o_1, o_0, i10, i00, n10, n00, if_true, if_false, art7, pl7, th7, bp7, gPt, gq11, gp20, gp28, gp48, gp57, gp66]))); first | done | exact pe (by omega) (by omega) | (exfalso; omega)), (by omega)⟩
            · rw [show z69 = 1 by omega] at gp66
              refine y_aload_n rfl rfl ?_
              refine y_bipush rfl rfl ?_
              have w74 : Xi T10 876 7 = Xi S 876 7 := (show Xi T10 876 7 = Xi T7 876 7 from w70.x _ _ rfl).trans ( (show Xi T7 876 7 = Xi T4 876 7 from w52.x _ _ rfl).trans ( (show Xi T4 876 7 = Xi T3 876 7 from w28.x _ _ rfl).trans ( (show Xi T3 876 7 = Xi T2 876 7 from w19.x _ _ rfl).trans ( (show Xi T2 876 7 = Xi U1 876 7 from w11.x _ _ rfl).trans ((show Xi U1 876 7 = Xi S 876 7 from by rw [eU1]; exact Xi_ne (by omega)))))))
              refine y_callV rfl rfl rfl (t_gr_take__p hHT10 101 ⟨by omega, by omega⟩ (by first | assumption | exact (NFR_FR hFT10 rfl rfl (by assumption : NFR S))) (by first | assumption | omega) (by first | assumption | omega) _) ?_
              rintro _ T11 ⟨hHT11, w78, z77, rfl, w77, w75, w76⟩
              have hFT11 : FR md_gr_takePropertyTest__p S T11 := FR.tr hFT10 w78 rfl
              show Pl _ _ _ _ _ _ [iv z77] _ _
              have gp75 := w75
              rw [FRT hFT10 rfl rfl] at gp75
              clear w75
              refine y_if_eq rfl rfl (by unfold rg; omega) (fun w79 => ?_) (fun w80 => ?_)
              · rw [show z77 = 0 by omega] at gp75
                refine y_iconst rfl ?_
                refine y_ireturn rfl rfl ?_
                have w81 : Xi T11 876 7 = Xi S 876 7 := (show Xi T11 876 7 = Xi T10 876 7 from w78.x _ _ rfl).trans ( (show Xi T10 876 7 = Xi T7 876 7 from w70.x _ _ rfl).trans ( (show Xi T7 876 7 = Xi T4 876 7 from w52.x _ _ rfl).trans ( (show Xi T4 876 7 = Xi T3 876 7 from w28.x _ _ rfl).trans ( (show Xi T3 876 7 = Xi T2 876 7 from w19.x _ _ rfl).trans ( (show Xi T2 876 7 = Xi U1 876 7 from w11.x _ _ rfl).trans ((show Xi U1 876 7 = Xi S 876 7 from by rw [eU1]; exact Xi_ne (by omega))))))))
                exact ⟨hHT11, hFT11, _, rfl, ⟨by omega, by omega⟩, (by (try simp only [gS_1, gS_0, o_1, o_0, i10, i00, n10, n00, if_true, if_false, art7, pl7, th7, bp7, gPt, gq11, gp20, gp28, gp48, gp57, gp66, gp75]); (repeat ((first | rw [if_pos (by omega)] | rw [if_neg (by omega)]); (try simp only [gS_1, gS_0, o_1, o_0, i10, i00, n10, n00, if_true, if_false, art7, pl7, th7, bp7, gPt, gq11, gp20, gp28, gp48, gp57, gp66, gp75]))); first | done | exact pe (by omega) (by omega) | (exfalso; omega)), (by omega)⟩
              · rw [show z77 = 1 by omega] at gp75
                refine y_iconst rfl ?_
                refine y_goto rfl rfl ?_
                refine y_ireturn rfl rfl ?_
                have w82 : Xi T11 876 7 = Xi S 876 7 := (show Xi T11 876 7 = Xi T10 876 7 from w78.x _ _ rfl).trans ( (show Xi T10 876 7 = Xi T7 876 7 from w70.x _ _ rfl).trans ( (show Xi T7 876 7 = Xi T4 876 7 from w52.x _ _ rfl).trans ( (show Xi T4 876 7 = Xi T3 876 7 from w28.x _ _ rfl).trans ( (show Xi T3 876 7 = Xi T2 876 7 from w19.x _ _ rfl).trans ( (show Xi T2 876 7 = Xi U1 876 7 from w11.x _ _ rfl).trans ((show Xi U1 876 7 = Xi S 876 7 from by rw [eU1]; exact Xi_ne (by omega))))))))
                exact ⟨hHT11, hFT11, _, rfl, ⟨by omega, by omega⟩, (by (try simp only [gS_1, gS_0, o_1, o_0, i10, i00, n10, n00, if_true, if_false, art7, pl7, th7, bp7, gPt, gq11, gp20, gp28, gp48, gp57, gp66, gp75]); (repeat ((first | rw [if_pos (by omega)] | rw [if_neg (by omega)]); (try simp only [gS_1, gS_0, o_1, o_0, i10, i00, n10, n00, if_true, if_false, art7, pl7, th7, bp7, gPt, gq11, gp20, gp28, gp48, gp57, gp66, gp75]))); first | done | exact pe (by omega) (by omega) | (exfalso; omega)), (by omega)⟩
      · refine y_aload_n rfl rfl ?_
        have w83 : Xi T3 876 7 = Xi S 876 7 := (show Xi T3 876 7 = Xi T2 876 7 from w19.x _ _ rfl).trans ( (show Xi T2 876 7 = Xi U1 876 7 from w11.x _ _ rfl).trans ((show Xi U1 876 7 = Xi S 876 7 from by rw [eU1]; exact Xi_ne (by omega))))
        refine y_callV rfl rfl rfl (t_gr_takeWhat__p hHT3 (by first | assumption | exact (NFR_FR hFT3 rfl rfl (by assumption : NFR S))) (by first | assumption | omega) (by first | assumption | omega) _) ?_
        rintro _ T12 ⟨hHT12, w87, z86, rfl, w86, w84, w85⟩
        have hFT12 : FR md_gr_takePropertyTest__p S T12 := FR.tr hFT3 w87 rfl
        show Pl _ _ _ _ _ _ [iv z86] _ _
        have gp41 := w84
        rw [FRT hFT3 rfl rfl] at gp41
        clear w84
        refine y_ireturn rfl (retI_z (by omega)) ?_
        have w88 : Xi T12 876 7 = Xi S 876 7 := (show Xi T12 876 7 = Xi T3 876 7 from w87.x _ _ rfl).trans ( (show Xi T3 876 7 = Xi T2 876 7 from w19.x _ _ rfl).trans ( (show Xi T2 876 7 = Xi U1 876 7 from w11.x _ _ rfl).trans ((show Xi U1 876 7 = Xi S 876 7 from by rw [eU1]; exact Xi_ne (by omega)))))
        exact ⟨hHT12, hFT12, _, rfl, ⟨by omega, by omega⟩, (by (first | rw [show z86 = 1 by omega] at gp41 | rw [show z86 = 0 by omega] at gp41 | skip); (try simp only [gS_1, gS_0, o_1, o_0, i10, i00, n10, n00, if_true, if_false, art7, pl7, th7, bp7, gPt, gq11, gp20, gp28, gp41]); (repeat ((first | rw [if_pos (by omega)] | rw [if_neg (by omega)]); (try simp only [gS_1, gS_0, o_1, o_0, i10, i00, n10, n00, if_true, if_false, art7, pl7, th7, bp7, gPt, gq11, gp20, gp28, gp41]))); first | done | exact pe (by omega) (by omega) | (exfalso; omega)), (by omega)⟩
    · rw [show z18 = 0 by omega] at gp28
      refine y_iconst rfl ?_
      refine y_ireturn rfl rfl ?_
      have w89 : Xi T3 876 7 = Xi S 876 7 := (show Xi T3 876 7 = Xi T2 876 7 from w19.x _ _ rfl).trans ( (show Xi T2 876 7 = Xi U1 876 7 from w11.x _ _ rfl).trans ((show Xi U1 876 7 = Xi S 876 7 from by rw [eU1]; exact Xi_ne (by omega))))
      exact ⟨hHT3, hFT3, _, rfl, ⟨by omega, by omega⟩, (by (try simp only [gS_1, gS_0, o_1, o_0, i10, i00, n10, n00, if_true, if_false, art7, pl7, th7, bp7, gPt, gq11, gp20, gp28]); (repeat ((first | rw [if_pos (by omega)] | rw [if_neg (by omega)]); (try simp only [gS_1, gS_0, o_1, o_0, i10, i00, n10, n00, if_true, if_false, art7, pl7, th7, bp7, gPt, gq11, gp20, gp28]))); first | done | exact pe (by omega) (by omega) | (exfalso; omega)), (by omega)⟩
def md_gr_takeTest__p : List rec := [(890, 891, 1, 2)]
abbrev Q_gr_takeTest__p (S : sS) (now : Int) : pst := fun r S1 => RI S1 ∧ FR md_gr_takeTest__p S S1 ∧ (∃ z : Int, r = some (iv z) ∧ (0 ≤ z ∧ z ≤ 1) ∧ (gTt (ty7 S) now (Xi S 890 1) = (z, Xi S1 890 1)) ∧ (Xi S 890 1 ≤ Xi S1 890 1 ∧ Xi S1 890 1 ≤ Xi S 876 7))
set_option maxRecDepth 100000 in
theorem t_gr_takeTest__p {S : sS} (hH : RI S) (now : Int) (hnow : 0 ≤ now ∧ now ≤ 1) (hfr : NFR S) (hr : Xi S 876 7 ≤ 5130) (ha : 0 ≤ Xi S 890 1 ∧ Xi S 890 1 ≤ Xi S 876 7) (d : Nat) : Mp lay0 (d + 5) m_gr_takeTest [.ref 890, iv now] S (Q_gr_takeTest__p S now) := by
  refine Mp_R rfl rfl (fun fu => ?_)
  have hF : FR md_gr_takeTest__p S S := FR.rf
  have w1 : -2147483648 ≤ Xi S 876 7 ∧ Xi S 876 7 ≤ 2147483647 := Xi_rgI
  have w2 : -2147483648 ≤ Xi S 890 1 ∧ Xi S 890 1 ≤ 2147483647 := Xi_rgI
  refine y_aload_n rfl rfl ?_
  refine y_gfr rfl rfl rfl rfl rfl (hH.r 890 0 876 rfl) ?_
  refine y_iconst rfl ?_
  refine y_aload_n rfl rfl ?_
  refine y_gfi rfl rfl rfl rfl rfl ?_
  refine y_aload_n rfl rfl ?_
  refine y_gfr rfl rfl rfl rfl rfl (hH.r 890 0 876 rfl) ?_
  refine y_aload_n rfl rfl ?_
  refine y_gfi rfl rfl rfl rfl rfl ?_
  refine y_iload_n rfl rfl ?_
  refine y_callV rfl rfl rfl (t_to_testEnd__p hH (Xi S 890 1) now ⟨by omega, by omega⟩ ⟨by omega, by omega⟩ (by first | assumption | omega) (by first | assumption | omega) _) ?_
  rintro _ _ ⟨rfl, z5, rfl, w5, w3, w4⟩
  show Pl _ _ _ _ _ _ [iv z5, iv (Xi S 890 1), iv 4, .ref 876] _ _
  have gq18 := w3
  clear w3
  refine y_callV rfl rfl rfl (t_to_firstOf__p hH 4 (Xi S 890 1) z5 ⟨by omega, by omega⟩ ⟨by omega, by omega⟩ ⟨by omega, by omega⟩ _) ?_
  rintro _ _ ⟨rfl, z7, rfl, w7, w6⟩
  show Pl _ _ _ _ _ _ [iv z7] _ _
  have gq21 := w6
  clear w6
  refine y_iconst rfl ?_
  refine y_icmp_ne rfl rfl (by unfold rg; omega) (by unfold rg; omega) (fun w8 => ?_) (fun w9 => ?_)
  · refine y_aload_n rfl rfl ?_
    refine y_gfr rfl rfl rfl rfl rfl (hH.r 890 0 876 rfl) ?_
    refine y_aload_n rfl rfl ?_
    refine y_gfi rfl rfl rfl rfl rfl ?_
    refine y_callV rfl rfl rfl (t_to_beginsProperty__p hH (Xi S 890 1) ⟨by omega, by omega⟩ _) ?_
    rintro _ _ ⟨rfl, z12, rfl, w12, w10, w11⟩
    show Pl _ _ _ _ _ _ [iv z12] _ _
    have gb45 := w10
    clear w10
    refine y_if_eq rfl rfl (by unfold rg; omega) (fun w13 => ?_) (fun w14 => ?_)
    · refine y_aload_n rfl rfl ?_
      refine y_callV rfl rfl rfl (t_gr_takeThing__p hH (by first | assumption | exact (NFR_FR hF rfl rfl (by assumption : NFR S))) (by first | assumption | omega) (by first | assumption | omega) _) ?_
      rintro _ T1 ⟨hHT1, w18, z17, rfl, w17, w15, w16⟩
      have hFT1 : FR md_gr_takeTest__p S T1 := FR.tr hF w18 rfl
      show Pl _ _ _ _ _ _ [iv z17] _ _
      have gp58 := w15
      clear w15
      refine y_if_eq rfl rfl (by unfold rg; omega) (fun w19 => ?_) (fun w20 => ?_)
      · rw [show z17 = 0 by omega] at gp58
        refine y_iconst rfl ?_
        refine y_ireturn rfl rfl ?_
        have w21 : Xi T1 876 7 = Xi S 876 7 := (show Xi T1 876 7 = Xi S 876 7 from w18.x _ _ rfl)
        exact ⟨hHT1, hFT1, _, rfl, ⟨by omega, by omega⟩, (by (try simp only [gS_1, gS_0, o_1, o_0, i10, i00, n10, n00, if_true, if_false, art7, pl7, th7, bp7, gTt, gq18, gq21, gp58]); (repeat ((first | rw [if_pos (by omega)] | rw [if_neg (by omega)]); (try simp only [gS_1, gS_0, o_1, o_0, i10, i00, n10, n00, if_true, if_false, art7, pl7, th7, bp7, gTt, gq18, gq21, gp58]))); first | done | exact pe (by omega) (by omega) | (exfalso; omega)), (by omega)⟩
      · rw [show z17 = 1 by omega] at gp58
        refine y_aload_n rfl rfl ?_
        refine y_iconst rfl ?_
        have w22 : Xi T1 876 7 = Xi S 876 7 := (show Xi T1 876 7 = Xi S 876 7 from w18.x _ _ rfl)
        refine y_callV rfl rfl rfl (t_gr_take__p hHT1 4 ⟨by omega, by omega⟩ (by first | assumption | exact (NFR_FR hFT1 rfl rfl (by assumption : NFR S))) (by first | assumption | omega) (by first | assumption | omega) _) ?_
        rintro _ T2 ⟨hHT2, w26, z25, rfl, w25, w23, w24⟩
        have hFT2 : FR md_gr_takeTest__p S T2 := FR.tr hFT1 w26 rfl
        show Pl _ _ _ _ _ _ [iv z25] _ _
        have gp66 := w23
        rw [FRT hFT1 rfl rfl] at gp66
        clear w23
        refine y_if_ne rfl rfl (by unfold rg; omega) (fun w27 => ?_) (fun w28 => ?_)
        · rw [show z25 = 1 by omega] at gp66
          refine y_aload_n rfl rfl ?_
          refine y_bipush rfl rfl ?_
          have w29 : Xi T2 876 7 = Xi S 876 7 := (show Xi T2 876 7 = Xi T1 876 7 from w26.x _ _ rfl).trans ((show Xi T1 876 7 = Xi S 876 7 from w18.x _ _ rfl))
          refine y_callV rfl rfl rfl (t_gr_take__p hHT2 6 ⟨by omega, by omega⟩ (by first | assumption | exact (NFR_FR hFT2 rfl rfl (by assumption : NFR S))) (by first | assumption | omega) (by first | assumption | omega) _) ?_
          rintro _ T3 ⟨hHT3, w33, z32, rfl, w32, w30, w31⟩
          have hFT3 : FR md_gr_takeTest__p S T3 := FR.tr hFT2 w33 rfl
          show Pl _ _ _ _ _ _ [iv z32] _ _
          have gp77 := w30
          rw [FRT hFT2 rfl rfl] at gp77
          clear w30
          refine y_pop rfl rfl ?_
          refine y_iload_n rfl rfl ?_
          refine y_if_ne rfl rfl (by unfold rg; omega) (fun w34 => ?_) (fun w35 => ?_)
          · refine y_aload_n rfl rfl ?_
            have w36 : Xi T3 876 7 = Xi S 876 7 := (show Xi T3 876 7 = Xi T2 876 7 from w33.x _ _ rfl).trans ( (show Xi T2 876 7 = Xi T1 876 7 from w26.x _ _ rfl).trans ((show Xi T1 876 7 = Xi S 876 7 from w18.x _ _ rfl)))
            refine y_callV rfl rfl rfl (t_gr_takeRun__p hHT3 (by first | assumption | exact (NFR_FR hFT3 rfl rfl (by assumption : NFR S))) (by first | assumption | omega) (by first | assumption | omega) _) ?_
            rintro _ T4 ⟨hHT4, w40, z39, rfl, w39, w37, w38⟩
            have hFT4 : FR md_gr_takeTest__p S T4 := FR.tr hFT3 w40 rfl
            show Pl _ _ _ _ _ _ [iv z39] _ _
            have gp101 := w37
            rw [FRT hFT3 rfl rfl] at gp101
            clear w37
            refine y_ireturn rfl (retI_z (by omega)) ?_
            have w41 : Xi T4 876 7 = Xi S 876 7 := (show Xi T4 876 7 = Xi T3 876 7 from w40.x _ _ rfl).trans ( (show Xi T3 876 7 = Xi T2 876 7 from w33.x _ _ rfl).trans ( (show Xi T2 876 7 = Xi T1 876 7 from w26.x _ _ rfl).trans ((show Xi T1 876 7 = Xi S 876 7 from w18.x _ _ rfl))))
            exact ⟨hHT4, hFT4, _, rfl, ⟨by omega, by omega⟩, (by (first | rw [show z32 = 1 by omega] at gp77 | rw [show z32 = 0 by omega] at gp77 | skip); (first | rw [show z39 = 1 by omega] at gp101 | rw [show z39 = 0 by omega] at gp101 | skip); (try simp only [gS_1, gS_0, o_1, o_0, i10, i00, n10, n00, if_true, if_false, art7, pl7, th7, bp7, gTt, gq18, gq21, gp58, gp66, gp77, gp101]); (repeat ((first | rw [if_pos (by omega)] | rw [if_neg (by omega)]); (try simp only [gS_1, gS_0, o_1, o_0, i10, i00, n10, n00, if_true, if_false, art7, pl7, th7, bp7, gTt, gq18, gq21, gp58, gp66, gp77, gp101]))); first | done | exact pe (by omega) (by omega) | (exfalso; omega)), (by omega)⟩
          · refine y_aload_n rfl rfl ?_
            refine y_callV rfl rfl rfl (t_gr_atPlace__p hHT3 _) ?_
            rintro _ _ ⟨rfl, z44, rfl, w44, w43⟩
            show Pl _ _ _ _ _ _ [iv z44] _ _
            have gb86 := w43
            rw [FRT hFT3 rfl rfl] at gb86
            clear w43
            refine y_if_eq rfl rfl (by unfold rg; omega) (fun w45 => ?_) (fun w46 => ?_)
            · refine y_aload_n rfl rfl ?_
              have w47 : Xi T3 876 7 = Xi S 876 7 := (show Xi T3 876 7 = Xi T2 876 7 from w33.x _ _ rfl).trans ( (show Xi T2 876 7 = Xi T1 876 7 from w26.x _ _ rfl).trans ((show Xi T1 876 7 = Xi S 876 7 from w18.x _ _ rfl)))
              refine y_callV rfl rfl rfl (t_gr_takeRun__p hHT3 (by first | assumption | exact (NFR_FR hFT3 rfl rfl (by assumption : NFR S))) (by first | assumption | omega) (by first | assumption | omega) _) ?_
              rintro _ T5 ⟨hHT5, w51, z50, rfl, w50, w48, w49⟩
              have hFT5 : FR md_gr_takeTest__p S T5 := FR.tr hFT3 w51 rfl
              show Pl _ _ _ _ _ _ [iv z50] _ _
              have gp101 := w48
              rw [FRT hFT3 rfl rfl] at gp101
              clear w48
              refine y_ireturn rfl (retI_z (by omega)) ?_
              have w52 : Xi T5 876 7 = Xi S 876 7 := (show Xi T5 876 7 = Xi T3 876 7 from w51.x _ _ rfl).trans ( (show Xi T3 876 7 = Xi T2 876 7 from w33.x _ _ rfl).trans ( (show Xi T2 876 7 = Xi T1 876 7 from w26.x _ _ rfl).trans ((show Xi T1 876 7 = Xi S 876 7 from w18.x _ _ rfl))))
              exact ⟨hHT5, hFT5, _, rfl, ⟨by omega, by omega⟩, (by (first | rw [show z32 = 1 by omega] at gp77 | rw [show z32 = 0 by omega] at gp77 | skip); (first | rw [show z50 = 1 by omega] at gp101 | rw [show z50 = 0 by omega] at gp101 | skip); (try simp only [gS_1, gS_0, o_1, o_0, i10, i00, n10, n00, if_true, if_false, art7, pl7, th7, bp7, gTt, gq18, gq21, gp58, gp66, gp77, gp101]); (repeat ((first | rw [if_pos (by omega)] | rw [if_neg (by omega)]); (try simp only [gS_1, gS_0, o_1, o_0, i10, i00, n10, n00, if_true, if_false, art7, pl7, th7, bp7, gTt, gq18, gq21, gp58, gp66, gp77, gp101]))); first | done | exact pe (by omega) (by omega) | (exfalso; omega)), (by omega)⟩
            · refine y_aload_n rfl rfl ?_
              refine y_iconst rfl ?_
              have w53 : Xi T3 876 7 = Xi S 876 7 := (show Xi T3 876 7 = Xi T2 876 7 from w33.x _ _ rfl).trans ( (show Xi T2 876 7 = Xi T1 876 7 from w26.x _ _ rfl).trans ((show Xi T1 876 7 = Xi S 876 7 from w18.x _ _ rfl)))
              refine y_callV rfl rfl rfl (t_gr_takePlace__p hHT3 1 ⟨by omega, by omega⟩ (by first | assumption | exact (NFR_FR hFT3 rfl rfl (by assumption : NFR S))) (by first | assumption | omega) (by first | assumption | omega) (by rw [FRT hFT3 rfl rfl]; omega) _) ?_
              rintro _ T6 ⟨hHT6, w57, z56, rfl, w56, w54, w55⟩
              have hFT6 : FR md_gr_takeTest__p S T6 := FR.tr hFT3 w57 rfl
              show Pl _ _ _ _ _ _ [iv z56] _ _
              have gp94 := w54
              rw [FRT hFT3 rfl rfl] at gp94
              clear w54
              refine y_goto rfl rfl ?_
              refine y_ireturn rfl (retI_z (by omega)) ?_
              have w58 : Xi T6 876 7 = Xi S 876 7 := (show Xi T6 876 7 = Xi T3 876 7 from w57.x _ _ rfl).trans ( (show Xi T3 876 7 = Xi T2 876 7 from w33.x _ _ rfl).trans ( (show Xi T2 876 7 = Xi T1 876 7 from w26.x _ _ rfl).trans ((show Xi T1 876 7 = Xi S 876 7 from w18.x _ _ rfl))))
              exact ⟨hHT6, hFT6, _, rfl, ⟨by omega, by omega⟩, (by (first | rw [show z32 = 1 by omega] at gp77 | rw [show z32 = 0 by omega] at gp77 | skip); (first | rw [show z56 = 1 by omega] at gp94 | rw [show z56 = 0 by omega] at gp94 | skip); (try simp only [gS_1, gS_0, o_1, o_0, i10, i00, n10, n00, if_true, if_false, art7, pl7, th7, bp7, gTt, gq18, gq21, gp58, gp66, gp77, gp94]); (repeat ((first | rw [if_pos (by omega)] | rw [if_neg (by omega)]); (try simp only [gS_1, gS_0, o_1, o_0, i10, i00, n10, n00, if_true, if_false, art7, pl7, th7, bp7, gTt, gq18, gq21, gp58, gp66, gp77, gp94]))); first | done | exact pe (by omega) (by omega) | (exfalso; omega)), (by omega)⟩
        · rw [show z25 = 0 by omega] at gp66
          refine y_iconst rfl ?_
          refine y_ireturn rfl rfl ?_
          have w59 : Xi T2 876 7 = Xi S 876 7 := (show Xi T2 876 7 = Xi T1 876 7 from w26.x _ _ rfl).trans ((show Xi T1 876 7 = Xi S 876 7 from w18.x _ _ rfl))
          exact ⟨hHT2, hFT2, _, rfl, ⟨by omega, by omega⟩, (by (try simp only [gS_1, gS_0, o_1, o_0, i10, i00, n10, n00, if_true, if_false, art7, pl7, th7, bp7, gTt, gq18, gq21, gp58, gp66]); (repeat ((first | rw [if_pos (by omega)] | rw [if_neg (by omega)]); (try simp only [gS_1, gS_0, o_1, o_0, i10, i00, n10, n00, if_true, if_false, art7, pl7, th7, bp7, gTt, gq18, gq21, gp58, gp66]))); first | done | exact pe (by omega) (by omega) | (exfalso; omega)), (by omega)⟩
    · refine y_aload_n rfl rfl ?_
      refine y_iload_n rfl rfl ?_
      refine y_callV rfl rfl rfl (t_gr_takePropertyTest__p hH now ⟨by omega, by omega⟩ (by first | assumption | exact (NFR_FR hF rfl rfl (by assumption : NFR S))) (by first | assumption | omega) (by first | assumption | omega) (by first | assumption | omega) _) ?_
      rintro _ T7 ⟨hHT7, w63, z62, rfl, w62, w60, w61⟩
      have hFT7 : FR md_gr_takeTest__p S T7 := FR.tr hF w63 rfl
      show Pl _ _ _ _ _ _ [iv z62] _ _
      have gp53 := w60
      clear w60
      refine y_ireturn rfl (retI_z (by omega)) ?_
      have w64 : Xi T7 876 7 = Xi S 876 7 := (show Xi T7 876 7 = Xi S 876 7 from w63.x _ _ rfl)
      exact ⟨hHT7, hFT7, _, rfl, ⟨by omega, by omega⟩, (by (first | rw [show z62 = 1 by omega] at gp53 | rw [show z62 = 0 by omega] at gp53 | skip); (try simp only [gS_1, gS_0, o_1, o_0, i10, i00, n10, n00, if_true, if_false, art7, pl7, th7, bp7, gTt, gq18, gq21, gp53]); (repeat ((first | rw [if_pos (by omega)] | rw [if_neg (by omega)]); (try simp only [gS_1, gS_0, o_1, o_0, i10, i00, n10, n00, if_true, if_false, art7, pl7, th7, bp7, gTt, gq18, gq21, gp53]))); first | done | exact pe (by omega) (by omega) | (exfalso; omega)), (by omega)⟩
  · refine y_aload_n rfl rfl ?_
    refine y_bipush rfl rfl ?_
    refine y_bipush rfl rfl ?_
    refine y_callV rfl rfl rfl (t_gr_takeLoose__p hH 54 53 ⟨by omega, by omega⟩ ⟨by omega, by omega⟩ (by first | assumption | exact (NFR_FR hF rfl rfl (by assumption : NFR S))) (by first | assumption | omega) (by first | assumption | omega) (by omega) _) ?_
    rintro _ T8 ⟨hHT8, w68, z67, rfl, w67, w65, w66⟩
    have hFT8 : FR md_gr_takeTest__p S T8 := FR.tr hF w68 rfl
    show Pl _ _ _ _ _ _ [iv z67] _ _
    have gp33 := w65
    clear w65
    refine y_ireturn rfl (retI_z (by omega)) ?_
    have w69 : Xi T8 876 7 = Xi S 876 7 := (show Xi T8 876 7 = Xi S 876 7 from w68.x _ _ rfl)
    exact ⟨hHT8, hFT8, _, rfl, ⟨by omega, by omega⟩, (by (first | rw [show z67 = 1 by omega] at gp33 | rw [show z67 = 0 by omega] at gp33 | skip); (try simp only [gS_1, gS_0, o_1, o_0, i10, i00, n10, n00, if_true, if_false, art7, pl7, th7, bp7, gTt, gq18, gq21, gp33]); (repeat ((first | rw [if_pos (by omega)] | rw [if_neg (by omega)]); (try simp only [gS_1, gS_0, o_1, o_0, i10, i00, n10, n00, if_true, if_false, art7, pl7, th7, bp7, gTt, gq18, gq21, gp33]))); first | done | exact pe (by omega) (by omega) | (exfalso; omega)), (by omega)⟩
def md_gr_takeTests__p : List rec := [(890, 891, 1, 2)]
abbrev Q_gr_takeTests__p (S : sS) : pst := fun r S1 => RI S1 ∧ FR md_gr_takeTests__p S S1 ∧ (∃ z : Int, r = some (iv z) ∧ (0 ≤ z ∧ z ≤ 1) ∧ (gTs (ty7 S) (Xi S 890 1) = (z, Xi S1 890 1)) ∧ (Xi S 890 1 ≤ Xi S1 890 1 ∧ Xi S1 890 1 ≤ Xi S 876 7))
set_option maxRecDepth 100000 in
theorem t_gr_takeTests__p {S : sS} (hH : RI S) (hfr : NFR S) (hr : Xi S 876 7 ≤ 5130) (ha : 0 ≤ Xi S 890 1 ∧ Xi S 890 1 ≤ Xi S 876 7) (d : Nat) : Mp lay0 (d + 6) m_gr_takeTests [.ref 890] S (Q_gr_takeTests__p S) := by
  refine Mp_R rfl rfl (fun fu => ?_)
  have hF : FR md_gr_takeTests__p S S := FR.rf
  have w1 : -2147483648 ≤ Xi S 876 7 ∧ Xi S 876 7 ≤ 2147483647 := Xi_rgI
  have w2 : -2147483648 ≤ Xi S 890 1 ∧ Xi S 890 1 ≤ 2147483647 := Xi_rgI
  have C8 : ∀ (n8 : Nat) (_ : n8 ≤ fu) (T1 : sS) (_ : RI T1) (_ : FR md_gr_takeTests__p S T1) (v1 : Int) (v2 : Int), (0 ≤ v1 ∧ v1 ≤ 1) → (-2147483648 ≤ v2 ∧ v2 ≤ 2147483647) → ((v1 = 1 → gTs (ty7 S) (Xi S 890 1) = gTsn (ty7 S) (5000 - v2).toNat (Xi T1 890 1)) ∧ (v1 = 0 → gTs (ty7 S) (Xi S 890 1) = (0, Xi T1 890 1))) → (0 ≤ v2 ∧ v2 ≤ 5000) → (Xi S 890 1 ≤ Xi T1 890 1 ∧ Xi T1 890 1 ≤ Xi S 876 7) → Pl n8 lay0 (d + 5) m_gr_takeTests 8 [(0, .ref 890), (1, iv v1), (2, iv v2)] [] T1 (Q_gr_takeTests__p S) := by
    intro n8
    induction n8 with
    | zero => intros; exact Pl_0
    | succ n8 ih8 =>
      intro hm8 T1 hHT1 hFT1 v1 v2 w3 w4 L8 w5 w6
      have w7 : Xi T1 876 7 = Xi S 876 7 := hFT1.x _ _ rfl
      have w8 : -2147483648 ≤ Xi T1 876 7 ∧ Xi T1 876 7 ≤ 2147483647 := Xi_rgI
      have w9 : -2147483648 ≤ Xi T1 890 1 ∧ Xi T1 890 1 ≤ 2147483647 := Xi_rgI
      have C40 : ∀  (T2 : sS) (_ : RI T2) (_ : FR md_gr_takeTests__p S T2) (v1 : Int), (0 ≤ v1 ∧ v1 ≤ 1) → (gTs (ty7 S) (Xi S 890 1) = (v1, Xi T2 890 1)) → (Xi S 890 1 ≤ Xi T2 890 1 ∧ Xi T2 890 1 ≤ Xi S 876 7) → Pl n8 lay0 (d + 5) m_gr_takeTests 40 [(1, iv v1)] [] T2 (Q_gr_takeTests__p S) := by
        intro T2 hHT2 hFT2 v1 w10 L40 w11
        have w12 : Xi T2 876 7 = Xi S 876 7 := hFT2.x _ _ rfl
        have w13 : -2147483648 ≤ Xi T2 876 7 ∧ Xi T2 876 7 ≤ 2147483647 := Xi_rgI
        have w14 : -2147483648 ≤ Xi T2 890 1 ∧ Xi T2 890 1 ≤ 2147483647 := Xi_rgI
        refine y_iload_n rfl rfl ?_
        refine y_ireturn rfl (retI_z (by omega)) ?_
        exact ⟨hHT2, hFT2, _, rfl, ⟨by omega, by omega⟩, (L40), (by omega)⟩
      refine ys_iload_n rfl rfl ?_
      refine y_sipush rfl rfl ?_
      refine y_icmp_ge rfl rfl (by unfold rg; omega) (by unfold rg; omega) (fun w15 => ?_) (fun w16 => ?_)
      · exact Pl_weak (C40 T1 hHT1 hFT1 (v1) (by omega) (by first | exact lp_o (fun _ => rfl) L8 (by omega) (by omega) | (rw [lp_n (fun _ _ => rfl) (L8.1 (by omega)) (by omega) gp22 (by omega)]; exact pe (by omega) rfl) | (rw [lp_e (fun _ => rfl) (L8.1 (by omega)) (by omega)]; exact pe (by omega) rfl) | (rw [L8.2 (by omega)]; exact pe (by omega) rfl)) (by omega)) (by omega) (And.intro rfl (True.intro))
      · refine y_iload_n rfl rfl ?_
        refine y_if_eq rfl rfl (by unfold rg; omega) (fun w17 => ?_) (fun w18 => ?_)
        · exact Pl_weak (C40 T1 hHT1 hFT1 (v1) (by omega) (by first | exact lp_o (fun _ => rfl) L8 (by omega) (by omega) | (rw [lp_n (fun _ _ => rfl) (L8.1 (by omega)) (by omega) gp22 (by omega)]; exact pe (by omega) rfl) | (rw [lp_e (fun _ => rfl) (L8.1 (by omega)) (by omega)]; exact pe (by omega) rfl) | (rw [L8.2 (by omega)]; exact pe (by omega) rfl)) (by omega)) (by omega) (And.intro rfl (True.intro))
        · refine y_aload_n rfl rfl ?_
          refine y_bipush rfl rfl ?_
          refine y_callV rfl rfl rfl (t_gr_take__p hHT1 16 ⟨by omega, by omega⟩ (by first | assumption | exact (NFR_FR hFT1 rfl rfl (by assumption : NFR S))) (by first | assumption | omega) (by first | assumption | omega) _) ?_
          rintro _ T3 ⟨hHT3, w22, z21, rfl, w21, w19, w20⟩
          have hFT3 : FR md_gr_takeTests__p S T3 := FR.tr hFT1 w22 rfl
          show Pl _ _ _ _ _ _ [iv z21] _ _
          have gp22 := w19
          rw [FRT hFT1 rfl rfl] at gp22
          clear w19
          refine y_if_eq rfl rfl (by unfold rg; omega) (fun w23 => ?_) (fun w24 => ?_)
          · rw [show z21 = 0 by omega] at gp22
            have w25 : Xi T3 876 7 = Xi T1 876 7 := (show Xi T3 876 7 = Xi T1 876 7 from w22.x _ _ rfl)
            exact Pl_weak (C40 T3 hHT3 hFT3 (v1) (by omega) (by first | exact lp_o (fun _ => rfl) L8 (by omega) (by omega) | (rw [lp_n (fun _ _ => rfl) (L8.1 (by omega)) (by omega) gp22 (by omega)]; exact pe (by omega) rfl) | (rw [lp_e (fun _ => rfl) (L8.1 (by omega)) (by omega)]; exact pe (by omega) rfl) | (rw [L8.2 (by omega)]; exact pe (by omega) rfl)) (by omega)) (by omega) (And.intro rfl (True.intro))
          · rw [show z21 = 1 by omega] at gp22
            refine y_aload_n rfl rfl ?_
            refine y_iconst rfl ?_
            have w26 : Xi T3 876 7 = Xi T1 876 7 := (show Xi T3 876 7 = Xi T1 876 7 from w22.x _ _ rfl)
            refine y_callV rfl rfl rfl (t_gr_takeTest__p hHT3 0 ⟨by omega, by omega⟩ (by first | assumption | exact (NFR_FR hFT3 rfl rfl (by assumption : NFR S))) (by first | assumption | omega) (by first | assumption | omega) _) ?_
            rintro _ T4 ⟨hHT4, w30, z29, rfl, w29, w27, w28⟩
            have hFT4 : FR md_gr_takeTests__p S T4 := FR.tr hFT3 w30 rfl
            show Pl _ _ _ _ _ _ [iv z29] _ _
            have gp30 := w27
            rw [FRT hFT3 rfl rfl] at gp30
            clear w27
            refine y_istore_n rfl rfl rfl ?_
            refine y_iinc rfl rfl rfl rfl ?_
            refine y_goto rfl rfl ?_
            have w31 : Xi T4 876 7 = Xi T1 876 7 := (show Xi T4 876 7 = Xi T3 876 7 from w30.x _ _ rfl).trans ((show Xi T3 876 7 = Xi T1 876 7 from w22.x _ _ rfl))
            exact Pl_weak (ih8 (by omega) T4 hHT4 hFT4 (z29) ((v2 + 1)) (by omega) (by omega) (by first | exact lp_0 (T := ty7 S) (f := gTt (ty7 S) 0) (l := gTsn (ty7 S)) (N := 5000) rfl gp2 | exact lp_s (fun _ _ => rfl) (L8.1 (by omega)) (by omega) gp22 (by omega) gp30) (by omega) (by omega)) (by omega) (And.intro rfl (And.intro rfl (And.intro rfl (True.intro))))
  refine y_aload_n rfl rfl ?_
  refine y_iconst rfl ?_
  refine y_callV rfl rfl rfl (t_gr_takeTest__p hH 0 ⟨by omega, by omega⟩ (by first | assumption | exact (NFR_FR hF rfl rfl (by assumption : NFR S))) (by first | assumption | omega) (by first | assumption | omega) _) ?_
  rintro _ T5 ⟨hHT5, w35, z34, rfl, w34, w32, w33⟩
  have hFT5 : FR md_gr_takeTests__p S T5 := FR.tr hF w35 rfl
  show Pl _ _ _ _ _ _ [iv z34] _ _
  have gp2 := w32
  clear w32
  refine y_istore_n rfl rfl rfl ?_
  refine y_iconst rfl ?_
  refine y_istore_n rfl rfl rfl ?_
  have w36 : Xi T5 876 7 = Xi S 876 7 := (show Xi T5 876 7 = Xi S 876 7 from w35.x _ _ rfl)
  exact Pl_weak (C8 fu (by omega) T5 hHT5 hFT5 (z34) (0) (by omega) (by omega) (by first | exact lp_0 (T := ty7 S) (f := gTt (ty7 S) 0) (l := gTsn (ty7 S)) (N := 5000) rfl gp2 | exact lp_s (fun _ _ => rfl) (L8.1 (by omega)) (by omega) gp22 (by omega) gp30) (by omega) (by omega)) (by omega) (And.intro rfl (And.intro rfl (And.intro rfl (True.intro))))
def md_gr_takeActing__p : List rec := [(890, 891, 1, 2)]
abbrev Q_gr_takeActing__p (S : sS) : pst := fun r S1 => RI S1 ∧ FR md_gr_takeActing__p S S1 ∧ (∃ z : Int, r = some (iv z) ∧ (0 ≤ z ∧ z ≤ 1) ∧ (gAc (ty7 S) (Xi S 890 1) = (z, Xi S1 890 1)) ∧ (Xi S 890 1 ≤ Xi S1 890 1 ∧ Xi S1 890 1 ≤ Xi S 876 7))
set_option maxRecDepth 100000 in
theorem t_gr_takeActing__p {S : sS} (hH : RI S) (hfr : NFR S) (hr : Xi S 876 7 ≤ 5130) (ha : 0 ≤ Xi S 890 1 ∧ Xi S 890 1 ≤ Xi S 876 7) (d : Nat) : Mp lay0 (d + 3) m_gr_takeActing [.ref 890] S (Q_gr_takeActing__p S) := by
  refine Mp_R rfl rfl (fun fu => ?_)
  have hF : FR md_gr_takeActing__p S S := FR.rf
  have w1 : -2147483648 ≤ Xi S 876 7 ∧ Xi S 876 7 ≤ 2147483647 := Xi_rgI
  have w2 : -2147483648 ≤ Xi S 890 1 ∧ Xi S 890 1 ≤ 2147483647 := Xi_rgI
  refine y_aload_n rfl rfl ?_
  refine y_callV rfl rfl rfl (t_gr_takeRun__p hH (by first | assumption | exact (NFR_FR hF rfl rfl (by assumption : NFR S))) (by first | assumption | omega) (by first | assumption | omega) _) ?_
  rintro _ T1 ⟨hHT1, w6, z5, rfl, w5, w3, w4⟩
  have hFT1 : FR md_gr_takeActing__p S T1 := FR.tr hF w6 rfl
  show Pl _ _ _ _ _ _ [iv z5] _ _
  have gp1 := w3
  clear w3
  refine y_if_eq rfl rfl (by unfold rg; omega) (fun w7 => ?_) (fun w8 => ?_)
  · rw [show z5 = 0 by omega] at gp1
    refine y_iconst rfl ?_
    refine y_ireturn rfl rfl ?_
    have w9 : Xi T1 876 7 = Xi S 876 7 := (show Xi T1 876 7 = Xi S 876 7 from w6.x _ _ rfl)
    exact ⟨hHT1, hFT1, _, rfl, ⟨by omega, by omega⟩, (by (try simp only [gS_1, gS_0, o_1, o_0, i10, i00, n10, n00, if_true, if_false, art7, pl7, th7, bp7, gAc, gp1]); (repeat ((first | rw [if_pos (by omega)] | rw [if_neg (by omega)]); (try simp only [gS_1, gS_0, o_1, o_0, i10, i00, n10, n00, if_true, if_false, art7, pl7, th7, bp7, gAc, gp1]))); first | done | exact pe (by omega) (by omega) | (exfalso; omega)), (by omega)⟩
  · rw [show z5 = 1 by omega] at gp1
    refine y_aload_n rfl rfl ?_
    have w10 : Xi T1 876 7 = Xi S 876 7 := (show Xi T1 876 7 = Xi S 876 7 from w6.x _ _ rfl)
    refine y_callV rfl rfl rfl (t_gr_takeArt__p hHT1 (by first | assumption | exact (NFR_FR hFT1 rfl rfl (by assumption : NFR S))) (by first | assumption | omega) (by first | assumption | omega) _) ?_
    rintro _ T2 ⟨hHT2, w14, z13, rfl, w13, w11, w12⟩
    have hFT2 : FR md_gr_takeActing__p S T2 := FR.tr hFT1 w14 rfl
    show Pl _ _ _ _ _ _ [iv z13] _ _
    have gp8 := w11
    rw [FRT hFT1 rfl rfl] at gp8
    clear w11
    refine y_if_eq rfl rfl (by unfold rg; omega) (fun w15 => ?_) (fun w16 => ?_)
    · rw [show z13 = 0 by omega] at gp8
      refine y_iconst rfl ?_
      refine y_goto rfl rfl ?_
      refine y_ireturn rfl rfl ?_
      have w17 : Xi T2 876 7 = Xi S 876 7 := (show Xi T2 876 7 = Xi T1 876 7 from w14.x _ _ rfl).trans ((show Xi T1 876 7 = Xi S 876 7 from w6.x _ _ rfl))
      exact ⟨hHT2, hFT2, _, rfl, ⟨by omega, by omega⟩, (by (try simp only [gS_1, gS_0, o_1, o_0, i10, i00, n10, n00, if_true, if_false, art7, pl7, th7, bp7, gAc, gp1, gp8]); (repeat ((first | rw [if_pos (by omega)] | rw [if_neg (by omega)]); (try simp only [gS_1, gS_0, o_1, o_0, i10, i00, n10, n00, if_true, if_false, art7, pl7, th7, bp7, gAc, gp1, gp8]))); first | done | exact pe (by omega) (by omega) | (exfalso; omega)), (by omega)⟩
    · rw [show z13 = 1 by omega] at gp8
      refine y_aload_n rfl rfl ?_
      have w18 : Xi T2 876 7 = Xi S 876 7 := (show Xi T2 876 7 = Xi T1 876 7 from w14.x _ _ rfl).trans ((show Xi T1 876 7 = Xi S 876 7 from w6.x _ _ rfl))
      refine y_callV rfl rfl rfl (t_gr_takeRun__p hHT2 (by first | assumption | exact (NFR_FR hFT2 rfl rfl (by assumption : NFR S))) (by first | assumption | omega) (by first | assumption | omega) _) ?_
      rintro _ T3 ⟨hHT3, w22, z21, rfl, w21, w19, w20⟩
      have hFT3 : FR md_gr_takeActing__p S T3 := FR.tr hFT2 w22 rfl
      show Pl _ _ _ _ _ _ [iv z21] _ _
      have gp15 := w19
      rw [FRT hFT2 rfl rfl] at gp15
      clear w19
      refine y_if_eq rfl rfl (by unfold rg; omega) (fun w23 => ?_) (fun w24 => ?_)
      · rw [show z21 = 0 by omega] at gp15
        refine y_iconst rfl ?_
        refine y_ireturn rfl rfl ?_
        have w25 : Xi T3 876 7 = Xi S 876 7 := (show Xi T3 876 7 = Xi T2 876 7 from w22.x _ _ rfl).trans ( (show Xi T2 876 7 = Xi T1 876 7 from w14.x _ _ rfl).trans ((show Xi T1 876 7 = Xi S 876 7 from w6.x _ _ rfl)))
        exact ⟨hHT3, hFT3, _, rfl, ⟨by omega, by omega⟩, (by (try simp only [gS_1, gS_0, o_1, o_0, i10, i00, n10, n00, if_true, if_false, art7, pl7, th7, bp7, gAc, gp1, gp8, gp15]); (repeat ((first | rw [if_pos (by omega)] | rw [if_neg (by omega)]); (try simp only [gS_1, gS_0, o_1, o_0, i10, i00, n10, n00, if_true, if_false, art7, pl7, th7, bp7, gAc, gp1, gp8, gp15]))); first | done | exact pe (by omega) (by omega) | (exfalso; omega)), (by omega)⟩
      · rw [show z21 = 1 by omega] at gp15
        refine y_iconst rfl ?_
        refine y_goto rfl rfl ?_
        refine y_ireturn rfl rfl ?_
        have w26 : Xi T3 876 7 = Xi S 876 7 := (show Xi T3 876 7 = Xi T2 876 7 from w22.x _ _ rfl).trans ( (show Xi T2 876 7 = Xi T1 876 7 from w14.x _ _ rfl).trans ((show Xi T1 876 7 = Xi S 876 7 from w6.x _ _ rfl)))
        exact ⟨hHT3, hFT3, _, rfl, ⟨by omega, by omega⟩, (by (try simp only [gS_1, gS_0, o_1, o_0, i10, i00, n10, n00, if_true, if_false, art7, pl7, th7, bp7, gAc, gp1, gp8, gp15]); (repeat ((first | rw [if_pos (by omega)] | rw [if_neg (by omega)]); (try simp only [gS_1, gS_0, o_1, o_0, i10, i00, n10, n00, if_true, if_false, art7, pl7, th7, bp7, gAc, gp1, gp8, gp15]))); first | done | exact pe (by omega) (by omega) | (exfalso; omega)), (by omega)⟩
def md_gr_takePhrase__p : List rec := [(890, 891, 1, 2)]
abbrev Q_gr_takePhrase__p (S : sS) : pst := fun r S1 => RI S1 ∧ FR md_gr_takePhrase__p S S1 ∧ (∃ z : Int, r = some (iv z) ∧ (0 ≤ z ∧ z ≤ 1) ∧ (gPh (ty7 S) (Xi S 890 1) = (z, Xi S1 890 1)) ∧ (Xi S 890 1 ≤ Xi S1 890 1 ∧ Xi S1 890 1 ≤ Xi S 876 7))
set_option maxRecDepth 100000 in
theorem t_gr_takePhrase__p {S : sS} (hH : RI S) (hfr : NFR S) (hr : Xi S 876 7 ≤ 5130) (ha : 0 ≤ Xi S 890 1 ∧ Xi S 890 1 ≤ Xi S 876 7) (d : Nat) : Mp lay0 (d + 4) m_gr_takePhrase [.ref 890] S (Q_gr_takePhrase__p S) := by
  refine Mp_R rfl rfl (fun fu => ?_)
  have hF : FR md_gr_takePhrase__p S S := FR.rf
  have w1 : -2147483648 ≤ Xi S 876 7 ∧ Xi S 876 7 ≤ 2147483647 := Xi_rgI
  have w2 : -2147483648 ≤ Xi S 890 1 ∧ Xi S 890 1 ≤ 2147483647 := Xi_rgI
  refine y_aload_n rfl rfl ?_
  refine y_bipush rfl rfl ?_
  refine y_callV rfl rfl rfl (t_gr_take__p hH 43 ⟨by omega, by omega⟩ (by first | assumption | exact (NFR_FR hF rfl rfl (by assumption : NFR S))) (by first | assumption | omega) (by first | assumption | omega) _) ?_
  rintro _ T1 ⟨hHT1, w6, z5, rfl, w5, w3, w4⟩
  have hFT1 : FR md_gr_takePhrase__p S T1 := FR.tr hF w6 rfl
  show Pl _ _ _ _ _ _ [iv z5] _ _
  have gp3 := w3
  clear w3
  refine y_if_eq rfl rfl (by unfold rg; omega) (fun w7 => ?_) (fun w8 => ?_)
  · rw [show z5 = 0 by omega] at gp3
    refine y_aload_n rfl rfl ?_
    refine y_bipush rfl rfl ?_
    have w9 : Xi T1 876 7 = Xi S 876 7 := (show Xi T1 876 7 = Xi S 876 7 from w6.x _ _ rfl)
    refine y_callV rfl rfl rfl (t_gr_take__p hHT1 45 ⟨by omega, by omega⟩ (by first | assumption | exact (NFR_FR hFT1 rfl rfl (by assumption : NFR S))) (by first | assumption | omega) (by first | assumption | omega) _) ?_
    rintro _ T2 ⟨hHT2, w13, z12, rfl, w12, w10, w11⟩
    have hFT2 : FR md_gr_takePhrase__p S T2 := FR.tr hFT1 w13 rfl
    show Pl _ _ _ _ _ _ [iv z12] _ _
    have gp19 := w10
    rw [FRT hFT1 rfl rfl] at gp19
    clear w10
    refine y_if_eq rfl rfl (by unfold rg; omega) (fun w14 => ?_) (fun w15 => ?_)
    · rw [show z12 = 0 by omega] at gp19
      refine y_aload_n rfl rfl ?_
      refine y_bipush rfl rfl ?_
      have w16 : Xi T2 876 7 = Xi S 876 7 := (show Xi T2 876 7 = Xi T1 876 7 from w13.x _ _ rfl).trans ((show Xi T1 876 7 = Xi S 876 7 from w6.x _ _ rfl))
      refine y_callV rfl rfl rfl (t_gr_take__p hHT2 46 ⟨by omega, by omega⟩ (by first | assumption | exact (NFR_FR hFT2 rfl rfl (by assumption : NFR S))) (by first | assumption | omega) (by first | assumption | omega) _) ?_
      rintro _ T3 ⟨hHT3, w20, z19, rfl, w19, w17, w18⟩
      have hFT3 : FR md_gr_takePhrase__p S T3 := FR.tr hFT2 w20 rfl
      show Pl _ _ _ _ _ _ [iv z19] _ _
      have gp57 := w17
      rw [FRT hFT2 rfl rfl] at gp57
      clear w17
      refine y_if_ne rfl rfl (by unfold rg; omega) (fun w21 => ?_) (fun w22 => ?_)
      · rw [show z19 = 1 by omega] at gp57
        refine y_aload_n rfl rfl ?_
        refine y_iconst rfl ?_
        have w23 : Xi T3 876 7 = Xi S 876 7 := (show Xi T3 876 7 = Xi T2 876 7 from w20.x _ _ rfl).trans ( (show Xi T2 876 7 = Xi T1 876 7 from w13.x _ _ rfl).trans ((show Xi T1 876 7 = Xi S 876 7 from w6.x _ _ rfl)))
        refine y_callV rfl rfl rfl (t_gr_take__p hHT3 2 ⟨by omega, by omega⟩ (by first | assumption | exact (NFR_FR hFT3 rfl rfl (by assumption : NFR S))) (by first | assumption | omega) (by first | assumption | omega) _) ?_
        rintro _ T4 ⟨hHT4, w27, z26, rfl, w26, w24, w25⟩
        have hFT4 : FR md_gr_takePhrase__p S T4 := FR.tr hFT3 w27 rfl
        show Pl _ _ _ _ _ _ [iv z26] _ _
        have gp74 := w24
        rw [FRT hFT3 rfl rfl] at gp74
        clear w24
        refine y_if_eq rfl rfl (by unfold rg; omega) (fun w28 => ?_) (fun w29 => ?_)
        · rw [show z26 = 0 by omega] at gp74
          refine y_iconst rfl ?_
          refine y_ireturn rfl rfl ?_
          have w30 : Xi T4 876 7 = Xi S 876 7 := (show Xi T4 876 7 = Xi T3 876 7 from w27.x _ _ rfl).trans ( (show Xi T3 876 7 = Xi T2 876 7 from w20.x _ _ rfl).trans ( (show Xi T2 876 7 = Xi T1 876 7 from w13.x _ _ rfl).trans ((show Xi T1 876 7 = Xi S 876 7 from w6.x _ _ rfl))))
          exact ⟨hHT4, hFT4, _, rfl, ⟨by omega, by omega⟩, (by (try simp only [gS_1, gS_0, o_1, o_0, i10, i00, n10, n00, if_true, if_false, art7, pl7, th7, bp7, gPh, gp3, gp19, gp57, gp74]); (repeat ((first | rw [if_pos (by omega)] | rw [if_neg (by omega)]); (try simp only [gS_1, gS_0, o_1, o_0, i10, i00, n10, n00, if_true, if_false, art7, pl7, th7, bp7, gPh, gp3, gp19, gp57, gp74]))); first | done | exact pe (by omega) (by omega) | (exfalso; omega)), (by omega)⟩
        · rw [show z26 = 1 by omega] at gp74
          refine y_aload_n rfl rfl ?_
          have w31 : Xi T4 876 7 = Xi S 876 7 := (show Xi T4 876 7 = Xi T3 876 7 from w27.x _ _ rfl).trans ( (show Xi T3 876 7 = Xi T2 876 7 from w20.x _ _ rfl).trans ( (show Xi T2 876 7 = Xi T1 876 7 from w13.x _ _ rfl).trans ((show Xi T1 876 7 = Xi S 876 7 from w6.x _ _ rfl))))
          refine y_callV rfl rfl rfl (t_gr_takeRun__p hHT4 (by first | assumption | exact (NFR_FR hFT4 rfl rfl (by assumption : NFR S))) (by first | assumption | omega) (by first | assumption | omega) _) ?_
          rintro _ T5 ⟨hHT5, w35, z34, rfl, w34, w32, w33⟩
          have hFT5 : FR md_gr_takePhrase__p S T5 := FR.tr hFT4 w35 rfl
          show Pl _ _ _ _ _ _ [iv z34] _ _
          have gp81 := w32
          rw [FRT hFT4 rfl rfl] at gp81
          clear w32
          refine y_if_eq rfl rfl (by unfold rg; omega) (fun w36 => ?_) (fun w37 => ?_)
          · rw [show z34 = 0 by omega] at gp81
            refine y_iconst rfl ?_
            refine y_ireturn rfl rfl ?_
            have w38 : Xi T5 876 7 = Xi S 876 7 := (show Xi T5 876 7 = Xi T4 876 7 from w35.x _ _ rfl).trans ( (show Xi T4 876 7 = Xi T3 876 7 from w27.x _ _ rfl).trans ( (show Xi T3 876 7 = Xi T2 876 7 from w20.x _ _ rfl).trans ( (show Xi T2 876 7 = Xi T1 876 7 from w13.x _ _ rfl).trans ((show Xi T1 876 7 = Xi S 876 7 from w6.x _ _ rfl)))))
            exact ⟨hHT5, hFT5, _, rfl, ⟨by omega, by omega⟩, (by (try simp only [gS_1, gS_0, o_1, o_0, i10, i00, n10, n00, if_true, if_false, art7, pl7, th7, bp7, gPh, gp3, gp19, gp57, gp74, gp81]); (repeat ((first | rw [if_pos (by omega)] | rw [if_neg (by omega)]); (try simp only [gS_1, gS_0, o_1, o_0, i10, i00, n10, n00, if_true, if_false, art7, pl7, th7, bp7, gPh, gp3, gp19, gp57, gp74, gp81]))); first | done | exact pe (by omega) (by omega) | (exfalso; omega)), (by omega)⟩
          · rw [show z34 = 1 by omega] at gp81
            refine y_aload_n rfl rfl ?_
            refine y_bipush rfl rfl ?_
            have w39 : Xi T5 876 7 = Xi S 876 7 := (show Xi T5 876 7 = Xi T4 876 7 from w35.x _ _ rfl).trans ( (show Xi T4 876 7 = Xi T3 876 7 from w27.x _ _ rfl).trans ( (show Xi T3 876 7 = Xi T2 876 7 from w20.x _ _ rfl).trans ( (show Xi T2 876 7 = Xi T1 876 7 from w13.x _ _ rfl).trans ((show Xi T1 876 7 = Xi S 876 7 from w6.x _ _ rfl)))))
            refine y_callV rfl rfl rfl (t_gr_take__p hHT5 7 ⟨by omega, by omega⟩ (by first | assumption | exact (NFR_FR hFT5 rfl rfl (by assumption : NFR S))) (by first | assumption | omega) (by first | assumption | omega) _) ?_
            rintro _ T6 ⟨hHT6, w43, z42, rfl, w42, w40, w41⟩
            have hFT6 : FR md_gr_takePhrase__p S T6 := FR.tr hFT5 w43 rfl
            show Pl _ _ _ _ _ _ [iv z42] _ _
            have gp90 := w40
            rw [FRT hFT5 rfl rfl] at gp90
            clear w40
            refine y_if_eq rfl rfl (by unfold rg; omega) (fun w44 => ?_) (fun w45 => ?_)
            · rw [show z42 = 0 by omega] at gp90
              refine y_iconst rfl ?_
              refine y_ireturn rfl rfl ?_
              have w46 : Xi T6 876 7 = Xi S 876 7 := (show Xi T6 876 7 = Xi T5 876 7 from w43.x _ _ rfl).trans ( (show Xi T5 876 7 = Xi T4 876 7 from w35.x _ _ rfl).trans ( (show Xi T4 876 7 = Xi T3 876 7 from w27.x _ _ rfl).trans ( (show Xi T3 876 7 = Xi T2 876 7 from w20.x _ _ rfl).trans ( (show Xi T2 876 7 = Xi T1 876 7 from w13.x _ _ rfl).trans ((show Xi T1 876 7 = Xi S 876 7 from w6.x _ _ rfl))))))
              exact ⟨hHT6, hFT6, _, rfl, ⟨by omega, by omega⟩, (by (try simp only [gS_1, gS_0, o_1, o_0, i10, i00, n10, n00, if_true, if_false, art7, pl7, th7, bp7, gPh, gp3, gp19, gp57, gp74, gp81, gp90]); (repeat ((first | rw [if_pos (by omega)] | rw [if_neg (by omega)]); (try simp only [gS_1, gS_0, o_1, o_0, i10, i00, n10, n00, if_true, if_false, art7, pl7, th7, bp7, gPh, gp3, gp19, gp57, gp74, gp81, gp90]))); first | done | exact pe (by omega) (by omega) | (exfalso; omega)), (by omega)⟩
            · rw [show z42 = 1 by omega] at gp90
              refine y_aload_n rfl rfl ?_
              have w47 : Xi T6 876 7 = Xi S 876 7 := (show Xi T6 876 7 = Xi T5 876 7 from w43.x _ _ rfl).trans ( (show Xi T5 876 7 = Xi T4 876 7 from w35.x _ _ rfl).trans ( (show Xi T4 876 7 = Xi T3 876 7 from w27.x _ _ rfl).trans ( (show Xi T3 876 7 = Xi T2 876 7 from w20.x _ _ rfl).trans ( (show Xi T2 876 7 = Xi T1 876 7 from w13.x _ _ rfl).trans ((show Xi T1 876 7 = Xi S 876 7 from w6.x _ _ rfl))))))
              refine y_callV rfl rfl rfl (t_gr_takeThing__p hHT6 (by first | assumption | exact (NFR_FR hFT6 rfl rfl (by assumption : NFR S))) (by first | assumption | omega) (by first | assumption | omega) _) ?_
              rintro _ T7 ⟨hHT7, w51, z50, rfl, w50, w48, w49⟩
              have hFT7 : FR md_gr_takePhrase__p S T7 := FR.tr hFT6 w51 rfl
              show Pl _ _ _ _ _ _ [iv z50] _ _
              have gp97 := w48
              rw [FRT hFT6 rfl rfl] at gp97
              clear w48
              refine y_if_eq rfl rfl (by unfold rg; omega) (fun w52 => ?_) (fun w53 => ?_)
              · rw [show z50 = 0 by omega] at gp97
                refine y_iconst rfl ?_
                refine y_ireturn rfl rfl ?_
                have w54 : Xi T7 876 7 = Xi S 876 7 := (show Xi T7 876 7 = Xi T6 876 7 from w51.x _ _ rfl).trans ( (show Xi T6 876 7 = Xi T5 876 7 from w43.x _ _ rfl).trans ( (show Xi T5 876 7 = Xi T4 876 7 from w35.x _ _ rfl).trans ( (show Xi T4 876 7 = Xi T3 876 7 from w27.x _ _ rfl).trans ( (show Xi T3 876 7 = Xi T2 876 7 from w20.x _ _ rfl).trans ( (show Xi T2 876 7 = Xi T1 876 7 from w13.x _ _ rfl).trans ((show Xi T1 876 7 = Xi S 876 7 from w6.x _ _ rfl)))))))
                exact ⟨hHT7, hFT7, _, rfl, ⟨by omega, by omega⟩, (by (try simp only [gS_1, gS_0, o_1, o_0, i10, i00, n10, n00, if_true, if_false, art7, pl7, th7, bp7, gPh, gp3, gp19, gp57, gp74, gp81, gp90, gp97]); (repeat ((first | rw [if_pos (by omega)] | rw [if_neg (by omega)]); (try simp only [gS_1, gS_0, o_1, o_0, i10, i00, n10, n00, if_true, if_false, art7, pl7, th7, bp7, gPh, gp3, gp19, gp57, gp74, gp81, gp90, gp97]))); first | done | exact pe (by omega) (by omega) | (exfalso; omega)), (by omega)⟩
              · rw [show z50 = 1 by omega] at gp97
                refine y_aload_n rfl rfl ?_
                refine y_bipush rfl rfl ?_
                have w55 : Xi T7 876 7 = Xi S 876 7 := (show Xi T7 876 7 = Xi T6 876 7 from w51.x _ _ rfl).trans ( (show Xi T6 876 7 = Xi T5 876 7 from w43.x _ _ rfl).trans ( (show Xi T5 876 7 = Xi T4 876 7 from w35.x _ _ rfl).trans ( (show Xi T4 876 7 = Xi T3 876 7 from w27.x _ _ rfl).trans ( (show Xi T3 876 7 = Xi T2 876 7 from w20.x _ _ rfl).trans ( (show Xi T2 876 7 = Xi T1 876 7 from w13.x _ _ rfl).trans ((show Xi T1 876 7 = Xi S 876 7 from w6.x _ _ rfl)))))))
                refine y_callV rfl rfl rfl (t_gr_take__p hHT7 10 ⟨by omega, by omega⟩ (by first | assumption | exact (NFR_FR hFT7 rfl rfl (by assumption : NFR S))) (by first | assumption | omega) (by first | assumption | omega) _) ?_
                rintro _ T8 ⟨hHT8, w59, z58, rfl, w58, w56, w57⟩
                have hFT8 : FR md_gr_takePhrase__p S T8 := FR.tr hFT7 w59 rfl
                show Pl _ _ _ _ _ _ [iv z58] _ _
                have gp106 := w56
                rw [FRT hFT7 rfl rfl] at gp106
                clear w56
                refine y_if_eq rfl rfl (by unfold rg; omega) (fun w60 => ?_) (fun w61 => ?_)
                · rw [show z58 = 0 by omega] at gp106
                  refine y_iconst rfl ?_
                  refine y_ireturn rfl rfl ?_
                  have w62 : Xi T8 876 7 = Xi S 876 7 := (show Xi T8 876 7 = Xi T7 876 7 from w59.x _ _ rfl).trans ( (show Xi T7 876 7 = Xi T6 876 7 from w51.x _ _ rfl).trans ( (show Xi T6 876 7 = Xi T5 876 7 from w43.x _ _ rfl).trans ( (show Xi T5 876 7 = Xi T4 876 7 from w35.x _ _ rfl).trans ( (show Xi T4 876 7 = Xi T3 876 7 from w27.x _ _ rfl).trans ( (show Xi T3 876 7 = Xi T2 876 7 from w20.x _ _ rfl).trans ( (show Xi T2 876 7 = Xi T1 876 7 from w13.x _ _ rfl).trans ((show Xi T1 876 7 = Xi S 876 7 from w6.x _ _ rfl))))))))
                  exact ⟨hHT8, hFT8, _, rfl, ⟨by omega, by omega⟩, (by (try simp only [gS_1, gS_0, o_1, o_0, i10, i00, n10, n00, if_true, if_false, art7, pl7, th7, bp7, gPh, gp3, gp19, gp57, gp74, gp81, gp90, gp97, gp106]); (repeat ((first | rw [if_pos (by omega)] | rw [if_neg (by omega)]); (try simp only [gS_1, gS_0, o_1, o_0, i10, i00, n10, n00, if_true, if_false, art7, pl7, th7, bp7, gPh, gp3, gp19, gp57, gp74, gp81, gp90, gp97, gp106]))); first | done | exact pe (by omega) (by omega) | (exfalso; omega)), (by omega)⟩
                · rw [show z58 = 1 by omega] at gp106
                  refine y_aload_n rfl rfl ?_
                  refine y_bipush rfl rfl ?_
                  have w63 : Xi T8 876 7 = Xi S 876 7 := (show Xi T8 876 7 = Xi T7 876 7 from w59.x _ _ rfl).trans ( (show Xi T7 876 7 = Xi T6 876 7 from w51.x _ _ rfl).trans ( (show Xi T6 876 7 = Xi T5 876 7 from w43.x _ _ rfl).trans ( (show Xi T5 876 7 = Xi T4 876 7 from w35.x _ _ rfl).trans ( (show Xi T4 876 7 = Xi T3 876 7 from w27.x _ _ rfl).trans ( (show Xi T3 876 7 = Xi T2 876 7 from w20.x _ _ rfl).trans ( (show Xi T2 876 7 = Xi T1 876 7 from w13.x _ _ rfl).trans ((show Xi T1 876 7 = Xi S 876 7 from w6.x _ _ rfl))))))))
                  refine y_callV rfl rfl rfl (t_gr_take__p hHT8 101 ⟨by omega, by omega⟩ (by first | assumption | exact (NFR_FR hFT8 rfl rfl (by assumption : NFR S))) (by first | assumption | omega) (by first | assumption | omega) _) ?_
                  rintro _ T9 ⟨hHT9, w67, z66, rfl, w66, w64, w65⟩
                  have hFT9 : FR md_gr_takePhrase__p S T9 := FR.tr hFT8 w67 rfl
                  show Pl _ _ _ _ _ _ [iv z66] _ _
                  have gp115 := w64
                  rw [FRT hFT8 rfl rfl] at gp115
                  clear w64
                  refine y_if_eq rfl rfl (by unfold rg; omega) (fun w68 => ?_) (fun w69 => ?_)
                  · rw [show z66 = 0 by omega] at gp115
                    refine y_iconst rfl ?_
                    refine y_ireturn rfl rfl ?_
                    have w70 : Xi T9 876 7 = Xi S 876 7 := (show Xi T9 876 7 = Xi T8 876 7 from w67.x _ _ rfl).trans ( (show Xi T8 876 7 = Xi T7 876 7 from w59.x _ _ rfl).trans ( (show Xi T7 876 7 = Xi T6 876 7 from w51.x _ _ rfl).trans ( (show Xi T6 876 7 = Xi T5 876 7 from w43.x _ _ rfl).trans ( (show Xi T5 876 7 = Xi T4 876 7 from w35.x _ _ rfl).trans ( (show Xi T4 876 7 = Xi T3 876 7 from w27.x _ _ rfl).trans ( (show Xi T3 876 7 = Xi T2 876 7 from w20.x _ _ rfl).trans ( (show Xi T2 876 7 = Xi T1 876 7 from w13.x _ _ rfl).trans ((show Xi T1 876 7 = Xi S 876 7 from w6.x _ _ rfl)))))))))
                    exact ⟨hHT9, hFT9, _, rfl, ⟨by omega, by omega⟩, (by (try simp only [gS_1, gS_0, o_1, o_0, i10, i00, n10, n00, if_true, if_false, art7, pl7, th7, bp7, gPh, gp3, gp19, gp57, gp74, gp81, gp90, gp97, gp106, gp115]); (repeat ((first | rw [if_pos (by omega)] | rw [if_neg (by omega)]); (try simp only [gS_1, gS_0, o_1, o_0, i10, i00, n10, n00, if_true, if_false, art7, pl7, th7, bp7, gPh, gp3, gp19, gp57, gp74, gp81, gp90, gp97, gp106, gp115]))); first | done | exact pe (by omega) (by omega) | (exfalso; omega)), (by omega)⟩
                  · rw [show z66 = 1 by omega] at gp115
                    refine y_iconst rfl ?_
                    refine y_goto rfl rfl ?_
                    refine y_ireturn rfl rfl ?_
                    have w71 : Xi T9 876 7 = Xi S 876 7 := (show Xi T9 876 7 = Xi T8 876 7 from w67.x _ _ rfl).trans ( (show Xi T8 876 7 = Xi T7 876 7 from w59.x _ _ rfl).trans ( (show Xi T7 876 7 = Xi T6 876 7 from w51.x _ _ rfl).trans ( (show Xi T6 876 7 = Xi T5 876 7 from w43.x _ _ rfl).trans ( (show Xi T5 876 7 = Xi T4 876 7 from w35.x _ _ rfl).trans ( (show Xi T4 876 7 = Xi T3 876 7 from w27.x _ _ rfl).trans ( (show Xi T3 876 7 = Xi T2 876 7 from w20.x _ _ rfl).trans ( (show Xi T2 876 7 = Xi T1 876 7 from w13.x _ _ rfl).trans ((show Xi T1 876 7 = Xi S 876 7 from w6.x _ _ rfl)))))))))
                    exact ⟨hHT9, hFT9, _, rfl, ⟨by omega, by omega⟩, (by (try simp only [gS_1, gS_0, o_1, o_0, i10, i00, n10, n00, if_true, if_false, art7, pl7, th7, bp7, gPh, gp3, gp19, gp57, gp74, gp81, gp90, gp97, gp106, gp115]); (repeat ((first | rw [if_pos (by omega)] | rw [if_neg (by omega)]); (try simp only [gS_1, gS_0, o_1, o_0, i10, i00, n10, n00, if_true, if_false, art7, pl7, th7, bp7, gPh, gp3, gp19, gp57, gp74, gp81, gp90, gp97, gp106, gp115]))); first | done | exact pe (by omega) (by omega) | (exfalso; omega)), (by omega)⟩
      · rw [show z19 = 0 by omega] at gp57
        refine y_aload_n rfl rfl ?_
        refine y_bipush rfl rfl ?_
        have w72 : Xi T3 876 7 = Xi S 876 7 := (show Xi T3 876 7 = Xi T2 876 7 from w20.x _ _ rfl).trans ( (show Xi T2 876 7 = Xi T1 876 7 from w13.x _ _ rfl).trans ((show Xi T1 876 7 = Xi S 876 7 from w6.x _ _ rfl)))
        refine y_callV rfl rfl rfl (t_gr_take__p hHT3 47 ⟨by omega, by omega⟩ (by first | assumption | exact (NFR_FR hFT3 rfl rfl (by assumption : NFR S))) (by first | assumption | omega) (by first | assumption | omega) _) ?_
        rintro _ T10 ⟨hHT10, w76, z75, rfl, w75, w73, w74⟩
        have hFT10 : FR md_gr_takePhrase__p S T10 := FR.tr hFT3 w76 rfl
        show Pl _ _ _ _ _ _ [iv z75] _ _
        have gp66 := w73
        rw [FRT hFT3 rfl rfl] at gp66
        clear w73
        refine y_if_eq rfl rfl (by unfold rg; omega) (fun w77 => ?_) (fun w78 => ?_)
        · rw [show z75 = 0 by omega] at gp66
          refine y_aload_n rfl rfl ?_
          refine y_bipush rfl rfl ?_
          have w79 : Xi T10 876 7 = Xi S 876 7 := (show Xi T10 876 7 = Xi T3 876 7 from w76.x _ _ rfl).trans ( (show Xi T3 876 7 = Xi T2 876 7 from w20.x _ _ rfl).trans ( (show Xi T2 876 7 = Xi T1 876 7 from w13.x _ _ rfl).trans ((show Xi T1 876 7 = Xi S 876 7 from w6.x _ _ rfl))))
          refine y_callV rfl rfl rfl (t_gr_take__p hHT10 49 ⟨by omega, by omega⟩ (by first | assumption | exact (NFR_FR hFT10 rfl rfl (by assumption : NFR S))) (by first | assumption | omega) (by first | assumption | omega) _) ?_
          rintro _ T11 ⟨hHT11, w83, z82, rfl, w82, w80, w81⟩
          have hFT11 : FR md_gr_takePhrase__p S T11 := FR.tr hFT10 w83 rfl
          show Pl _ _ _ _ _ _ [iv z82] _ _
          have gp130 := w80
          rw [FRT hFT10 rfl rfl] at gp130
          clear w80
          refine y_if_eq rfl rfl (by unfold rg; omega) (fun w84 => ?_) (fun w85 => ?_)
          · rw [show z82 = 0 by omega] at gp130
            refine y_aload_n rfl rfl ?_
            refine y_bipush rfl rfl ?_
            have w86 : Xi T11 876 7 = Xi S 876 7 := (show Xi T11 876 7 = Xi T10 876 7 from w83.x _ _ rfl).trans ( (show Xi T10 876 7 = Xi T3 876 7 from w76.x _ _ rfl).trans ( (show Xi T3 876 7 = Xi T2 876 7 from w20.x _ _ rfl).trans ( (show Xi T2 876 7 = Xi T1 876 7 from w13.x _ _ rfl).trans ((show Xi T1 876 7 = Xi S 876 7 from w6.x _ _ rfl)))))
            refine y_callV rfl rfl rfl (t_gr_take__p hHT11 48 ⟨by omega, by omega⟩ (by first | assumption | exact (NFR_FR hFT11 rfl rfl (by assumption : NFR S))) (by first | assumption | omega) (by first | assumption | omega) _) ?_
            rintro _ T12 ⟨hHT12, w90, z89, rfl, w89, w87, w88⟩
            have hFT12 : FR md_gr_takePhrase__p S T12 := FR.tr hFT11 w90 rfl
            show Pl _ _ _ _ _ _ [iv z89] _ _
            have gp202 := w87
            rw [FRT hFT11 rfl rfl] at gp202
            clear w87
            refine y_ireturn rfl (retI_z (by omega)) ?_
            have w91 : Xi T12 876 7 = Xi S 876 7 := (show Xi T12 876 7 = Xi T11 876 7 from w90.x _ _ rfl).trans ( (show Xi T11 876 7 = Xi T10 876 7 from w83.x _ _ rfl).trans ( (show Xi T10 876 7 = Xi T3 876 7 from w76.x _ _ rfl).trans ( (show Xi T3 876 7 = Xi T2 876 7 from w20.x _ _ rfl).trans ( (show Xi T2 876 7 = Xi T1 876 7 from w13.x _ _ rfl).trans ((show Xi T1 876 7 = Xi S 876 7 from w6.x _ _ rfl))))))
            exact ⟨hHT12, hFT12, _, rfl, ⟨by omega, by omega⟩, (by (first | rw [show z89 = 1 by omega] at gp202 | rw [show z89 = 0 by omega] at gp202 | skip); (try simp only [gS_1, gS_0, o_1, o_0, i10, i00, n10, n00, if_true, if_false, art7, pl7, th7, bp7, gPh, gp3, gp19, gp57, gp66, gp130, gp202]); (repeat ((first | rw [if_pos (by omega)] | rw [if_neg (by omega)]); (try simp only [gS_1, gS_0, o_1, o_0, i10, i00, n10, n00, if_true, if_false, art7, pl7, th7, bp7, gPh, gp3, gp19, gp57, gp66, gp130, gp202]))); first | done | exact pe (by omega) (by omega) | (exfalso; omega)), (by omega)⟩
          · rw [show z82 = 1 by omega] at gp130
            refine y_aload_n rfl rfl ?_
            have w92 : Xi T11 876 7 = Xi S 876 7 := (show Xi T11 876 7 = Xi T10 876 7 from w83.x _ _ rfl).trans ( (show Xi T10 876 7 = Xi T3 876 7 from w76.x _ _ rfl).trans ( (show Xi T3 876 7 = Xi T2 876 7 from w20.x _ _ rfl).trans ( (show Xi T2 876 7 = Xi T1 876 7 from w13.x _ _ rfl).trans ((show Xi T1 876 7 = Xi S 876 7 from w6.x _ _ rfl)))))
            refine y_callV rfl rfl rfl (t_gr_takeRun__p hHT11 (by first | assumption | exact (NFR_FR hFT11 rfl rfl (by assumption : NFR S))) (by first | assumption | omega) (by first | assumption | omega) _) ?_
            rintro _ T13 ⟨hHT13, w96, z95, rfl, w95, w93, w94⟩
            have hFT13 : FR md_gr_takePhrase__p S T13 := FR.tr hFT11 w96 rfl
            show Pl _ _ _ _ _ _ [iv z95] _ _
            have gp137 := w93
            rw [FRT hFT11 rfl rfl] at gp137
            clear w93
            refine y_istore_n rfl rfl rfl ?_
            refine y_aload_n rfl rfl ?_
            refine y_gfr rfl rfl rfl rfl rfl (hHT13.r 890 0 876 rfl) ?_
            refine y_aload_n rfl rfl ?_
            refine y_gfi rfl rfl rfl rfl rfl ?_
            have w97 : -2147483648 ≤ (Xi T13 890 1) ∧ (Xi T13 890 1) ≤ 2147483647 := Xi_rgI
            have w98 : Xi T13 876 7 = Xi S 876 7 := (show Xi T13 876 7 = Xi T11 876 7 from w96.x _ _ rfl).trans ( (show Xi T11 876 7 = Xi T10 876 7 from w83.x _ _ rfl).trans ( (show Xi T10 876 7 = Xi T3 876 7 from w76.x _ _ rfl).trans ( (show Xi T3 876 7 = Xi T2 876 7 from w20.x _ _ rfl).trans ( (show Xi T2 876 7 = Xi T1 876 7 from w13.x _ _ rfl).trans ((show Xi T1 876 7 = Xi S 876 7 from w6.x _ _ rfl))))))
            refine y_callV rfl rfl rfl (t_to_typeAt__p hHT13 (Xi T13 890 1) ⟨by omega, by omega⟩ _) ?_
            rintro _ _ ⟨rfl, z101, rfl, w101, w99, w100⟩
            show Pl _ _ _ _ _ _ [iv z101] _ _
            have gq149 := w99
            rw [FRT hFT13 rfl rfl] at gq149
            clear w99
            refine y_istore_n rfl rfl rfl ?_
            refine y_iload_n rfl rfl ?_
            refine y_callS rfl rfl (by decide) rfl (t_rs_isArt__p hHT13 z101 ⟨by omega, by omega⟩ _) ?_
            rintro _ _ ⟨rfl, z105, rfl, w105, w103, w104⟩
            show Pl _ _ _ _ _ _ [iv z105] _ _
            refine y_if_ne rfl rfl (by unfold rg; omega) (fun w106 => ?_) (fun w107 => ?_)
            · refine y_iconst rfl ?_
              refine y_goto rfl rfl ?_
              refine y_istore_n rfl rfl rfl ?_
              refine y_iload_n rfl rfl ?_
              refine y_if_eq rfl rfl (by unfold rg; omega) (fun w108 => ?_) (fun w109 => ?_)
              · rw [show z95 = 0 by omega] at gp137
                refine y_iconst rfl ?_
                refine y_ireturn rfl rfl ?_
                exact ⟨hHT13, hFT13, _, rfl, ⟨by omega, by omega⟩, (by (try simp only [gS_1, gS_0, o_1, o_0, i10, i00, n10, n00, if_true, if_false, art7, pl7, th7, bp7, gPh, gp3, gp19, gp57, gp66, gp130, gp137, gq149]); (repeat ((first | rw [if_pos (by omega)] | rw [if_neg (by omega)]); (try simp only [gS_1, gS_0, o_1, o_0, i10, i00, n10, n00, if_true, if_false, art7, pl7, th7, bp7, gPh, gp3, gp19, gp57, gp66, gp130, gp137, gq149]))); first | done | exact pe (by omega) (by omega) | (exfalso; omega)), (by omega)⟩
              · rw [show z95 = 1 by omega] at gp137
                refine y_iload_n rfl rfl ?_
                refine y_if_eq rfl rfl (by unfold rg; omega) (fun w111 => absurd w111 (by omega)) (fun w112 => ?_)
                · refine y_aload_n rfl rfl ?_
                  refine y_callV rfl rfl rfl (t_gr_takeThing__p hHT13 (by first | assumption | exact (NFR_FR hFT13 rfl rfl (by assumption : NFR S))) (by first | assumption | omega) (by first | assumption | omega) _) ?_
                  rintro _ T14 ⟨hHT14, w117, z116, rfl, w116, w114, w115⟩
                  have hFT14 : FR md_gr_takePhrase__p S T14 := FR.tr hFT13 w117 rfl
                  show Pl _ _ _ _ _ _ [iv z116] _ _
                  have gp187 := w114
                  rw [FRT hFT13 rfl rfl] at gp187
                  clear w114
                  refine y_if_eq rfl rfl (by unfold rg; omega) (fun w118 => ?_) (fun w119 => ?_)
                  · rw [show z116 = 0 by omega] at gp187
                    refine y_iconst rfl ?_
                    refine y_ireturn rfl rfl ?_
                    have w120 : Xi T14 876 7 = Xi S 876 7 := (show Xi T14 876 7 = Xi T13 876 7 from w117.x _ _ rfl).trans ( (show Xi T13 876 7 = Xi T11 876 7 from w96.x _ _ rfl).trans ( (show Xi T11 876 7 = Xi T10 876 7 from w83.x _ _ rfl).trans ( (show Xi T10 876 7 = Xi T3 876 7 from w76.x _ _ rfl).trans ( (show Xi T3 876 7 = Xi T2 876 7 from w20.x _ _ rfl).trans ( (show Xi T2 876 7 = Xi T1 876 7 from w13.x _ _ rfl).trans ((show Xi T1 876 7 = Xi S 876 7 from w6.x _ _ rfl)))))))
                    exact ⟨hHT14, hFT14, _, rfl, ⟨by omega, by omega⟩, (by (try simp only [gS_1, gS_0, o_1, o_0, i10, i00, n10, n00, if_true, if_false, art7, pl7, th7, bp7, gPh, gp3, gp19, gp57, gp66, gp130, gp137, gq149, gp187]); (repeat ((first | rw [if_pos (by omega)] | rw [if_neg (by omega)]); (try simp only [gS_1, gS_0, o_1, o_0, i10, i00, n10, n00, if_true, if_false, art7, pl7, th7, bp7, gPh, gp3, gp19, gp57, gp66, gp130, gp137, gq149, gp187]))); first | done | exact pe (by omega) (by omega) | (exfalso; omega)), (by omega)⟩
                  · rw [show z116 = 1 by omega] at gp187
                    refine y_iconst rfl ?_
                    refine y_goto rfl rfl ?_
                    refine y_ireturn rfl rfl ?_
                    have w121 : Xi T14 876 7 = Xi S 876 7 := (show Xi T14 876 7 = Xi T13 876 7 from w117.x _ _ rfl).trans ( (show Xi T13 876 7 = Xi T11 876 7 from w96.x _ _ rfl).trans ( (show Xi T11 876 7 = Xi T10 876 7 from w83.x _ _ rfl).trans ( (show Xi T10 876 7 = Xi T3 876 7 from w76.x _ _ rfl).trans ( (show Xi T3 876 7 = Xi T2 876 7 from w20.x _ _ rfl).trans ( (show Xi T2 876 7 = Xi T1 876 7 from w13.x _ _ rfl).trans ((show Xi T1 876 7 = Xi S 876 7 from w6.x _ _ rfl)))))))
                    exact ⟨hHT14, hFT14, _, rfl, ⟨by omega, by omega⟩, (by (try simp only [gS_1, gS_0, o_1, o_0, i10, i00, n10, n00, if_true, if_false, art7, pl7, th7, bp7, gPh, gp3, gp19, gp57, gp66, gp130, gp137, gq149, gp187]); (repeat ((first | rw [if_pos (by omega)] | rw [if_neg (by omega)]); (try simp only [gS_1, gS_0, o_1, o_0, i10, i00, n10, n00, if_true, if_false, art7, pl7, th7, bp7, gPh, gp3, gp19, gp57, gp66, gp130, gp137, gq149, gp187]))); first | done | exact pe (by omega) (by omega) | (exfalso; omega)), (by omega)⟩
            · refine y_iload_n rfl rfl ?_
              refine y_bipush rfl rfl ?_
              refine y_icmp_eq rfl rfl (by unfold rg; omega) (by unfold rg; omega) (fun w122 => ?_) (fun w123 => ?_)
              · refine y_iconst rfl ?_
                refine y_goto rfl rfl ?_
                refine y_istore_n rfl rfl rfl ?_
                refine y_iload_n rfl rfl ?_
                refine y_if_eq rfl rfl (by unfold rg; omega) (fun w124 => ?_) (fun w125 => ?_)
                · rw [show z95 = 0 by omega] at gp137
                  refine y_iconst rfl ?_
                  refine y_ireturn rfl rfl ?_
                  exact ⟨hHT13, hFT13, _, rfl, ⟨by omega, by omega⟩, (by (try simp only [gS_1, gS_0, o_1, o_0, i10, i00, n10, n00, if_true, if_false, art7, pl7, th7, bp7, gPh, gp3, gp19, gp57, gp66, gp130, gp137, gq149]); (repeat ((first | rw [if_pos (by omega)] | rw [if_neg (by omega)]); (try simp only [gS_1, gS_0, o_1, o_0, i10, i00, n10, n00, if_true, if_false, art7, pl7, th7, bp7, gPh, gp3, gp19, gp57, gp66, gp130, gp137, gq149]))); first | done | exact pe (by omega) (by omega) | (exfalso; omega)), (by omega)⟩
                · rw [show z95 = 1 by omega] at gp137
                  refine y_iload_n rfl rfl ?_
                  refine y_if_eq rfl rfl (by unfold rg; omega) (fun w127 => absurd w127 (by omega)) (fun w128 => ?_)
                  · refine y_aload_n rfl rfl ?_
                    refine y_callV rfl rfl rfl (t_gr_takeThing__p hHT13 (by first | assumption | exact (NFR_FR hFT13 rfl rfl (by assumption : NFR S))) (by first | assumption | omega) (by first | assumption | omega) _) ?_
                    rintro _ T15 ⟨hHT15, w133, z132, rfl, w132, w130, w131⟩
                    have hFT15 : FR md_gr_takePhrase__p S T15 := FR.tr hFT13 w133 rfl
                    show Pl _ _ _ _ _ _ [iv z132] _ _
                    have gp187 := w130
                    rw [FRT hFT13 rfl rfl] at gp187
                    clear w130
                    refine y_if_eq rfl rfl (by unfold rg; omega) (fun w134 => ?_) (fun w135 => ?_)
                    · rw [show z132 = 0 by omega] at gp187
                      refine y_iconst rfl ?_
                      refine y_ireturn rfl rfl ?_
                      have w136 : Xi T15 876 7 = Xi S 876 7 := (show Xi T15 876 7 = Xi T13 876 7 from w133.x _ _ rfl).trans ( (show Xi T13 876 7 = Xi T11 876 7 from w96.x _ _ rfl).trans ( (show Xi T11 876 7 = Xi T10 876 7 from w83.x _ _ rfl).trans ( (show Xi T10 876 7 = Xi T3 876 7 from w76.x _ _ rfl).trans ( (show Xi T3 876 7 = Xi T2 876 7 from w20.x _ _ rfl).trans ( (show Xi T2 876 7 = Xi T1 876 7 from w13.x _ _ rfl).trans ((show Xi T1 876 7 = Xi S 876 7 from w6.x _ _ rfl)))))))
                      exact ⟨hHT15, hFT15, _, rfl, ⟨by omega, by omega⟩, (by (try simp only [gS_1, gS_0, o_1, o_0, i10, i00, n10, n00, if_true, if_false, art7, pl7, th7, bp7, gPh, gp3, gp19, gp57, gp66, gp130, gp137, gq149, gp187]); (repeat ((first | rw [if_pos (by omega)] | rw [if_neg (by omega)]); (try simp only [gS_1, gS_0, o_1, o_0, i10, i00, n10, n00, if_true, if_false, art7, pl7, th7, bp7, gPh, gp3, gp19, gp57, gp66, gp130, gp137, gq149, gp187]))); first | done | exact pe (by omega) (by omega) | (exfalso; omega)), (by omega)⟩
                    · rw [show z132 = 1 by omega] at gp187
                      refine y_iconst rfl ?_
                      refine y_goto rfl rfl ?_
                      refine y_ireturn rfl rfl ?_
                      have w137 : Xi T15 876 7 = Xi S 876 7 := (show Xi T15 876 7 = Xi T13 876 7 from w133.x _ _ rfl).trans ( (show Xi T13 876 7 = Xi T11 876 7 from w96.x _ _ rfl).trans ( (show Xi T11 876 7 = Xi T10 876 7 from w83.x _ _ rfl).trans ( (show Xi T10 876 7 = Xi T3 876 7 from w76.x _ _ rfl).trans ( (show Xi T3 876 7 = Xi T2 876 7 from w20.x _ _ rfl).trans ( (show Xi T2 876 7 = Xi T1 876 7 from w13.x _ _ rfl).trans ((show Xi T1 876 7 = Xi S 876 7 from w6.x _ _ rfl)))))))
                      exact ⟨hHT15, hFT15, _, rfl, ⟨by omega, by omega⟩, (by (try simp only [gS_1, gS_0, o_1, o_0, i10, i00, n10, n00, if_true, if_false, art7, pl7, th7, bp7, gPh, gp3, gp19, gp57, gp66, gp130, gp137, gq149, gp187]); (repeat ((first | rw [if_pos (by omega)] | rw [if_neg (by omega)]); (try simp only [gS_1, gS_0, o_1, o_0, i10, i00, n10, n00, if_true, if_false, art7, pl7, th7, bp7, gPh, gp3, gp19, gp57, gp66, gp130, gp137, gq149, gp187]))); first | done | exact pe (by omega) (by omega) | (exfalso; omega)), (by omega)⟩
              · refine y_iload_n rfl rfl ?_
                refine y_bipush rfl rfl ?_
                refine y_icmp_ne rfl rfl (by unfold rg; omega) (by unfold rg; omega) (fun w138 => ?_) (fun w139 => ?_)
                · refine y_iconst rfl ?_
                  refine y_istore_n rfl rfl rfl ?_
                  refine y_iload_n rfl rfl ?_
                  refine y_if_eq rfl rfl (by unfold rg; omega) (fun w140 => ?_) (fun w141 => ?_)
                  · rw [show z95 = 0 by omega] at gp137
                    refine y_iconst rfl ?_
                    refine y_ireturn rfl rfl ?_
                    exact ⟨hHT13, hFT13, _, rfl, ⟨by omega, by omega⟩, (by (try simp only [gS_1, gS_0, o_1, o_0, i10, i00, n10, n00, if_true, if_false, art7, pl7, th7, bp7, gPh, gp3, gp19, gp57, gp66, gp130, gp137, gq149]); (repeat ((first | rw [if_pos (by omega)] | rw [if_neg (by omega)]); (try simp only [gS_1, gS_0, o_1, o_0, i10, i00, n10, n00, if_true, if_false, art7, pl7, th7, bp7, gPh, gp3, gp19, gp57, gp66, gp130, gp137, gq149]))); first | done | exact pe (by omega) (by omega) | (exfalso; omega)), (by omega)⟩
                  · rw [show z95 = 1 by omega] at gp137
                    refine y_iload_n rfl rfl ?_
                    refine y_if_eq rfl rfl (by unfold rg; omega) (fun w143 => ?_) (fun w144 => absurd w144 (by omega))
                    · refine y_iconst rfl ?_
                      refine y_goto rfl rfl ?_
                      refine y_ireturn rfl rfl ?_
                      exact ⟨hHT13, hFT13, _, rfl, ⟨by omega, by omega⟩, (by (try simp only [gS_1, gS_0, o_1, o_0, i10, i00, n10, n00, if_true, if_false, art7, pl7, th7, bp7, gPh, gp3, gp19, gp57, gp66, gp130, gp137, gq149]); (repeat ((first | rw [if_pos (by omega)] | rw [if_neg (by omega)]); (try simp only [gS_1, gS_0, o_1, o_0, i10, i00, n10, n00, if_true, if_false, art7, pl7, th7, bp7, gPh, gp3, gp19, gp57, gp66, gp130, gp137, gq149]))); first | done | exact pe (by omega) (by omega) | (exfalso; omega)), (by omega)⟩
                · refine y_iconst rfl ?_
                  refine y_goto rfl rfl ?_
                  refine y_istore_n rfl rfl rfl ?_
                  refine y_iload_n rfl rfl ?_
                  refine y_if_eq rfl rfl (by unfold rg; omega) (fun w146 => ?_) (fun w147 => ?_)
                  · rw [show z95 = 0 by omega] at gp137
                    refine y_iconst rfl ?_
                    refine y_ireturn rfl rfl ?_
                    exact ⟨hHT13, hFT13, _, rfl, ⟨by omega, by omega⟩, (by (try simp only [gS_1, gS_0, o_1, o_0, i10, i00, n10, n00, if_true, if_false, art7, pl7, th7, bp7, gPh, gp3, gp19, gp57, gp66, gp130, gp137, gq149]); (repeat ((first | rw [if_pos (by omega)] | rw [if_neg (by omega)]); (try simp only [gS_1, gS_0, o_1, o_0, i10, i00, n10, n00, if_true, if_false, art7, pl7, th7, bp7, gPh, gp3, gp19, gp57, gp66, gp130, gp137, gq149]))); first | done | exact pe (by omega) (by omega) | (exfalso; omega)), (by omega)⟩
                  · rw [show z95 = 1 by omega] at gp137
                    refine y_iload_n rfl rfl ?_
                    refine y_if_eq rfl rfl (by unfold rg; omega) (fun w149 => absurd w149 (by omega)) (fun w150 => ?_)
                    · refine y_aload_n rfl rfl ?_
                      refine y_callV rfl rfl rfl (t_gr_takeThing__p hHT13 (by first | assumption | exact (NFR_FR hFT13 rfl rfl (by assumption : NFR S))) (by first | assumption | omega) (by first | assumption | omega) _) ?_
                      rintro _ T16 ⟨hHT16, w155, z154, rfl, w154, w152, w153⟩
                      have hFT16 : FR md_gr_takePhrase__p S T16 := FR.tr hFT13 w155 rfl
                      show Pl _ _ _ _ _ _ [iv z154] _ _
                      have gp187 := w152
                      rw [FRT hFT13 rfl rfl] at gp187
                      clear w152
                      refine y_if_eq rfl rfl (by unfold rg; omega) (fun w156 => ?_) (fun w157 => ?_)
                      · rw [show z154 = 0 by omega] at gp187
                        refine y_iconst rfl ?_
                        refine y_ireturn rfl rfl ?_
                        have w158 : Xi T16 876 7 = Xi S 876 7 := (show Xi T16 876 7 = Xi T13 876 7 from w155.x _ _ rfl).trans ( (show Xi T13 876 7 = Xi T11 876 7 from w96.x _ _ rfl).trans ( (show Xi T11 876 7 = Xi T10 876 7 from w83.x _ _ rfl).trans ( (show Xi T10 876 7 = Xi T3 876 7 from w76.x _ _ rfl).trans ( (show Xi T3 876 7 = Xi T2 876 7 from w20.x _ _ rfl).trans ( (show Xi T2 876 7 = Xi T1 876 7 from w13.x _ _ rfl).trans ((show Xi T1 876 7 = Xi S 876 7 from w6.x _ _ rfl)))))))
                        exact ⟨hHT16, hFT16, _, rfl, ⟨by omega, by omega⟩, (by (try simp only [gS_1, gS_0, o_1, o_0, i10, i00, n10, n00, if_true, if_false, art7, pl7, th7, bp7, gPh, gp3, gp19, gp57, gp66, gp130, gp137, gq149, gp187]); (repeat ((first | rw [if_pos (by omega)] | rw [if_neg (by omega)]); (try simp only [gS_1, gS_0, o_1, o_0, i10, i00, n10, n00, if_true, if_false, art7, pl7, th7, bp7, gPh, gp3, gp19, gp57, gp66, gp130, gp137, gq149, gp187]))); first | done | exact pe (by omega) (by omega) | (exfalso; omega)), (by omega)⟩
                      · rw [show z154 = 1 by omega] at gp187
                        refine y_iconst rfl ?_
                        refine y_goto rfl rfl ?_
                        refine y_ireturn rfl rfl ?_
                        have w159 : Xi T16 876 7 = Xi S 876 7 := (show Xi T16 876 7 = Xi T13 876 7 from w155.x _ _ rfl).trans ( (show Xi T13 876 7 = Xi T11 876 7 from w96.x _ _ rfl).trans ( (show Xi T11 876 7 = Xi T10 876 7 from w83.x _ _ rfl).trans ( (show Xi T10 876 7 = Xi T3 876 7 from w76.x _ _ rfl).trans ( (show Xi T3 876 7 = Xi T2 876 7 from w20.x _ _ rfl).trans ( (show Xi T2 876 7 = Xi T1 876 7 from w13.x _ _ rfl).trans ((show Xi T1 876 7 = Xi S 876 7 from w6.x _ _ rfl)))))))
                        exact ⟨hHT16, hFT16, _, rfl, ⟨by omega, by omega⟩, (by (try simp only [gS_1, gS_0, o_1, o_0, i10, i00, n10, n00, if_true, if_false, art7, pl7, th7, bp7, gPh, gp3, gp19, gp57, gp66, gp130, gp137, gq149, gp187]); (repeat ((first | rw [if_pos (by omega)] | rw [if_neg (by omega)]); (try simp only [gS_1, gS_0, o_1, o_0, i10, i00, n10, n00, if_true, if_false, art7, pl7, th7, bp7, gPh, gp3, gp19, gp57, gp66, gp130, gp137, gq149, gp187]))); first | done | exact pe (by omega) (by omega) | (exfalso; omega)), (by omega)⟩
        · rw [show z75 = 1 by omega] at gp66
          refine y_aload_n rfl rfl ?_
          refine y_iconst rfl ?_
          have w160 : Xi T10 876 7 = Xi S 876 7 := (show Xi T10 876 7 = Xi T3 876 7 from w76.x _ _ rfl).trans ( (show Xi T3 876 7 = Xi T2 876 7 from w20.x _ _ rfl).trans ( (show Xi T2 876 7 = Xi T1 876 7 from w13.x _ _ rfl).trans ((show Xi T1 876 7 = Xi S 876 7 from w6.x _ _ rfl))))
          refine y_callV rfl rfl rfl (t_gr_take__p hHT10 2 ⟨by omega, by omega⟩ (by first | assumption | exact (NFR_FR hFT10 rfl rfl (by assumption : NFR S))) (by first | assumption | omega) (by first | assumption | omega) _) ?_
          rintro _ T17 ⟨hHT17, w164, z163, rfl, w163, w161, w162⟩
          have hFT17 : FR md_gr_takePhrase__p S T17 := FR.tr hFT10 w164 rfl
          show Pl _ _ _ _ _ _ [iv z163] _ _
          have gp74 := w161
          rw [FRT hFT10 rfl rfl] at gp74
          clear w161
          refine y_if_eq rfl rfl (by unfold rg; omega) (fun w165 => ?_) (fun w166 => ?_)
          · rw [show z163 = 0 by omega] at gp74
            refine y_iconst rfl ?_
            refine y_ireturn rfl rfl ?_
            have w167 : Xi T17 876 7 = Xi S 876 7 := (show Xi T17 876 7 = Xi T10 876 7 from w164.x _ _ rfl).trans ( (show Xi T10 876 7 = Xi T3 876 7 from w76.x _ _ rfl).trans ( (show Xi T3 876 7 = Xi T2 876 7 from w20.x _ _ rfl).trans ( (show Xi T2 876 7 = Xi T1 876 7 from w13.x _ _ rfl).trans ((show Xi T1 876 7 = Xi S 876 7 from w6.x _ _ rfl)))))
            exact ⟨hHT17, hFT17, _, rfl, ⟨by omega, by omega⟩, (by (try simp only [gS_1, gS_0, o_1, o_0, i10, i00, n10, n00, if_true, if_false, art7, pl7, th7, bp7, gPh, gp3, gp19, gp57, gp66, gp74]); (repeat ((first | rw [if_pos (by omega)] | rw [if_neg (by omega)]); (try simp only [gS_1, gS_0, o_1, o_0, i10, i00, n10, n00, if_true, if_false, art7, pl7, th7, bp7, gPh, gp3, gp19, gp57, gp66, gp74]))); first | done | exact pe (by omega) (by omega) | (exfalso; omega)), (by omega)⟩
          · rw [show z163 = 1 by omega] at gp74
            refine y_aload_n rfl rfl ?_
            have w168 : Xi T17 876 7 = Xi S 876 7 := (show Xi T17 876 7 = Xi T10 876 7 from w164.x _ _ rfl).trans ( (show Xi T10 876 7 = Xi T3 876 7 from w76.x _ _ rfl).trans ( (show Xi T3 876 7 = Xi T2 876 7 from w20.x _ _ rfl).trans ( (show Xi T2 876 7 = Xi T1 876 7 from w13.x _ _ rfl).trans ((show Xi T1 876 7 = Xi S 876 7 from w6.x _ _ rfl)))))
            refine y_callV rfl rfl rfl (t_gr_takeRun__p hHT17 (by first | assumption | exact (NFR_FR hFT17 rfl rfl (by assumption : NFR S))) (by first | assumption | omega) (by first | assumption | omega) _) ?_
            rintro _ T18 ⟨hHT18, w172, z171, rfl, w171, w169, w170⟩
            have hFT18 : FR md_gr_takePhrase__p S T18 := FR.tr hFT17 w172 rfl
            show Pl _ _ _ _ _ _ [iv z171] _ _
            have gp81 := w169
            rw [FRT hFT17 rfl rfl] at gp81
            clear w169
            refine y_if_eq rfl rfl (by unfold rg; omega) (fun w173 => ?_) (fun w174 => ?_)
            · rw [show z171 = 0 by omega] at gp81
              refine y_iconst rfl ?_
              refine y_ireturn rfl rfl ?_
              have w175 : Xi T18 876 7 = Xi S 876 7 := (show Xi T18 876 7 = Xi T17 876 7 from w172.x _ _ rfl).trans ( (show Xi T17 876 7 = Xi T10 876 7 from w164.x _ _ rfl).trans ( (show Xi T10 876 7 = Xi T3 876 7 from w76.x _ _ rfl).trans ( (show Xi T3 876 7 = Xi T2 876 7 from w20.x _ _ rfl).trans ( (show Xi T2 876 7 = Xi T1 876 7 from w13.x _ _ rfl).trans ((show Xi T1 876 7 = Xi S 876 7 from w6.x _ _ rfl))))))
              exact ⟨hHT18, hFT18, _, rfl, ⟨by omega, by omega⟩, (by (try simp only [gS_1, gS_0, o_1, o_0, i10, i00, n10, n00, if_true, if_false, art7, pl7, th7, bp7, gPh, gp3, gp19, gp57, gp66, gp74, gp81]); (repeat ((first | rw [if_pos (by omega)] | rw [if_neg (by omega)]); (try simp only [gS_1, gS_0, o_1, o_0, i10, i00, n10, n00, if_true, if_false, art7, pl7, th7, bp7, gPh, gp3, gp19, gp57, gp66, gp74, gp81]))); first | done | exact pe (by omega) (by omega) | (exfalso; omega)), (by omega)⟩
            · rw [show z171 = 1 by omega] at gp81
              refine y_aload_n rfl rfl ?_
              refine y_bipush rfl rfl ?_
              have w176 : Xi T18 876 7 = Xi S 876 7 := (show Xi T18 876 7 = Xi T17 876 7 from w172.x _ _ rfl).trans ( (show Xi T17 876 7 = Xi T10 876 7 from w164.x _ _ rfl).trans ( (show Xi T10 876 7 = Xi T3 876 7 from w76.x _ _ rfl).trans ( (show Xi T3 876 7 = Xi T2 876 7 from w20.x _ _ rfl).trans ( (show Xi T2 876 7 = Xi T1 876 7 from w13.x _ _ rfl).trans ((show Xi T1 876 7 = Xi S 876 7 from w6.x _ _ rfl))))))
              refine y_callV rfl rfl rfl (t_gr_take__p hHT18 7 ⟨by omega, by omega⟩ (by first | assumption | exact (NFR_FR hFT18 rfl rfl (by assumption : NFR S))) (by first | assumption | omega) (by first | assumption | omega) _) ?_
              rintro _ T19 ⟨hHT19, w180, z179, rfl, w179, w177, w178⟩
              have hFT19 : FR md_gr_takePhrase__p S T19 := FR.tr hFT18 w180 rfl
              show Pl _ _ _ _ _ _ [iv z179] _ _
              have gp90 := w177
              rw [FRT hFT18 rfl rfl] at gp90
              clear w177
              refine y_if_eq rfl rfl (by unfold rg; omega) (fun w181 => ?_) (fun w182 => ?_)
              · rw [show z179 = 0 by omega] at gp90
                refine y_iconst rfl ?_
                refine y_ireturn rfl rfl ?_
                have w183 : Xi T19 876 7 = Xi S 876 7 := (show Xi T19 876 7 = Xi T18 876 7 from w180.x _ _ rfl).trans ( (show Xi T18 876 7 = Xi T17 876 7 from w172.x _ _ rfl).trans ( (show Xi T17 876 7 = Xi T10 876 7 from w164.x _ _ rfl).trans ( (show Xi T10 876 7 = Xi T3 876 7 from w76.x _ _ rfl).trans ( (show Xi T3 876 7 = Xi T2 876 7 from w20.x _ _ rfl).trans ( (show Xi T2 876 7 = Xi T1 876 7 from w13.x _ _ rfl).trans ((show Xi T1 876 7 = Xi S 876 7 from w6.x _ _ rfl)))))))
                exact ⟨hHT19, hFT19, _, rfl, ⟨by omega, by omega⟩, (by (try simp only [gS_1, gS_0, o_1, o_0, i10, i00, n10, n00, if_true, if_false, art7, pl7, th7, bp7, gPh, gp3, gp19, gp57, gp66, gp74, gp81, gp90]); (repeat ((first | rw [if_pos (by omega)] | rw [if_neg (by omega)]); (try simp only [gS_1, gS_0, o_1, o_0, i10, i00, n10, n00, if_true, if_false, art7, pl7, th7, bp7, gPh, gp3, gp19, gp57, gp66, gp74, gp81, gp90]))); first | done | exact pe (by omega) (by omega) | (exfalso; omega)), (by omega)⟩
              · rw [show z179 = 1 by omega] at gp90
                refine y_aload_n rfl rfl ?_
                have w184 : Xi T19 876 7 = Xi S 876 7 := (show Xi T19 876 7 = Xi T18 876 7 from w180.x _ _ rfl).trans ( (show Xi T18 876 7 = Xi T17 876 7 from w172.x _ _ rfl).trans ( (show Xi T17 876 7 = Xi T10 876 7 from w164.x _ _ rfl).trans ( (show Xi T10 876 7 = Xi T3 876 7 from w76.x _ _ rfl).trans ( (show Xi T3 876 7 = Xi T2 876 7 from w20.x _ _ rfl).trans ( (show Xi T2 876 7 = Xi T1 876 7 from w13.x _ _ rfl).trans ((show Xi T1 876 7 = Xi S 876 7 from w6.x _ _ rfl)))))))
                refine y_callV rfl rfl rfl (t_gr_takeThing__p hHT19 (by first | assumption | exact (NFR_FR hFT19 rfl rfl (by assumption : NFR S))) (by first | assumption | omega) (by first | assumption | omega) _) ?_
                rintro _ T20 ⟨hHT20, w188, z187, rfl, w187, w185, w186⟩
                have hFT20 : FR md_gr_takePhrase__p S T20 := FR.tr hFT19 w188 rfl
                show Pl _ _ _ _ _ _ [iv z187] _ _
                have gp97 := w185
                rw [FRT hFT19 rfl rfl] at gp97
                clear w185
                refine y_if_eq rfl rfl (by unfold rg; omega) (fun w189 => ?_) (fun w190 => ?_)
                · rw [show z187 = 0 by omega] at gp97
                  refine y_iconst rfl ?_
                  refine y_ireturn rfl rfl ?_
                  have w191 : Xi T20 876 7 = Xi S 876 7 := (show Xi T20 876 7 = Xi T19 876 7 from w188.x _ _ rfl).trans ( (show Xi T19 876 7 = Xi T18 876 7 from w180.x _ _ rfl).trans ( (show Xi T18 876 7 = Xi T17 876 7 from w172.x _ _ rfl).trans ( (show Xi T17 876 7 = Xi T10 876 7 from w164.x _ _ rfl).trans ( (show Xi T10 876 7 = Xi T3 876 7 from w76.x _ _ rfl).trans ( (show Xi T3 876 7 = Xi T2 876 7 from w20.x _ _ rfl).trans ( (show Xi T2 876 7 = Xi T1 876 7 from w13.x _ _ rfl).trans ((show Xi T1 876 7 = Xi S 876 7 from w6.x _ _ rfl))))))))
                  exact ⟨hHT20, hFT20, _, rfl, ⟨by omega, by omega⟩, (by (try simp only [gS_1, gS_0, o_1, o_0, i10, i00, n10, n00, if_true, if_false, art7, pl7, th7, bp7, gPh, gp3, gp19, gp57, gp66, gp74, gp81, gp90, gp97]); (repeat ((first | rw [if_pos (by omega)] | rw [if_neg (by omega)]); (try simp only [gS_1, gS_0, o_1, o_0, i10, i00, n10, n00, if_true, if_false, art7, pl7, th7, bp7, gPh, gp3, gp19, gp57, gp66, gp74, gp81, gp90, gp97]))); first | done | exact pe (by omega) (by omega) | (exfalso; omega)), (by omega)⟩
                · rw [show z187 = 1 by omega] at gp97
                  refine y_aload_n rfl rfl ?_
                  refine y_bipush rfl rfl ?_
                  have w192 : Xi T20 876 7 = Xi S 876 7 := (show Xi T20 876 7 = Xi T19 876 7 from w188.x _ _ rfl).trans ( (show Xi T19 876 7 = Xi T18 876 7 from w180.x _ _ rfl).trans ( (show Xi T18 876 7 = Xi T17 876 7 from w172.x _ _ rfl).trans ( (show Xi T17 876 7 = Xi T10 876 7 from w164.x _ _ rfl).trans ( (show Xi T10 876 7 = Xi T3 876 7 from w76.x _ _ rfl).trans ( (show Xi T3 876 7 = Xi T2 876 7 from w20.x _ _ rfl).trans ( (show Xi T2 876 7 = Xi T1 876 7 from w13.x _ _ rfl).trans ((show Xi T1 876 7 = Xi S 876 7 from w6.x _ _ rfl))))))))
                  refine y_callV rfl rfl rfl (t_gr_take__p hHT20 10 ⟨by omega, by omega⟩ (by first | assumption | exact (NFR_FR hFT20 rfl rfl (by assumption : NFR S))) (by first | assumption | omega) (by first | assumption | omega) _) ?_
                  rintro _ T21 ⟨hHT21, w196, z195, rfl, w195, w193, w194⟩
                  have hFT21 : FR md_gr_takePhrase__p S T21 := FR.tr hFT20 w196 rfl
                  show Pl _ _ _ _ _ _ [iv z195] _ _
                  have gp106 := w193
                  rw [FRT hFT20 rfl rfl] at gp106
                  clear w193
                  refine y_if_eq rfl rfl (by unfold rg; omega) (fun w197 => ?_) (fun w198 => ?_)
                  · rw [show z195 = 0 by omega] at gp106
                    refine y_iconst rfl ?_
                    refine y_ireturn rfl rfl ?_
                    have w199 : Xi T21 876 7 = Xi S 876 7 := (show Xi T21 876 7 = Xi T20 876 7 from w196.x _ _ rfl).trans ( (show Xi T20 876 7 = Xi T19 876 7 from w188.x _ _ rfl).trans ( (show Xi T19 876 7 = Xi T18 876 7 from w180.x _ _ rfl).trans ( (show Xi T18 876 7 = Xi T17 876 7 from w172.x _ _ rfl).trans ( (show Xi T17 876 7 = Xi T10 876 7 from w164.x _ _ rfl).trans ( (show Xi T10 876 7 = Xi T3 876 7 from w76.x _ _ rfl).trans ( (show Xi T3 876 7 = Xi T2 876 7 from w20.x _ _ rfl).trans ( (show Xi T2 876 7 = Xi T1 876 7 from w13.x _ _ rfl).trans ((show Xi T1 876 7 = Xi S 876 7 from w6.x _ _ rfl)))))))))
                    exact ⟨hHT21, hFT21, _, rfl, ⟨by omega, by omega⟩, (by (try simp only [gS_1, gS_0, o_1, o_0, i10, i00, n10, n00, if_true, if_false, art7, pl7, th7, bp7, gPh, gp3, gp19, gp57, gp66, gp74, gp81, gp90, gp97, gp106]); (repeat ((first | rw [if_pos (by omega)] | rw [if_neg (by omega)]); (try simp only [gS_1, gS_0, o_1, o_0, i10, i00, n10, n00, if_true, if_false, art7, pl7, th7, bp7, gPh, gp3, gp19, gp57, gp66, gp74, gp81, gp90, gp97, gp106]))); first | done | exact pe (by omega) (by omega) | (exfalso; omega)), (by omega)⟩
                  · rw [show z195 = 1 by omega] at gp106
                    refine y_aload_n rfl rfl ?_
                    refine y_bipush rfl rfl ?_
                    have w200 : Xi T21 876 7 = Xi S 876 7 := (show Xi T21 876 7 = Xi T20 876 7 from w196.x _ _ rfl).trans ( (show Xi T20 876 7 = Xi T19 876 7 from w188.x _ _ rfl).trans ( (show Xi T19 876 7 = Xi T18 876 7 from w180.x _ _ rfl).trans ( (show Xi T18 876 7 = Xi T17 876 7 from w172.x _ _ rfl).trans ( (show Xi T17 876 7 = Xi T10 876 7 from w164.x _ _ rfl).trans ( (show Xi T10 876 7 = Xi T3 876 7 from w76.x _ _ rfl).trans ( (show Xi T3 876 7 = Xi T2 876 7 from w20.x _ _ rfl).trans ( (show Xi T2 876 7 = Xi T1 876 7 from w13.x _ _ rfl).trans ((show Xi T1 876 7 = Xi S 876 7 from w6.x _ _ rfl)))))))))
                    refine y_callV rfl rfl rfl (t_gr_take__p hHT21 101 ⟨by omega, by omega⟩ (by first | assumption | exact (NFR_FR hFT21 rfl rfl (by assumption : NFR S))) (by first | assumption | omega) (by first | assumption | omega) _) ?_
                    rintro _ T22 ⟨hHT22, w204, z203, rfl, w203, w201, w202⟩
                    have hFT22 : FR md_gr_takePhrase__p S T22 := FR.tr hFT21 w204 rfl
                    show Pl _ _ _ _ _ _ [iv z203] _ _
                    have gp115 := w201
                    rw [FRT hFT21 rfl rfl] at gp115
                    clear w201
                    refine y_if_eq rfl rfl (by unfold rg; omega) (fun w205 => ?_) (fun w206 => ?_)
                    · rw [show z203 = 0 by omega] at gp115
                      refine y_iconst rfl ?_
                      refine y_ireturn rfl rfl ?_
                      have w207 : Xi T22 876 7 = Xi S 876 7 := (show Xi T22 876 7 = Xi T21 876 7 from w204.x _ _ rfl).trans ( (show Xi T21 876 7 = Xi T20 876 7 from w196.x _ _ rfl).trans ( (show Xi T20 876 7 = Xi T19 876 7 from w188.x _ _ rfl).trans ( (show Xi T19 876 7 = Xi T18 876 7 from w180.x _ _ rfl).trans ( (show Xi T18 876 7 = Xi T17 876 7 from w172.x _ _ rfl).trans ( (show Xi T17 876 7 = Xi T10 876 7 from w164.x _ _ rfl).trans ( (show Xi T10 876 7 = Xi T3 876 7 from w76.x _ _ rfl).trans ( (show Xi T3 876 7 = Xi T2 876 7 from w20.x _ _ rfl).trans ( (show Xi T2 876 7 = Xi T1 876 7 from w13.x _ _ rfl).trans ((show Xi T1 876 7 = Xi S 876 7 from w6.x _ _ rfl))))))))))
                      exact ⟨hHT22, hFT22, _, rfl, ⟨by omega, by omega⟩, (by (try simp only [gS_1, gS_0, o_1, o_0, i10, i00, n10, n00, if_true, if_false, art7, pl7, th7, bp7, gPh, gp3, gp19, gp57, gp66, gp74, gp81, gp90, gp97, gp106, gp115]); (repeat ((first | rw [if_pos (by omega)] | rw [if_neg (by omega)]); (try simp only [gS_1, gS_0, o_1, o_0, i10, i00, n10, n00, if_true, if_false, art7, pl7, th7, bp7, gPh, gp3, gp19, gp57, gp66, gp74, gp81, gp90, gp97, gp106, gp115]))); first | done | exact pe (by omega) (by omega) | (exfalso; omega)), (by omega)⟩
                    · rw [show z203 = 1 by omega] at gp115
                      refine y_iconst rfl ?_
                      refine y_goto rfl rfl ?_
                      refine y_ireturn rfl rfl ?_
                      have w208 : Xi T22 876 7 = Xi S 876 7 := (show Xi T22 876 7 = Xi T21 876 7 from w204.x _ _ rfl).trans ( (show Xi T21 876 7 = Xi T20 876 7 from w196.x _ _ rfl).trans ( (show Xi T20 876 7 = Xi T19 876 7 from w188.x _ _ rfl).trans ( (show Xi T19 876 7 = Xi T18 876 7 from w180.x _ _ rfl).trans ( (show Xi T18 876 7 = Xi T17 876 7 from w172.x _ _ rfl).trans ( (show Xi T17 876 7 = Xi T10 876 7 from w164.x _ _ rfl).trans ( (show Xi T10 876 7 = Xi T3 876 7 from w76.x _ _ rfl).trans ( (show Xi T3 876 7 = Xi T2 876 7 from w20.x _ _ rfl).trans ( (show Xi T2 876 7 = Xi T1 876 7 from w13.x _ _ rfl).trans ((show Xi T1 876 7 = Xi S 876 7 from w6.x _ _ rfl))))))))))
                      exact ⟨hHT22, hFT22, _, rfl, ⟨by omega, by omega⟩, (by (try simp only [gS_1, gS_0, o_1, o_0, i10, i00, n10, n00, if_true, if_false, art7, pl7, th7, bp7, gPh, gp3, gp19, gp57, gp66, gp74, gp81, gp90, gp97, gp106, gp115]); (repeat ((first | rw [if_pos (by omega)] | rw [if_neg (by omega)]); (try simp only [gS_1, gS_0, o_1, o_0, i10, i00, n10, n00, if_true, if_false, art7, pl7, th7, bp7, gPh, gp3, gp19, gp57, gp66, gp74, gp81, gp90, gp97, gp106, gp115]))); first | done | exact pe (by omega) (by omega) | (exfalso; omega)), (by omega)⟩
    · rw [show z12 = 1 by omega] at gp19
      refine y_aload_n rfl rfl ?_
      have w209 : Xi T2 876 7 = Xi S 876 7 := (show Xi T2 876 7 = Xi T1 876 7 from w13.x _ _ rfl).trans ((show Xi T1 876 7 = Xi S 876 7 from w6.x _ _ rfl))
      refine y_callV rfl rfl rfl (t_gr_takeThing__p hHT2 (by first | assumption | exact (NFR_FR hFT2 rfl rfl (by assumption : NFR S))) (by first | assumption | omega) (by first | assumption | omega) _) ?_
      rintro _ T23 ⟨hHT23, w213, z212, rfl, w212, w210, w211⟩
      have hFT23 : FR md_gr_takePhrase__p S T23 := FR.tr hFT2 w213 rfl
      show Pl _ _ _ _ _ _ [iv z212] _ _
      have gp26 := w210
      rw [FRT hFT2 rfl rfl] at gp26
      clear w210
      refine y_if_eq rfl rfl (by unfold rg; omega) (fun w214 => ?_) (fun w215 => ?_)
      · rw [show z212 = 0 by omega] at gp26
        refine y_iconst rfl ?_
        refine y_ireturn rfl rfl ?_
        have w216 : Xi T23 876 7 = Xi S 876 7 := (show Xi T23 876 7 = Xi T2 876 7 from w213.x _ _ rfl).trans ( (show Xi T2 876 7 = Xi T1 876 7 from w13.x _ _ rfl).trans ((show Xi T1 876 7 = Xi S 876 7 from w6.x _ _ rfl)))
        exact ⟨hHT23, hFT23, _, rfl, ⟨by omega, by omega⟩, (by (try simp only [gS_1, gS_0, o_1, o_0, i10, i00, n10, n00, if_true, if_false, art7, pl7, th7, bp7, gPh, gp3, gp19, gp26]); (repeat ((first | rw [if_pos (by omega)] | rw [if_neg (by omega)]); (try simp only [gS_1, gS_0, o_1, o_0, i10, i00, n10, n00, if_true, if_false, art7, pl7, th7, bp7, gPh, gp3, gp19, gp26]))); first | done | exact pe (by omega) (by omega) | (exfalso; omega)), (by omega)⟩
      · rw [show z212 = 1 by omega] at gp26
        refine y_aload_n rfl rfl ?_
        refine y_bipush rfl rfl ?_
        have w217 : Xi T23 876 7 = Xi S 876 7 := (show Xi T23 876 7 = Xi T2 876 7 from w213.x _ _ rfl).trans ( (show Xi T2 876 7 = Xi T1 876 7 from w13.x _ _ rfl).trans ((show Xi T1 876 7 = Xi S 876 7 from w6.x _ _ rfl)))
        refine y_callV rfl rfl rfl (t_gr_take__p hHT23 11 ⟨by omega, by omega⟩ (by first | assumption | exact (NFR_FR hFT23 rfl rfl (by assumption : NFR S))) (by first | assumption | omega) (by first | assumption | omega) _) ?_
        rintro _ T24 ⟨hHT24, w221, z220, rfl, w220, w218, w219⟩
        have hFT24 : FR md_gr_takePhrase__p S T24 := FR.tr hFT23 w221 rfl
        show Pl _ _ _ _ _ _ [iv z220] _ _
        have gp35 := w218
        rw [FRT hFT23 rfl rfl] at gp35
        clear w218
        refine y_if_eq rfl rfl (by unfold rg; omega) (fun w222 => ?_) (fun w223 => ?_)
        · rw [show z220 = 0 by omega] at gp35
          refine y_iconst rfl ?_
          refine y_ireturn rfl rfl ?_
          have w224 : Xi T24 876 7 = Xi S 876 7 := (show Xi T24 876 7 = Xi T23 876 7 from w221.x _ _ rfl).trans ( (show Xi T23 876 7 = Xi T2 876 7 from w213.x _ _ rfl).trans ( (show Xi T2 876 7 = Xi T1 876 7 from w13.x _ _ rfl).trans ((show Xi T1 876 7 = Xi S 876 7 from w6.x _ _ rfl))))
          exact ⟨hHT24, hFT24, _, rfl, ⟨by omega, by omega⟩, (by (try simp only [gS_1, gS_0, o_1, o_0, i10, i00, n10, n00, if_true, if_false, art7, pl7, th7, bp7, gPh, gp3, gp19, gp26, gp35]); (repeat ((first | rw [if_pos (by omega)] | rw [if_neg (by omega)]); (try simp only [gS_1, gS_0, o_1, o_0, i10, i00, n10, n00, if_true, if_false, art7, pl7, th7, bp7, gPh, gp3, gp19, gp26, gp35]))); first | done | exact pe (by omega) (by omega) | (exfalso; omega)), (by omega)⟩
        · rw [show z220 = 1 by omega] at gp35
          refine y_aload_n rfl rfl ?_
          have w225 : Xi T24 876 7 = Xi S 876 7 := (show Xi T24 876 7 = Xi T23 876 7 from w221.x _ _ rfl).trans ( (show Xi T23 876 7 = Xi T2 876 7 from w213.x _ _ rfl).trans ( (show Xi T2 876 7 = Xi T1 876 7 from w13.x _ _ rfl).trans ((show Xi T1 876 7 = Xi S 876 7 from w6.x _ _ rfl))))
          refine y_callV rfl rfl rfl (t_gr_takeThing__p hHT24 (by first | assumption | exact (NFR_FR hFT24 rfl rfl (by assumption : NFR S))) (by first | assumption | omega) (by first | assumption | omega) _) ?_
          rintro _ T25 ⟨hHT25, w229, z228, rfl, w228, w226, w227⟩
          have hFT25 : FR md_gr_takePhrase__p S T25 := FR.tr hFT24 w229 rfl
          show Pl _ _ _ _ _ _ [iv z228] _ _
          have gp42 := w226
          rw [FRT hFT24 rfl rfl] at gp42
          clear w226
          refine y_if_eq rfl rfl (by unfold rg; omega) (fun w230 => ?_) (fun w231 => ?_)
          · rw [show z228 = 0 by omega] at gp42
            refine y_iconst rfl ?_
            refine y_ireturn rfl rfl ?_
            have w232 : Xi T25 876 7 = Xi S 876 7 := (show Xi T25 876 7 = Xi T24 876 7 from w229.x _ _ rfl).trans ( (show Xi T24 876 7 = Xi T23 876 7 from w221.x _ _ rfl).trans ( (show Xi T23 876 7 = Xi T2 876 7 from w213.x _ _ rfl).trans ( (show Xi T2 876 7 = Xi T1 876 7 from w13.x _ _ rfl).trans ((show Xi T1 876 7 = Xi S 876 7 from w6.x _ _ rfl)))))
            exact ⟨hHT25, hFT25, _, rfl, ⟨by omega, by omega⟩, (by (try simp only [gS_1, gS_0, o_1, o_0, i10, i00, n10, n00, if_true, if_false, art7, pl7, th7, bp7, gPh, gp3, gp19, gp26, gp35, gp42]); (repeat ((first | rw [if_pos (by omega)] | rw [if_neg (by omega)]); (try simp only [gS_1, gS_0, o_1, o_0, i10, i00, n10, n00, if_true, if_false, art7, pl7, th7, bp7, gPh, gp3, gp19, gp26, gp35, gp42]))); first | done | exact pe (by omega) (by omega) | (exfalso; omega)), (by omega)⟩
          · rw [show z228 = 1 by omega] at gp42
            refine y_iconst rfl ?_
            refine y_goto rfl rfl ?_
            refine y_ireturn rfl rfl ?_
            have w233 : Xi T25 876 7 = Xi S 876 7 := (show Xi T25 876 7 = Xi T24 876 7 from w229.x _ _ rfl).trans ( (show Xi T24 876 7 = Xi T23 876 7 from w221.x _ _ rfl).trans ( (show Xi T23 876 7 = Xi T2 876 7 from w213.x _ _ rfl).trans ( (show Xi T2 876 7 = Xi T1 876 7 from w13.x _ _ rfl).trans ((show Xi T1 876 7 = Xi S 876 7 from w6.x _ _ rfl)))))
            exact ⟨hHT25, hFT25, _, rfl, ⟨by omega, by omega⟩, (by (try simp only [gS_1, gS_0, o_1, o_0, i10, i00, n10, n00, if_true, if_false, art7, pl7, th7, bp7, gPh, gp3, gp19, gp26, gp35, gp42]); (repeat ((first | rw [if_pos (by omega)] | rw [if_neg (by omega)]); (try simp only [gS_1, gS_0, o_1, o_0, i10, i00, n10, n00, if_true, if_false, art7, pl7, th7, bp7, gPh, gp3, gp19, gp26, gp35, gp42]))); first | done | exact pe (by omega) (by omega) | (exfalso; omega)), (by omega)⟩
  · rw [show z5 = 1 by omega] at gp3
    refine y_aload_n rfl rfl ?_
    refine y_bipush rfl rfl ?_
    have w234 : Xi T1 876 7 = Xi S 876 7 := (show Xi T1 876 7 = Xi S 876 7 from w6.x _ _ rfl)
    refine y_callV rfl rfl rfl (t_gr_take__p hHT1 102 ⟨by omega, by omega⟩ (by first | assumption | exact (NFR_FR hFT1 rfl rfl (by assumption : NFR S))) (by first | assumption | omega) (by first | assumption | omega) _) ?_
    rintro _ T26 ⟨hHT26, w238, z237, rfl, w237, w235, w236⟩
    have hFT26 : FR md_gr_takePhrase__p S T26 := FR.tr hFT1 w238 rfl
    show Pl _ _ _ _ _ _ [iv z237] _ _
    have gp12 := w235
    rw [FRT hFT1 rfl rfl] at gp12
    clear w235
    refine y_ireturn rfl (retI_z (by omega)) ?_
    have w239 : Xi T26 876 7 = Xi S 876 7 := (show Xi T26 876 7 = Xi T1 876 7 from w238.x _ _ rfl).trans ((show Xi T1 876 7 = Xi S 876 7 from w6.x _ _ rfl))
    exact ⟨hHT26, hFT26, _, rfl, ⟨by omega, by omega⟩, (by (first | rw [show z237 = 1 by omega] at gp12 | rw [show z237 = 0 by omega] at gp12 | skip); (try simp only [gS_1, gS_0, o_1, o_0, i10, i00, n10, n00, if_true, if_false, art7, pl7, th7, bp7, gPh, gp3, gp12]); (repeat ((first | rw [if_pos (by omega)] | rw [if_neg (by omega)]); (try simp only [gS_1, gS_0, o_1, o_0, i10, i00, n10, n00, if_true, if_false, art7, pl7, th7, bp7, gPh, gp3, gp12]))); first | done | exact pe (by omega) (by omega) | (exfalso; omega)), (by omega)⟩
end
