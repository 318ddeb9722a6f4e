section
theorem cks_r {S : sS} {T : Int → Int} {s : Int} (e : Xi S 890 2 = s) (h : (T 0 = 38 ∧ s = 3) ∨ (T 0 = 40 ∧ s = 4) ∨ (T 0 = 39 ∧ s = 5) ∨ (T 0 = 41 ∧ s = 6)) : CKS S T := by
  rcases h with ⟨a, b⟩ | ⟨a, b⟩ | ⟨a, b⟩ | ⟨a, b⟩
  · exact cks_i (Or.inr (Or.inr (Or.inr (Or.inl ⟨a, by omega⟩))))
  · exact cks_i (Or.inr (Or.inr (Or.inr (Or.inr (Or.inl ⟨a, by omega⟩)))))
  · exact cks_i (Or.inr (Or.inr (Or.inr (Or.inr (Or.inr (Or.inl ⟨a, by omega⟩))))))
  · exact cks_i (Or.inr (Or.inr (Or.inr (Or.inr (Or.inr (Or.inr ⟨a, by omega⟩))))))

def md_gr_check__p : List rec := [(890, 891, 1, 2), (890, 891, 2, 3), (890, 891, 3, 4)]
abbrev Q_gr_check__p (S : sS) : pst := fun r S1 => RI S1 ∧ FR md_gr_check__p S S1 ∧ (∃ z : Int, r = some (iv z) ∧ (0 ≤ z ∧ z ≤ 1) ∧ (chk (ty7 S)  = (z, Xi S1 890 1)) ∧ (0 ≤ Xi S1 890 1 ∧ Xi S1 890 1 ≤ Xi S 876 7) ∧ (z = 1 → CKS S1 (ty7 S)))
set_option maxRecDepth 100000 in
theorem c278_gr_check__p {S : sS} (hH : RI S) (hfr : NFR S) (hr : Xi S 876 7 ≤ 5130) (hls : LST S) (h1 : 1 ≤ Xi S 876 7) (d : Nat) (fu : Nat) : ∀  (T1 : sS) (_ : RI T1) (_ : FR md_gr_check__p S T1), (Xi T1 890 1 = 1) → (Hid (ty7 S 0 ≠ 102 ∧ ty7 S 0 ≠ 33 ∧ ty7 S 0 ≠ 35 ∧ ty7 S 0 ≠ 38 ∧ ty7 S 0 ≠ 39 ∧ ty7 S 0 ≠ 40 ∧ ty7 S 0 ≠ 41)) → Pl fu lay0 (d + 6) m_gr_check 278 [(0, .ref 890)] [] T1 (Q_gr_check__p S) := by
  have hF : FR md_gr_check__p S S := FR.rf
  have w1 : -2147483648 ≤ Xi S 876 7 ∧ Xi S 876 7 ≤ 2147483647 := Xi_rgI
  have w2 : -2147483648 ≤ Xi S 890 1 ∧ Xi S 890 1 ≤ 2147483647 := Xi_rgI
  have w3 : -2147483648 ≤ Xi S 890 2 ∧ Xi S 890 2 ≤ 2147483647 := Xi_rgI
  have w4 : -2147483648 ≤ Xi S 890 3 ∧ Xi S 890 3 ≤ 2147483647 := Xi_rgI
  intro T1 hHT1 hFT1 w5 k278
  have w6 : Xi T1 876 7 = Xi S 876 7 := hFT1.x _ _ rfl
  have w7 : -2147483648 ≤ Xi T1 876 7 ∧ Xi T1 876 7 ≤ 2147483647 := Xi_rgI
  have w8 : -2147483648 ≤ Xi T1 890 1 ∧ Xi T1 890 1 ≤ 2147483647 := Xi_rgI
  have w9 : -2147483648 ≤ Xi T1 890 2 ∧ Xi T1 890 2 ≤ 2147483647 := Xi_rgI
  have w10 : -2147483648 ≤ Xi T1 890 3 ∧ Xi T1 890 3 ≤ 2147483647 := Xi_rgI
  refine y_aload_n rfl rfl ?_
  refine y_callV rfl rfl rfl (t_gr_checkOthers__p hHT1 (by first | assumption | exact (NFR_FR hFT1 rfl rfl (by assumption : NFR S))) (by first | assumption | omega) (by first | assumption | exact (LST_FR hFT1 rfl rfl (by assumption : LST S))) (by first | assumption | omega) _) ?_
  rintro _ T2 ⟨hHT2, w14, z13, rfl, w13, w11, w12, so279⟩
  have hFT2 : FR md_gr_check__p S T2 := FR.tr hFT1 w14 rfl
  show Pl _ _ _ _ _ _ [iv z13] _ _
  have gp279 := w11
  rw [FRT hFT1 rfl rfl] at gp279
  clear w11
  have s279 : Hid (z13 = 1 → OTS T2 (ty7 S)) := fun q => by have t := so279 q; rw [FRT hFT1 rfl rfl] at t; exact t
  clear so279
  refine y_ireturn rfl (retI_z (by omega)) ?_
  have w15 : Xi T2 876 7 = Xi T1 876 7 := (show Xi T2 876 7 = Xi T1 876 7 from w14.x _ _ rfl)
  exact ⟨hHT2, hFT2, _, rfl, ⟨by omega, by omega⟩, (by (first | rw [show z13 = 1 by omega] at gp279 | rw [show z13 = 0 by omega] at gp279 | skip);  first | (have t := k80; exact (chk_0 k80).trans (pe rfl (by omega))) | (have t := k87; rw [chk_1 k87]; simp only [gS_1, gS_0, o_1, o_0, i10, i00, n10, n00, if_true, if_false, gp279]) | (have t := k132; rw [chk_2 k132]; simp only [gS_1, gS_0, o_1, o_0, i10, i00, n10, n00, if_true, if_false, gp279]) | (have t := k278; rw [chk_o k278.o]; exact gp279) | (rw [chk_r t283.o, A283]; unfold rul7; (first | rw [show v1 = 0 by omega] | rw [show v1 = 1 by omega]); simp only [gS_1, gS_0, o_1, o_0, i10, i00, n10, n00, if_true, if_false, gp279])), (by omega), (by first | (have t := k80; exact (fun _ => cks_i (by omega))) | (have t := k87; exact (fun _ => cks_i (by omega))) | (have t := k132; exact (fun _ => cks_i (by omega))) | (have t := k278; exact (fun q => cks_o k278.o (s279.o q))) | exact (fun _ => cks_r (by omega) s283.o))⟩
set_option maxRecDepth 100000 in
theorem c87_gr_check__p {S : sS} (hH : RI S) (hfr : NFR S) (hr : Xi S 876 7 ≤ 5130) (hls : LST S) (h1 : 1 ≤ Xi S 876 7) (d : Nat) (fu : Nat) : ∀  (T3 : sS) (_ : RI T3) (_ : FR md_gr_check__p S T3), (Xi T3 890 1 = 1) → (ty7 S 0 = 33) → Pl fu lay0 (d + 6) m_gr_check 87 [(0, .ref 890)] [] T3 (Q_gr_check__p S) := by
  have hF : FR md_gr_check__p S S := FR.rf
  have w1 : -2147483648 ≤ Xi S 876 7 ∧ Xi S 876 7 ≤ 2147483647 := Xi_rgI
  have w2 : -2147483648 ≤ Xi S 890 1 ∧ Xi S 890 1 ≤ 2147483647 := Xi_rgI
  have w3 : -2147483648 ≤ Xi S 890 2 ∧ Xi S 890 2 ≤ 2147483647 := Xi_rgI
  have w4 : -2147483648 ≤ Xi S 890 3 ∧ Xi S 890 3 ≤ 2147483647 := Xi_rgI
  intro T3 hHT3 hFT3 w16 k87
  have w17 : Xi T3 876 7 = Xi S 876 7 := hFT3.x _ _ rfl
  have w18 : -2147483648 ≤ Xi T3 876 7 ∧ Xi T3 876 7 ≤ 2147483647 := Xi_rgI
  have w19 : -2147483648 ≤ Xi T3 890 1 ∧ Xi T3 890 1 ≤ 2147483647 := Xi_rgI
  have w20 : -2147483648 ≤ Xi T3 890 2 ∧ Xi T3 890 2 ≤ 2147483647 := Xi_rgI
  have w21 : -2147483648 ≤ Xi T3 890 3 ∧ Xi T3 890 3 ≤ 2147483647 := Xi_rgI
  refine y_aload_n rfl rfl ?_
  refine y_iconst rfl ?_
  refine y_pfi rfl rfl rfl rfl ?_
  obtain ⟨U4, eU4⟩ : ∃ T : sS, T = uI T3 890 2 (Int32.ofInt 1) := ⟨_, rfl⟩
  rw [← eU4]
  have hHU4 : RI U4 := by rw [eU4]; exact RI_w hHT3
  have hFU4 : FR md_gr_check__p S U4 := by rw [eU4]; exact FR.wI hFT3 (mdf_i (r := (890, 891, 2, 3)) (List.mem_of_getElem? (i := 1) rfl) (inR_i (by omega) (by omega) (by omega) (by omega)))
  have w22 : Xi U4 890 2 = 1 := by rw [eU4]; exact Xi_same (by unfold rg; omega)
  refine y_aload_n rfl rfl ?_
  refine y_bipush rfl rfl ?_
  have w23 : Xi U4 876 7 = Xi T3 876 7 := (show Xi U4 876 7 = Xi T3 876 7 from by rw [eU4]; exact Xi_ne (by omega))
  have w24 : Xi U4 890 1 = Xi T3 890 1 := (show Xi U4 890 1 = Xi T3 890 1 from by rw [eU4]; exact Xi_ne (by omega))
  refine y_callV rfl rfl rfl (t_gr_take__p hHU4 102 ⟨by omega, by omega⟩ (by first | assumption | exact (NFR_FR hFU4 rfl rfl (by assumption : NFR S))) (by first | assumption | omega) (by first | assumption | omega) _) ?_
  rintro _ T5 ⟨hHT5, w29, z28, rfl, w28, w26, w27⟩
  have hFT5 : FR md_gr_check__p S T5 := FR.tr hFU4 w29 rfl
  show Pl _ _ _ _ _ _ [iv z28] _ _
  have gp95 := w26
  rw [FRT hFU4 rfl rfl] at gp95
  try rw [show Xi U4 890 1 = Xi T3 890 1 by omega] at gp95
  clear w26
  rw [show Xi T3 890 1 = 1 by omega] at gp95
  refine y_if_eq rfl rfl (by unfold rg; omega) (fun w30 => ?_) (fun w31 => ?_)
  · rw [show z28 = 0 by omega] at gp95
    refine y_iconst rfl ?_
    refine y_ireturn rfl rfl ?_
    have w32 : Xi T5 876 7 = Xi T3 876 7 := (show Xi T5 876 7 = Xi U4 876 7 from w29.x _ _ rfl).trans ((show Xi U4 876 7 = Xi T3 876 7 from by rw [eU4]; exact Xi_ne (by omega)))
    have w33 : Xi T5 890 2 = Xi U4 890 2 := (show Xi T5 890 2 = Xi U4 890 2 from w29.x _ _ rfl)
    have w34 : Xi T5 890 3 = Xi T3 890 3 := (show Xi T5 890 3 = Xi U4 890 3 from w29.x _ _ rfl).trans ((show Xi U4 890 3 = Xi T3 890 3 from by rw [eU4]; exact Xi_ne (by omega)))
    exact ⟨hHT5, hFT5, _, rfl, ⟨by omega, by omega⟩, (by  first | (have t := k80; exact (chk_0 k80).trans (pe rfl (by omega))) | (have t := k87; rw [chk_1 k87]; simp only [gS_1, gS_0, o_1, o_0, i10, i00, n10, n00, if_true, if_false, gp95]) | (have t := k132; rw [chk_2 k132]; simp only [gS_1, gS_0, o_1, o_0, i10, i00, n10, n00, if_true, if_false, gp95]) | (have t := k278; rw [chk_o k278.o]; exact gp279) | (rw [chk_r t283.o, A283]; unfold rul7; (first | rw [show v1 = 0 by omega] | rw [show v1 = 1 by omega]); simp only [gS_1, gS_0, o_1, o_0, i10, i00, n10, n00, if_true, if_false, gp95])), (by omega), (by first | (have t := k80; exact (fun _ => cks_i (by omega))) | (have t := k87; exact (fun _ => cks_i (by omega))) | (have t := k132; exact (fun _ => cks_i (by omega))) | (have t := k278; exact (fun q => cks_o k278.o (s279.o q))) | exact (fun _ => cks_r (by omega) s283.o))⟩
  · rw [show z28 = 1 by omega] at gp95
    refine y_aload_n rfl rfl ?_
    refine y_bipush rfl rfl ?_
    have w35 : Xi T5 876 7 = Xi T3 876 7 := (show Xi T5 876 7 = Xi U4 876 7 from w29.x _ _ rfl).trans ((show Xi U4 876 7 = Xi T3 876 7 from by rw [eU4]; exact Xi_ne (by omega)))
    refine y_callV rfl rfl rfl (t_gr_take__p hHT5 34 ⟨by omega, by omega⟩ (by first | assumption | exact (NFR_FR hFT5 rfl rfl (by assumption : NFR S))) (by first | assumption | omega) (by first | assumption | omega) _) ?_
    rintro _ T6 ⟨hHT6, w41, z40, rfl, w40, w38, w39⟩
    have hFT6 : FR md_gr_check__p S T6 := FR.tr hFT5 w41 rfl
    show Pl _ _ _ _ _ _ [iv z40] _ _
    have gp104 := w38
    rw [FRT hFT5 rfl rfl] at gp104
    clear w38
    refine y_if_eq rfl rfl (by unfold rg; omega) (fun w42 => ?_) (fun w43 => ?_)
    · rw [show z40 = 0 by omega] at gp104
      refine y_iconst rfl ?_
      refine y_ireturn rfl rfl ?_
      have w44 : Xi T6 876 7 = Xi T3 876 7 := (show Xi T6 876 7 = Xi T5 876 7 from w41.x _ _ rfl).trans ( (show Xi T5 876 7 = Xi U4 876 7 from w29.x _ _ rfl).trans ((show Xi U4 876 7 = Xi T3 876 7 from by rw [eU4]; exact Xi_ne (by omega))))
      have w45 : Xi T6 890 2 = Xi U4 890 2 := (show Xi T6 890 2 = Xi T5 890 2 from w41.x _ _ rfl).trans ((show Xi T5 890 2 = Xi U4 890 2 from w29.x _ _ rfl))
      have w46 : Xi T6 890 3 = Xi T3 890 3 := (show Xi T6 890 3 = Xi T5 890 3 from w41.x _ _ rfl).trans ( (show Xi T5 890 3 = Xi U4 890 3 from w29.x _ _ rfl).trans ((show Xi U4 890 3 = Xi T3 890 3 from by rw [eU4]; exact Xi_ne (by omega))))
      exact ⟨hHT6, hFT6, _, rfl, ⟨by omega, by omega⟩, (by  first | (have t := k80; exact (chk_0 k80).trans (pe rfl (by omega))) | (have t := k87; rw [chk_1 k87]; simp only [gS_1, gS_0, o_1, o_0, i10, i00, n10, n00, if_true, if_false, gp95, gp104]) | (have t := k132; rw [chk_2 k132]; simp only [gS_1, gS_0, o_1, o_0, i10, i00, n10, n00, if_true, if_false, gp95, gp104]) | (have t := k278; rw [chk_o k278.o]; exact gp279) | (rw [chk_r t283.o, A283]; unfold rul7; (first | rw [show v1 = 0 by omega] | rw [show v1 = 1 by omega]); simp only [gS_1, gS_0, o_1, o_0, i10, i00, n10, n00, if_true, if_false, gp95, gp104])), (by omega), (by first | (have t := k80; exact (fun _ => cks_i (by omega))) | (have t := k87; exact (fun _ => cks_i (by omega))) | (have t := k132; exact (fun _ => cks_i (by omega))) | (have t := k278; exact (fun q => cks_o k278.o (s279.o q))) | exact (fun _ => cks_r (by omega) s283.o))⟩
    · rw [show z40 = 1 by omega] at gp104
      refine y_aload_n rfl rfl ?_
      have w47 : Xi T6 876 7 = Xi T3 876 7 := (show Xi T6 876 7 = Xi T5 876 7 from w41.x _ _ rfl).trans ( (show Xi T5 876 7 = Xi U4 876 7 from w29.x _ _ rfl).trans ((show Xi U4 876 7 = Xi T3 876 7 from by rw [eU4]; exact Xi_ne (by omega))))
      refine y_callV rfl rfl rfl (t_gr_takeRun__p hHT6 (by first | assumption | exact (NFR_FR hFT6 rfl rfl (by assumption : NFR S))) (by first | assumption | omega) (by first | assumption | omega) _) ?_
      rintro _ T7 ⟨hHT7, w53, z52, rfl, w52, w50, w51⟩
      have hFT7 : FR md_gr_check__p S T7 := FR.tr hFT6 w53 rfl
      show Pl _ _ _ _ _ _ [iv z52] _ _
      have gp111 := w50
      rw [FRT hFT6 rfl rfl] at gp111
      clear w50
      refine y_if_eq rfl rfl (by unfold rg; omega) (fun w54 => ?_) (fun w55 => ?_)
      · rw [show z52 = 0 by omega] at gp111
        refine y_iconst rfl ?_
        refine y_ireturn rfl rfl ?_
        have w56 : Xi T7 876 7 = Xi T3 876 7 := (show Xi T7 876 7 = Xi T6 876 7 from w53.x _ _ rfl).trans ( (show Xi T6 876 7 = Xi T5 876 7 from w41.x _ _ rfl).trans ( (show Xi T5 876 7 = Xi U4 876 7 from w29.x _ _ rfl).trans ((show Xi U4 876 7 = Xi T3 876 7 from by rw [eU4]; exact Xi_ne (by omega)))))
        have w57 : Xi T7 890 2 = Xi U4 890 2 := (show Xi T7 890 2 = Xi T6 890 2 from w53.x _ _ rfl).trans ( (show Xi T6 890 2 = Xi T5 890 2 from w41.x _ _ rfl).trans ((show Xi T5 890 2 = Xi U4 890 2 from w29.x _ _ rfl)))
        have w58 : Xi T7 890 3 = Xi T3 890 3 := (show Xi T7 890 3 = Xi T6 890 3 from w53.x _ _ rfl).trans ( (show Xi T6 890 3 = Xi T5 890 3 from w41.x _ _ rfl).trans ( (show Xi T5 890 3 = Xi U4 890 3 from w29.x _ _ rfl).trans ((show Xi U4 890 3 = Xi T3 890 3 from by rw [eU4]; exact Xi_ne (by omega)))))
        exact ⟨hHT7, hFT7, _, rfl, ⟨by omega, by omega⟩, (by  first | (have t := k80; exact (chk_0 k80).trans (pe rfl (by omega))) | (have t := k87; rw [chk_1 k87]; simp only [gS_1, gS_0, o_1, o_0, i10, i00, n10, n00, if_true, if_false, gp95, gp104, gp111]) | (have t := k132; rw [chk_2 k132]; simp only [gS_1, gS_0, o_1, o_0, i10, i00, n10, n00, if_true, if_false, gp95, gp104, gp111]) | (have t := k278; rw [chk_o k278.o]; exact gp279) | (rw [chk_r t283.o, A283]; unfold rul7; (first | rw [show v1 = 0 by omega] | rw [show v1 = 1 by omega]); simp only [gS_1, gS_0, o_1, o_0, i10, i00, n10, n00, if_true, if_false, gp95, gp104, gp111])), (by omega), (by first | (have t := k80; exact (fun _ => cks_i (by omega))) | (have t := k87; exact (fun _ => cks_i (by omega))) | (have t := k132; exact (fun _ => cks_i (by omega))) | (have t := k278; exact (fun q => cks_o k278.o (s279.o q))) | exact (fun _ => cks_r (by omega) s283.o))⟩
      · rw [show z52 = 1 by omega] at gp111
        refine y_aload_n rfl rfl ?_
        refine y_bipush rfl rfl ?_
        have w59 : Xi T7 876 7 = Xi T3 876 7 := (show Xi T7 876 7 = Xi T6 876 7 from w53.x _ _ rfl).trans ( (show Xi T6 876 7 = Xi T5 876 7 from w41.x _ _ rfl).trans ( (show Xi T5 876 7 = Xi U4 876 7 from w29.x _ _ rfl).trans ((show Xi U4 876 7 = Xi T3 876 7 from by rw [eU4]; exact Xi_ne (by omega)))))
        refine y_callV rfl rfl rfl (t_gr_take__p hHT7 103 ⟨by omega, by omega⟩ (by first | assumption | exact (NFR_FR hFT7 rfl rfl (by assumption : NFR S))) (by first | assumption | omega) (by first | assumption | omega) _) ?_
        rintro _ T8 ⟨hHT8, w65, z64, rfl, w64, w62, w63⟩
        have hFT8 : FR md_gr_check__p S T8 := FR.tr hFT7 w65 rfl
        show Pl _ _ _ _ _ _ [iv z64] _ _
        have gp120 := w62
        rw [FRT hFT7 rfl rfl] at gp120
        clear w62
        refine y_if_eq rfl rfl (by unfold rg; omega) (fun w66 => ?_) (fun w67 => ?_)
        · rw [show z64 = 0 by omega] at gp120
          refine y_iconst rfl ?_
          refine y_ireturn rfl rfl ?_
          have w68 : Xi T8 876 7 = Xi T3 876 7 := (show Xi T8 876 7 = Xi T7 876 7 from w65.x _ _ rfl).trans ( (show Xi T7 876 7 = Xi T6 876 7 from w53.x _ _ rfl).trans ( (show Xi T6 876 7 = Xi T5 876 7 from w41.x _ _ rfl).trans ( (show Xi T5 876 7 = Xi U4 876 7 from w29.x _ _ rfl).trans ((show Xi U4 876 7 = Xi T3 876 7 from by rw [eU4]; exact Xi_ne (by omega))))))
          have w69 : Xi T8 890 2 = Xi U4 890 2 := (show Xi T8 890 2 = Xi T7 890 2 from w65.x _ _ rfl).trans ( (show Xi T7 890 2 = Xi T6 890 2 from w53.x _ _ rfl).trans ( (show Xi T6 890 2 = Xi T5 890 2 from w41.x _ _ rfl).trans ((show Xi T5 890 2 = Xi U4 890 2 from w29.x _ _ rfl))))
          have w70 : Xi T8 890 3 = Xi T3 890 3 := (show Xi T8 890 3 = Xi T7 890 3 from w65.x _ _ rfl).trans ( (show Xi T7 890 3 = Xi T6 890 3 from w53.x _ _ rfl).trans ( (show Xi T6 890 3 = Xi T5 890 3 from w41.x _ _ rfl).trans ( (show Xi T5 890 3 = Xi U4 890 3 from w29.x _ _ rfl).trans ((show Xi U4 890 3 = Xi T3 890 3 from by rw [eU4]; exact Xi_ne (by omega))))))
          exact ⟨hHT8, hFT8, _, rfl, ⟨by omega, by omega⟩, (by  first | (have t := k80; exact (chk_0 k80).trans (pe rfl (by omega))) | (have t := k87; rw [chk_1 k87]; simp only [gS_1, gS_0, o_1, o_0, i10, i00, n10, n00, if_true, if_false, gp95, gp104, gp111, gp120]) | (have t := k132; rw [chk_2 k132]; simp only [gS_1, gS_0, o_1, o_0, i10, i00, n10, n00, if_true, if_false, gp95, gp104, gp111, gp120]) | (have t := k278; rw [chk_o k278.o]; exact gp279) | (rw [chk_r t283.o, A283]; unfold rul7; (first | rw [show v1 = 0 by omega] | rw [show v1 = 1 by omega]); simp only [gS_1, gS_0, o_1, o_0, i10, i00, n10, n00, if_true, if_false, gp95, gp104, gp111, gp120])), (by omega), (by first | (have t := k80; exact (fun _ => cks_i (by omega))) | (have t := k87; exact (fun _ => cks_i (by omega))) | (have t := k132; exact (fun _ => cks_i (by omega))) | (have t := k278; exact (fun q => cks_o k278.o (s279.o q))) | exact (fun _ => cks_r (by omega) s283.o))⟩
        · rw [show z64 = 1 by omega] at gp120
          refine y_iconst rfl ?_
          refine y_goto rfl rfl ?_
          refine y_ireturn rfl rfl ?_
          have w71 : Xi T8 876 7 = Xi T3 876 7 := (show Xi T8 876 7 = Xi T7 876 7 from w65.x _ _ rfl).trans ( (show Xi T7 876 7 = Xi T6 876 7 from w53.x _ _ rfl).trans ( (show Xi T6 876 7 = Xi T5 876 7 from w41.x _ _ rfl).trans ( (show Xi T5 876 7 = Xi U4 876 7 from w29.x _ _ rfl).trans ((show Xi U4 876 7 = Xi T3 876 7 from by rw [eU4]; exact Xi_ne (by omega))))))
          have w72 : Xi T8 890 2 = Xi U4 890 2 := (show Xi T8 890 2 = Xi T7 890 2 from w65.x _ _ rfl).trans ( (show Xi T7 890 2 = Xi T6 890 2 from w53.x _ _ rfl).trans ( (show Xi T6 890 2 = Xi T5 890 2 from w41.x _ _ rfl).trans ((show Xi T5 890 2 = Xi U4 890 2 from w29.x _ _ rfl))))
          have w73 : Xi T8 890 3 = Xi T3 890 3 := (show Xi T8 890 3 = Xi T7 890 3 from w65.x _ _ rfl).trans ( (show Xi T7 890 3 = Xi T6 890 3 from w53.x _ _ rfl).trans ( (show Xi T6 890 3 = Xi T5 890 3 from w41.x _ _ rfl).trans ( (show Xi T5 890 3 = Xi U4 890 3 from w29.x _ _ rfl).trans ((show Xi U4 890 3 = Xi T3 890 3 from by rw [eU4]; exact Xi_ne (by omega))))))
          exact ⟨hHT8, hFT8, _, rfl, ⟨by omega, by omega⟩, (by  first | (have t := k80; exact (chk_0 k80).trans (pe rfl (by omega))) | (have t := k87; rw [chk_1 k87]; simp only [gS_1, gS_0, o_1, o_0, i10, i00, n10, n00, if_true, if_false, gp95, gp104, gp111, gp120]) | (have t := k132; rw [chk_2 k132]; simp only [gS_1, gS_0, o_1, o_0, i10, i00, n10, n00, if_true, if_false, gp95, gp104, gp111, gp120]) | (have t := k278; rw [chk_o k278.o]; exact gp279) | (rw [chk_r t283.o, A283]; unfold rul7; (first | rw [show v1 = 0 by omega] | rw [show v1 = 1 by omega]); simp only [gS_1, gS_0, o_1, o_0, i10, i00, n10, n00, if_true, if_false, gp95, gp104, gp111, gp120])), (by omega), (by first | (have t := k80; exact (fun _ => cks_i (by omega))) | (have t := k87; exact (fun _ => cks_i (by omega))) | (have t := k132; exact (fun _ => cks_i (by omega))) | (have t := k278; exact (fun q => cks_o k278.o (s279.o q))) | exact (fun _ => cks_r (by omega) s283.o))⟩
set_option maxRecDepth 100000 in
theorem c132_gr_check__p {S : sS} (hH : RI S) (hfr : NFR S) (hr : Xi S 876 7 ≤ 5130) (hls : LST S) (h1 : 1 ≤ Xi S 876 7) (d : Nat) (fu : Nat) : ∀  (T9 : sS) (_ : RI T9) (_ : FR md_gr_check__p S T9), (Xi T9 890 1 = 1) → (ty7 S 0 = 35) → Pl fu lay0 (d + 6) m_gr_check 132 [(0, .ref 890)] [] T9 (Q_gr_check__p S) := by
  have hF : FR md_gr_check__p S S := FR.rf
  have w1 : -2147483648 ≤ Xi S 876 7 ∧ Xi S 876 7 ≤ 2147483647 := Xi_rgI
  have w2 : -2147483648 ≤ Xi S 890 1 ∧ Xi S 890 1 ≤ 2147483647 := Xi_rgI
  have w3 : -2147483648 ≤ Xi S 890 2 ∧ Xi S 890 2 ≤ 2147483647 := Xi_rgI
  have w4 : -2147483648 ≤ Xi S 890 3 ∧ Xi S 890 3 ≤ 2147483647 := Xi_rgI
  intro T9 hHT9 hFT9 w74 k132
  have w75 : Xi T9 876 7 = Xi S 876 7 := hFT9.x _ _ rfl
  have w76 : -2147483648 ≤ Xi T9 876 7 ∧ Xi T9 876 7 ≤ 2147483647 := Xi_rgI
  have w77 : -2147483648 ≤ Xi T9 890 1 ∧ Xi T9 890 1 ≤ 2147483647 := Xi_rgI
  have w78 : -2147483648 ≤ Xi T9 890 2 ∧ Xi T9 890 2 ≤ 2147483647 := Xi_rgI
  have w79 : -2147483648 ≤ Xi T9 890 3 ∧ Xi T9 890 3 ≤ 2147483647 := Xi_rgI
  refine y_aload_n rfl rfl ?_
  refine y_iconst rfl ?_
  refine y_pfi rfl rfl rfl rfl ?_
  obtain ⟨U10, eU10⟩ : ∃ T : sS, T = uI T9 890 2 (Int32.ofInt 2) := ⟨_, rfl⟩
  rw [← eU10]
  have hHU10 : RI U10 := by rw [eU10]; exact RI_w hHT9
  have hFU10 : FR md_gr_check__p S U10 := by rw [eU10]; exact FR.wI hFT9 (mdf_i (r := (890, 891, 2, 3)) (List.mem_of_getElem? (i := 1) rfl) (inR_i (by omega) (by omega) (by omega) (by omega)))
  have w80 : Xi U10 890 2 = 2 := by rw [eU10]; exact Xi_same (by unfold rg; omega)
  refine y_aload_n rfl rfl ?_
  refine y_bipush rfl rfl ?_
  have w81 : Xi U10 876 7 = Xi T9 876 7 := (show Xi U10 876 7 = Xi T9 876 7 from by rw [eU10]; exact Xi_ne (by omega))
  have w82 : Xi U10 890 1 = Xi T9 890 1 := (show Xi U10 890 1 = Xi T9 890 1 from by rw [eU10]; exact Xi_ne (by omega))
  refine y_callV rfl rfl rfl (t_gr_take__p hHU10 106 ⟨by omega, by omega⟩ (by first | assumption | exact (NFR_FR hFU10 rfl rfl (by assumption : NFR S))) (by first | assumption | omega) (by first | assumption | omega) _) ?_
  rintro _ T11 ⟨hHT11, w87, z86, rfl, w86, w84, w85⟩
  have hFT11 : FR md_gr_check__p S T11 := FR.tr hFU10 w87 rfl
  show Pl _ _ _ _ _ _ [iv z86] _ _
  have gp140 := w84
  rw [FRT hFU10 rfl rfl] at gp140
  try rw [show Xi U10 890 1 = Xi T9 890 1 by omega] at gp140
  clear w84
  rw [show Xi T9 890 1 = 1 by omega] at gp140
  refine y_if_eq rfl rfl (by unfold rg; omega) (fun w88 => ?_) (fun w89 => ?_)
  · rw [show z86 = 0 by omega] at gp140
    refine y_iconst rfl ?_
    refine y_ireturn rfl rfl ?_
    have w90 : Xi T11 876 7 = Xi T9 876 7 := (show Xi T11 876 7 = Xi U10 876 7 from w87.x _ _ rfl).trans ((show Xi U10 876 7 = Xi T9 876 7 from by rw [eU10]; exact Xi_ne (by omega)))
    have w91 : Xi T11 890 2 = Xi U10 890 2 := (show Xi T11 890 2 = Xi U10 890 2 from w87.x _ _ rfl)
    have w92 : Xi T11 890 3 = Xi T9 890 3 := (show Xi T11 890 3 = Xi U10 890 3 from w87.x _ _ rfl).trans ((show Xi U10 890 3 = Xi T9 890 3 from by rw [eU10]; exact Xi_ne (by omega)))
    exact ⟨hHT11, hFT11, _, rfl, ⟨by omega, by omega⟩, (by  first | (have t := k80; exact (chk_0 k80).trans (pe rfl (by omega))) | (have t := k87; rw [chk_1 k87]; simp only [gS_1, gS_0, o_1, o_0, i10, i00, n10, n00, if_true, if_false, gp140]) | (have t := k132; rw [chk_2 k132]; simp only [gS_1, gS_0, o_1, o_0, i10, i00, n10, n00, if_true, if_false, gp140]) | (have t := k278; rw [chk_o k278.o]; exact gp279) | (rw [chk_r t283.o, A283]; unfold rul7; (first | rw [show v1 = 0 by omega] | rw [show v1 = 1 by omega]); simp only [gS_1, gS_0, o_1, o_0, i10, i00, n10, n00, if_true, if_false, gp140])), (by omega), (by first | (have t := k80; exact (fun _ => cks_i (by omega))) | (have t := k87; exact (fun _ => cks_i (by omega))) | (have t := k132; exact (fun _ => cks_i (by omega))) | (have t := k278; exact (fun q => cks_o k278.o (s279.o q))) | exact (fun _ => cks_r (by omega) s283.o))⟩
  · rw [show z86 = 1 by omega] at gp140
    refine y_aload_n rfl rfl ?_
    have w93 : Xi T11 876 7 = Xi T9 876 7 := (show Xi T11 876 7 = Xi U10 876 7 from w87.x _ _ rfl).trans ((show Xi U10 876 7 = Xi T9 876 7 from by rw [eU10]; exact Xi_ne (by omega)))
    refine y_callV rfl rfl rfl (t_gr_takeArt__p hHT11 (by first | assumption | exact (NFR_FR hFT11 rfl rfl (by assumption : NFR S))) (by first | assumption | omega) (by first | assumption | omega) _) ?_
    rintro _ T12 ⟨hHT12, w99, z98, rfl, w98, w96, w97⟩
    have hFT12 : FR md_gr_check__p S T12 := FR.tr hFT11 w99 rfl
    show Pl _ _ _ _ _ _ [iv z98] _ _
    have gp147 := w96
    rw [FRT hFT11 rfl rfl] at gp147
    clear w96
    refine y_if_eq rfl rfl (by unfold rg; omega) (fun w100 => ?_) (fun w101 => ?_)
    · rw [show z98 = 0 by omega] at gp147
      refine y_iconst rfl ?_
      refine y_ireturn rfl rfl ?_
      have w102 : Xi T12 876 7 = Xi T9 876 7 := (show Xi T12 876 7 = Xi T11 876 7 from w99.x _ _ rfl).trans ( (show Xi T11 876 7 = Xi U10 876 7 from w87.x _ _ rfl).trans ((show Xi U10 876 7 = Xi T9 876 7 from by rw [eU10]; exact Xi_ne (by omega))))
      have w103 : Xi T12 890 2 = Xi U10 890 2 := (show Xi T12 890 2 = Xi T11 890 2 from w99.x _ _ rfl).trans ((show Xi T11 890 2 = Xi U10 890 2 from w87.x _ _ rfl))
      have w104 : Xi T12 890 3 = Xi T9 890 3 := (show Xi T12 890 3 = Xi T11 890 3 from w99.x _ _ rfl).trans ( (show Xi T11 890 3 = Xi U10 890 3 from w87.x _ _ rfl).trans ((show Xi U10 890 3 = Xi T9 890 3 from by rw [eU10]; exact Xi_ne (by omega))))
      exact ⟨hHT12, hFT12, _, rfl, ⟨by omega, by omega⟩, (by  first | (have t := k80; exact (chk_0 k80).trans (pe rfl (by omega))) | (have t := k87; rw [chk_1 k87]; simp only [gS_1, gS_0, o_1, o_0, i10, i00, n10, n00, if_true, if_false, gp140, gp147]) | (have t := k132; rw [chk_2 k132]; simp only [gS_1, gS_0, o_1, o_0, i10, i00, n10, n00, if_true, if_false, gp140, gp147]) | (have t := k278; rw [chk_o k278.o]; exact gp279) | (rw [chk_r t283.o, A283]; unfold rul7; (first | rw [show v1 = 0 by omega] | rw [show v1 = 1 by omega]); simp only [gS_1, gS_0, o_1, o_0, i10, i00, n10, n00, if_true, if_false, gp140, gp147])), (by omega), (by first | (have t := k80; exact (fun _ => cks_i (by omega))) | (have t := k87; exact (fun _ => cks_i (by omega))) | (have t := k132; exact (fun _ => cks_i (by omega))) | (have t := k278; exact (fun q => cks_o k278.o (s279.o q))) | exact (fun _ => cks_r (by omega) s283.o))⟩
    · rw [show z98 = 1 by omega] at gp147
      refine y_aload_n rfl rfl ?_
      have w105 : Xi T12 876 7 = Xi T9 876 7 := (show Xi T12 876 7 = Xi T11 876 7 from w99.x _ _ rfl).trans ( (show Xi T11 876 7 = Xi U10 876 7 from w87.x _ _ rfl).trans ((show Xi U10 876 7 = Xi T9 876 7 from by rw [eU10]; exact Xi_ne (by omega))))
      refine y_callV rfl rfl rfl (t_gr_takeRun__p hHT12 (by first | assumption | exact (NFR_FR hFT12 rfl rfl (by assumption : NFR S))) (by first | assumption | omega) (by first | assumption | omega) _) ?_
      rintro _ T13 ⟨hHT13, w111, z110, rfl, w110, w108, w109⟩
      have hFT13 : FR md_gr_check__p S T13 := FR.tr hFT12 w111 rfl
      show Pl _ _ _ _ _ _ [iv z110] _ _
      have gp154 := w108
      rw [FRT hFT12 rfl rfl] at gp154
      clear w108
      refine y_if_eq rfl rfl (by unfold rg; omega) (fun w112 => ?_) (fun w113 => ?_)
      · rw [show z110 = 0 by omega] at gp154
        refine y_iconst rfl ?_
        refine y_ireturn rfl rfl ?_
        have w114 : Xi T13 876 7 = Xi T9 876 7 := (show Xi T13 876 7 = Xi T12 876 7 from w111.x _ _ rfl).trans ( (show Xi T12 876 7 = Xi T11 876 7 from w99.x _ _ rfl).trans ( (show Xi T11 876 7 = Xi U10 876 7 from w87.x _ _ rfl).trans ((show Xi U10 876 7 = Xi T9 876 7 from by rw [eU10]; exact Xi_ne (by omega)))))
        have w115 : Xi T13 890 2 = Xi U10 890 2 := (show Xi T13 890 2 = Xi T12 890 2 from w111.x _ _ rfl).trans ( (show Xi T12 890 2 = Xi T11 890 2 from w99.x _ _ rfl).trans ((show Xi T11 890 2 = Xi U10 890 2 from w87.x _ _ rfl)))
        have w116 : Xi T13 890 3 = Xi T9 890 3 := (show Xi T13 890 3 = Xi T12 890 3 from w111.x _ _ rfl).trans ( (show Xi T12 890 3 = Xi T11 890 3 from w99.x _ _ rfl).trans ( (show Xi T11 890 3 = Xi U10 890 3 from w87.x _ _ rfl).trans ((show Xi U10 890 3 = Xi T9 890 3 from by rw [eU10]; exact Xi_ne (by omega)))))
        exact ⟨hHT13, hFT13, _, rfl, ⟨by omega, by omega⟩, (by  first | (have t := k80; exact (chk_0 k80).trans (pe rfl (by omega))) | (have t := k87; rw [chk_1 k87]; simp only [gS_1, gS_0, o_1, o_0, i10, i00, n10, n00, if_true, if_false, gp140, gp147, gp154]) | (have t := k132; rw [chk_2 k132]; simp only [gS_1, gS_0, o_1, o_0, i10, i00, n10, n00, if_true, if_false, gp140, gp147, gp154]) | (have t := k278; rw [chk_o k278.o]; exact gp279) | (rw [chk_r t283.o, A283]; unfold rul7; (first | rw [show v1 = 0 by omega] | rw [show v1 = 1 by omega]); simp only [gS_1, gS_0, o_1, o_0, i10, i00, n10, n00, if_true, if_false, gp140, gp147, gp154])), (by omega), (by first | (have t := k80; exact (fun _ => cks_i (by omega))) | (have t := k87; exact (fun _ => cks_i (by omega))) | (have t := k132; exact (fun _ => cks_i (by omega))) | (have t := k278; exact (fun q => cks_o k278.o (s279.o q))) | exact (fun _ => cks_r (by omega) s283.o))⟩
      · rw [show z110 = 1 by omega] at gp154
        refine y_aload_n rfl rfl ?_
        refine y_iconst rfl ?_
        have w117 : Xi T13 876 7 = Xi T9 876 7 := (show Xi T13 876 7 = Xi T12 876 7 from w111.x _ _ rfl).trans ( (show Xi T12 876 7 = Xi T11 876 7 from w99.x _ _ rfl).trans ( (show Xi T11 876 7 = Xi U10 876 7 from w87.x _ _ rfl).trans ((show Xi U10 876 7 = Xi T9 876 7 from by rw [eU10]; exact Xi_ne (by omega)))))
        refine y_callV rfl rfl rfl (t_gr_take__p hHT13 4 ⟨by omega, by omega⟩ (by first | assumption | exact (NFR_FR hFT13 rfl rfl (by assumption : NFR S))) (by first | assumption | omega) (by first | assumption | omega) _) ?_
        rintro _ T14 ⟨hHT14, w123, z122, rfl, w122, w120, w121⟩
        have hFT14 : FR md_gr_check__p S T14 := FR.tr hFT13 w123 rfl
        show Pl _ _ _ _ _ _ [iv z122] _ _
        have gp162 := w120
        rw [FRT hFT13 rfl rfl] at gp162
        clear w120
        refine y_if_eq rfl rfl (by unfold rg; omega) (fun w124 => ?_) (fun w125 => ?_)
        · rw [show z122 = 0 by omega] at gp162
          refine y_iconst rfl ?_
          refine y_ireturn rfl rfl ?_
          have w126 : Xi T14 876 7 = Xi T9 876 7 := (show Xi T14 876 7 = Xi T13 876 7 from w123.x _ _ rfl).trans ( (show Xi T13 876 7 = Xi T12 876 7 from w111.x _ _ rfl).trans ( (show Xi T12 876 7 = Xi T11 876 7 from w99.x _ _ rfl).trans ( (show Xi T11 876 7 = Xi U10 876 7 from w87.x _ _ rfl).trans ((show Xi U10 876 7 = Xi T9 876 7 from by rw [eU10]; exact Xi_ne (by omega))))))
          have w127 : Xi T14 890 2 = Xi U10 890 2 := (show Xi T14 890 2 = Xi T13 890 2 from w123.x _ _ rfl).trans ( (show Xi T13 890 2 = Xi T12 890 2 from w111.x _ _ rfl).trans ( (show Xi T12 890 2 = Xi T11 890 2 from w99.x _ _ rfl).trans ((show Xi T11 890 2 = Xi U10 890 2 from w87.x _ _ rfl))))
          have w128 : Xi T14 890 3 = Xi T9 890 3 := (show Xi T14 890 3 = Xi T13 890 3 from w123.x _ _ rfl).trans ( (show Xi T13 890 3 = Xi T12 890 3 from w111.x _ _ rfl).trans ( (show Xi T12 890 3 = Xi T11 890 3 from w99.x _ _ rfl).trans ( (show Xi T11 890 3 = Xi U10 890 3 from w87.x _ _ rfl).trans ((show Xi U10 890 3 = Xi T9 890 3 from by rw [eU10]; exact Xi_ne (by omega))))))
          exact ⟨hHT14, hFT14, _, rfl, ⟨by omega, by omega⟩, (by  first | (have t := k80; exact (chk_0 k80).trans (pe rfl (by omega))) | (have t := k87; rw [chk_1 k87]; simp only [gS_1, gS_0, o_1, o_0, i10, i00, n10, n00, if_true, if_false, gp140, gp147, gp154, gp162]) | (have t := k132; rw [chk_2 k132]; simp only [gS_1, gS_0, o_1, o_0, i10, i00, n10, n00, if_true, if_false, gp140, gp147, gp154, gp162]) | (have t := k278; rw [chk_o k278.o]; exact gp279) | (rw [chk_r t283.o, A283]; unfold rul7; (first | rw [show v1 = 0 by omega] | rw [show v1 = 1 by omega]); simp only [gS_1, gS_0, o_1, o_0, i10, i00, n10, n00, if_true, if_false, gp140, gp147, gp154, gp162])), (by omega), (by first | (have t := k80; exact (fun _ => cks_i (by omega))) | (have t := k87; exact (fun _ => cks_i (by omega))) | (have t := k132; exact (fun _ => cks_i (by omega))) | (have t := k278; exact (fun q => cks_o k278.o (s279.o q))) | exact (fun _ => cks_r (by omega) s283.o))⟩
        · rw [show z122 = 1 by omega] at gp162
          refine y_aload_n rfl rfl ?_
          have w129 : Xi T14 876 7 = Xi T9 876 7 := (show Xi T14 876 7 = Xi T13 876 7 from w123.x _ _ rfl).trans ( (show Xi T13 876 7 = Xi T12 876 7 from w111.x _ _ rfl).trans ( (show Xi T12 876 7 = Xi T11 876 7 from w99.x _ _ rfl).trans ( (show Xi T11 876 7 = Xi U10 876 7 from w87.x _ _ rfl).trans ((show Xi U10 876 7 = Xi T9 876 7 from by rw [eU10]; exact Xi_ne (by omega))))))
          refine y_callV rfl rfl rfl (t_gr_takeRun__p hHT14 (by first | assumption | exact (NFR_FR hFT14 rfl rfl (by assumption : NFR S))) (by first | assumption | omega) (by first | assumption | omega) _) ?_
          rintro _ T15 ⟨hHT15, w135, z134, rfl, w134, w132, w133⟩
          have hFT15 : FR md_gr_check__p S T15 := FR.tr hFT14 w135 rfl
          show Pl _ _ _ _ _ _ [iv z134] _ _
          have gp169 := w132
          rw [FRT hFT14 rfl rfl] at gp169
          clear w132
          refine y_if_eq rfl rfl (by unfold rg; omega) (fun w136 => ?_) (fun w137 => ?_)
          · rw [show z134 = 0 by omega] at gp169
            refine y_iconst rfl ?_
            refine y_ireturn rfl rfl ?_
            have w138 : Xi T15 876 7 = Xi T9 876 7 := (show Xi T15 876 7 = Xi T14 876 7 from w135.x _ _ rfl).trans ( (show Xi T14 876 7 = Xi T13 876 7 from w123.x _ _ rfl).trans ( (show Xi T13 876 7 = Xi T12 876 7 from w111.x _ _ rfl).trans ( (show Xi T12 876 7 = Xi T11 876 7 from w99.x _ _ rfl).trans ( (show Xi T11 876 7 = Xi U10 876 7 from w87.x _ _ rfl).trans ((show Xi U10 876 7 = Xi T9 876 7 from by rw [eU10]; exact Xi_ne (by omega)))))))
            have w139 : Xi T15 890 2 = Xi U10 890 2 := (show Xi T15 890 2 = Xi T14 890 2 from w135.x _ _ rfl).trans ( (show Xi T14 890 2 = Xi T13 890 2 from w123.x _ _ rfl).trans ( (show Xi T13 890 2 = Xi T12 890 2 from w111.x _ _ rfl).trans ( (show Xi T12 890 2 = Xi T11 890 2 from w99.x _ _ rfl).trans ((show Xi T11 890 2 = Xi U10 890 2 from w87.x _ _ rfl)))))
            have w140 : Xi T15 890 3 = Xi T9 890 3 := (show Xi T15 890 3 = Xi T14 890 3 from w135.x _ _ rfl).trans ( (show Xi T14 890 3 = Xi T13 890 3 from w123.x _ _ rfl).trans ( (show Xi T13 890 3 = Xi T12 890 3 from w111.x _ _ rfl).trans ( (show Xi T12 890 3 = Xi T11 890 3 from w99.x _ _ rfl).trans ( (show Xi T11 890 3 = Xi U10 890 3 from w87.x _ _ rfl).trans ((show Xi U10 890 3 = Xi T9 890 3 from by rw [eU10]; exact Xi_ne (by omega)))))))
            exact ⟨hHT15, hFT15, _, rfl, ⟨by omega, by omega⟩, (by  first | (have t := k80; exact (chk_0 k80).trans (pe rfl (by omega))) | (have t := k87; rw [chk_1 k87]; simp only [gS_1, gS_0, o_1, o_0, i10, i00, n10, n00, if_true, if_false, gp140, gp147, gp154, gp162, gp169]) | (have t := k132; rw [chk_2 k132]; simp only [gS_1, gS_0, o_1, o_0, i10, i00, n10, n00, if_true, if_false, gp140, gp147, gp154, gp162, gp169]) | (have t := k278; rw [chk_o k278.o]; exact gp279) | (rw [chk_r t283.o, A283]; unfold rul7; (first | rw [show v1 = 0 by omega] | rw [show v1 = 1 by omega]); simp only [gS_1, gS_0, o_1, o_0, i10, i00, n10, n00, if_true, if_false, gp140, gp147, gp154, gp162, gp169])), (by omega), (by first | (have t := k80; exact (fun _ => cks_i (by omega))) | (have t := k87; exact (fun _ => cks_i (by omega))) | (have t := k132; exact (fun _ => cks_i (by omega))) | (have t := k278; exact (fun q => cks_o k278.o (s279.o q))) | exact (fun _ => cks_r (by omega) s283.o))⟩
          · rw [show z134 = 1 by omega] at gp169
            refine y_aload_n rfl rfl ?_
            refine y_bipush rfl rfl ?_
            have w141 : Xi T15 876 7 = Xi T9 876 7 := (show Xi T15 876 7 = Xi T14 876 7 from w135.x _ _ rfl).trans ( (show Xi T14 876 7 = Xi T13 876 7 from w123.x _ _ rfl).trans ( (show Xi T13 876 7 = Xi T12 876 7 from w111.x _ _ rfl).trans ( (show Xi T12 876 7 = Xi T11 876 7 from w99.x _ _ rfl).trans ( (show Xi T11 876 7 = Xi U10 876 7 from w87.x _ _ rfl).trans ((show Xi U10 876 7 = Xi T9 876 7 from by rw [eU10]; exact Xi_ne (by omega)))))))
            refine y_callV rfl rfl rfl (t_gr_take__p hHT15 36 ⟨by omega, by omega⟩ (by first | assumption | exact (NFR_FR hFT15 rfl rfl (by assumption : NFR S))) (by first | assumption | omega) (by first | assumption | omega) _) ?_
            rintro _ T16 ⟨hHT16, w147, z146, rfl, w146, w144, w145⟩
            have hFT16 : FR md_gr_check__p S T16 := FR.tr hFT15 w147 rfl
            show Pl _ _ _ _ _ _ [iv z146] _ _
            have gp178 := w144
            rw [FRT hFT15 rfl rfl] at gp178
            clear w144
            refine y_if_eq rfl rfl (by unfold rg; omega) (fun w148 => ?_) (fun w149 => ?_)
            · rw [show z146 = 0 by omega] at gp178
              refine y_iconst rfl ?_
              refine y_ireturn rfl rfl ?_
              have w150 : Xi T16 876 7 = Xi T9 876 7 := (show Xi T16 876 7 = Xi T15 876 7 from w147.x _ _ rfl).trans ( (show Xi T15 876 7 = Xi T14 876 7 from w135.x _ _ rfl).trans ( (show Xi T14 876 7 = Xi T13 876 7 from w123.x _ _ rfl).trans ( (show Xi T13 876 7 = Xi T12 876 7 from w111.x _ _ rfl).trans ( (show Xi T12 876 7 = Xi T11 876 7 from w99.x _ _ rfl).trans ( (show Xi T11 876 7 = Xi U10 876 7 from w87.x _ _ rfl).trans ((show Xi U10 876 7 = Xi T9 876 7 from by rw [eU10]; exact Xi_ne (by omega))))))))
              have w151 : Xi T16 890 2 = Xi U10 890 2 := (show Xi T16 890 2 = Xi T15 890 2 from w147.x _ _ rfl).trans ( (show Xi T15 890 2 = Xi T14 890 2 from w135.x _ _ rfl).trans ( (show Xi T14 890 2 = Xi T13 890 2 from w123.x _ _ rfl).trans ( (show Xi T13 890 2 = Xi T12 890 2 from w111.x _ _ rfl).trans ( (show Xi T12 890 2 = Xi T11 890 2 from w99.x _ _ rfl).trans ((show Xi T11 890 2 = Xi U10 890 2 from w87.x _ _ rfl))))))
              have w152 : Xi T16 890 3 = Xi T9 890 3 := (show Xi T16 890 3 = Xi T15 890 3 from w147.x _ _ rfl).trans ( (show Xi T15 890 3 = Xi T14 890 3 from w135.x _ _ rfl).trans ( (show Xi T14 890 3 = Xi T13 890 3 from w123.x _ _ rfl).trans ( (show Xi T13 890 3 = Xi T12 890 3 from w111.x _ _ rfl).trans ( (show Xi T12 890 3 = Xi T11 890 3 from w99.x _ _ rfl).trans ( (show Xi T11 890 3 = Xi U10 890 3 from w87.x _ _ rfl).trans ((show Xi U10 890 3 = Xi T9 890 3 from by rw [eU10]; exact Xi_ne (by omega))))))))
              exact ⟨hHT16, hFT16, _, rfl, ⟨by omega, by omega⟩, (by  first | (have t := k80; exact (chk_0 k80).trans (pe rfl (by omega))) | (have t := k87; rw [chk_1 k87]; simp only [gS_1, gS_0, o_1, o_0, i10, i00, n10, n00, if_true, if_false, gp140, gp147, gp154, gp162, gp169, gp178]) | (have t := k132; rw [chk_2 k132]; simp only [gS_1, gS_0, o_1, o_0, i10, i00, n10, n00, if_true, if_false, gp140, gp147, gp154, gp162, gp169, gp178]) | (have t := k278; rw [chk_o k278.o]; exact gp279) | (rw [chk_r t283.o, A283]; unfold rul7; (first | rw [show v1 = 0 by omega] | rw [show v1 = 1 by omega]); simp only [gS_1, gS_0, o_1, o_0, i10, i00, n10, n00, if_true, if_false, gp140, gp147, gp154, gp162, gp169, gp178])), (by omega), (by first | (have t := k80; exact (fun _ => cks_i (by omega))) | (have t := k87; exact (fun _ => cks_i (by omega))) | (have t := k132; exact (fun _ => cks_i (by omega))) | (have t := k278; exact (fun q => cks_o k278.o (s279.o q))) | exact (fun _ => cks_r (by omega) s283.o))⟩
            · rw [show z146 = 1 by omega] at gp178
              refine y_aload_n rfl rfl ?_
              have w153 : Xi T16 876 7 = Xi T9 876 7 := (show Xi T16 876 7 = Xi T15 876 7 from w147.x _ _ rfl).trans ( (show Xi T15 876 7 = Xi T14 876 7 from w135.x _ _ rfl).trans ( (show Xi T14 876 7 = Xi T13 876 7 from w123.x _ _ rfl).trans ( (show Xi T13 876 7 = Xi T12 876 7 from w111.x _ _ rfl).trans ( (show Xi T12 876 7 = Xi T11 876 7 from w99.x _ _ rfl).trans ( (show Xi T11 876 7 = Xi U10 876 7 from w87.x _ _ rfl).trans ((show Xi U10 876 7 = Xi T9 876 7 from by rw [eU10]; exact Xi_ne (by omega))))))))
              refine y_callV rfl rfl rfl (t_gr_takeTests__p hHT16 (by first | assumption | exact (NFR_FR hFT16 rfl rfl (by assumption : NFR S))) (by first | assumption | omega) (by first | assumption | omega) _) ?_
              rintro _ T17 ⟨hHT17, w159, z158, rfl, w158, w156, w157⟩
              have hFT17 : FR md_gr_check__p S T17 := FR.tr hFT16 w159 rfl
              show Pl _ _ _ _ _ _ [iv z158] _ _
              have gp185 := w156
              rw [FRT hFT16 rfl rfl] at gp185
              clear w156
              refine y_if_eq rfl rfl (by unfold rg; omega) (fun w160 => ?_) (fun w161 => ?_)
              · rw [show z158 = 0 by omega] at gp185
                refine y_iconst rfl ?_
                refine y_ireturn rfl rfl ?_
                have w162 : Xi T17 876 7 = Xi T9 876 7 := (show Xi T17 876 7 = Xi T16 876 7 from w159.x _ _ rfl).trans ( (show Xi T16 876 7 = Xi T15 876 7 from w147.x _ _ rfl).trans ( (show Xi T15 876 7 = Xi T14 876 7 from w135.x _ _ rfl).trans ( (show Xi T14 876 7 = Xi T13 876 7 from w123.x _ _ rfl).trans ( (show Xi T13 876 7 = Xi T12 876 7 from w111.x _ _ rfl).trans ( (show Xi T12 876 7 = Xi T11 876 7 from w99.x _ _ rfl).trans ( (show Xi T11 876 7 = Xi U10 876 7 from w87.x _ _ rfl).trans ((show Xi U10 876 7 = Xi T9 876 7 from by rw [eU10]; exact Xi_ne (by omega)))))))))
                have w163 : Xi T17 890 2 = Xi U10 890 2 := (show Xi T17 890 2 = Xi T16 890 2 from w159.x _ _ rfl).trans ( (show Xi T16 890 2 = Xi T15 890 2 from w147.x _ _ rfl).trans ( (show Xi T15 890 2 = Xi T14 890 2 from w135.x _ _ rfl).trans ( (show Xi T14 890 2 = Xi T13 890 2 from w123.x _ _ rfl).trans ( (show Xi T13 890 2 = Xi T12 890 2 from w111.x _ _ rfl).trans ( (show Xi T12 890 2 = Xi T11 890 2 from w99.x _ _ rfl).trans ((show Xi T11 890 2 = Xi U10 890 2 from w87.x _ _ rfl)))))))
                have w164 : Xi T17 890 3 = Xi T9 890 3 := (show Xi T17 890 3 = Xi T16 890 3 from w159.x _ _ rfl).trans ( (show Xi T16 890 3 = Xi T15 890 3 from w147.x _ _ rfl).trans ( (show Xi T15 890 3 = Xi T14 890 3 from w135.x _ _ rfl).trans ( (show Xi T14 890 3 = Xi T13 890 3 from w123.x _ _ rfl).trans ( (show Xi T13 890 3 = Xi T12 890 3 from w111.x _ _ rfl).trans ( (show Xi T12 890 3 = Xi T11 890 3 from w99.x _ _ rfl).trans ( (show Xi T11 890 3 = Xi U10 890 3 from w87.x _ _ rfl).trans ((show Xi U10 890 3 = Xi T9 890 3 from by rw [eU10]; exact Xi_ne (by omega)))))))))
                exact ⟨hHT17, hFT17, _, rfl, ⟨by omega, by omega⟩, (by  first | (have t := k80; exact (chk_0 k80).trans (pe rfl (by omega))) | (have t := k87; rw [chk_1 k87]; simp only [gS_1, gS_0, o_1, o_0, i10, i00, n10, n00, if_true, if_false, gp140, gp147, gp154, gp162, gp169, gp178, gp185]) | (have t := k132; rw [chk_2 k132]; simp only [gS_1, gS_0, o_1, o_0, i10, i00, n10, n00, if_true, if_false, gp140, gp147, gp154, gp162, gp169, gp178, gp185]) | (have t := k278; rw [chk_o k278.o]; exact gp279) | (rw [chk_r t283.o, A283]; unfold rul7; (first | rw [show v1 = 0 by omega] | rw [show v1 = 1 by omega]); simp only [gS_1, gS_0, o_1, o_0, i10, i00, n10, n00, if_true, if_false, gp140, gp147, gp154, gp162, gp169, gp178, gp185])), (by omega), (by first | (have t := k80; exact (fun _ => cks_i (by omega))) | (have t := k87; exact (fun _ => cks_i (by omega))) | (have t := k132; exact (fun _ => cks_i (by omega))) | (have t := k278; exact (fun q => cks_o k278.o (s279.o q))) | exact (fun _ => cks_r (by omega) s283.o))⟩
              · rw [show z158 = 1 by omega] at gp185
                refine y_aload_n rfl rfl ?_
                refine y_bipush rfl rfl ?_
                have w165 : Xi T17 876 7 = Xi T9 876 7 := (show Xi T17 876 7 = Xi T16 876 7 from w159.x _ _ rfl).trans ( (show Xi T16 876 7 = Xi T15 876 7 from w147.x _ _ rfl).trans ( (show Xi T15 876 7 = Xi T14 876 7 from w135.x _ _ rfl).trans ( (show Xi T14 876 7 = Xi T13 876 7 from w123.x _ _ rfl).trans ( (show Xi T13 876 7 = Xi T12 876 7 from w111.x _ _ rfl).trans ( (show Xi T12 876 7 = Xi T11 876 7 from w99.x _ _ rfl).trans ( (show Xi T11 876 7 = Xi U10 876 7 from w87.x _ _ rfl).trans ((show Xi U10 876 7 = Xi T9 876 7 from by rw [eU10]; exact Xi_ne (by omega)))))))))
                refine y_callV rfl rfl rfl (t_gr_take__p hHT17 103 ⟨by omega, by omega⟩ (by first | assumption | exact (NFR_FR hFT17 rfl rfl (by assumption : NFR S))) (by first | assumption | omega) (by first | assumption | omega) _) ?_
                rintro _ T18 ⟨hHT18, w171, z170, rfl, w170, w168, w169⟩
                have hFT18 : FR md_gr_check__p S T18 := FR.tr hFT17 w171 rfl
                show Pl _ _ _ _ _ _ [iv z170] _ _
                have gp194 := w168
                rw [FRT hFT17 rfl rfl] at gp194
                clear w168
                refine y_if_eq rfl rfl (by unfold rg; omega) (fun w172 => ?_) (fun w173 => ?_)
                · rw [show z170 = 0 by omega] at gp194
                  refine y_iconst rfl ?_
                  refine y_ireturn rfl rfl ?_
                  have w174 : Xi T18 876 7 = Xi T9 876 7 := (show Xi T18 876 7 = Xi T17 876 7 from w171.x _ _ rfl).trans ( (show Xi T17 876 7 = Xi T16 876 7 from w159.x _ _ rfl).trans ( (show Xi T16 876 7 = Xi T15 876 7 from w147.x _ _ rfl).trans ( (show Xi T15 876 7 = Xi T14 876 7 from w135.x _ _ rfl).trans ( (show Xi T14 876 7 = Xi T13 876 7 from w123.x _ _ rfl).trans ( (show Xi T13 876 7 = Xi T12 876 7 from w111.x _ _ rfl).trans ( (show Xi T12 876 7 = Xi T11 876 7 from w99.x _ _ rfl).trans ( (show Xi T11 876 7 = Xi U10 876 7 from w87.x _ _ rfl).trans ((show Xi U10 876 7 = Xi T9 876 7 from by rw [eU10]; exact Xi_ne (by omega))))))))))
                  have w175 : Xi T18 890 2 = Xi U10 890 2 := (show Xi T18 890 2 = Xi T17 890 2 from w171.x _ _ rfl).trans ( (show Xi T17 890 2 = Xi T16 890 2 from w159.x _ _ rfl).trans ( (show Xi T16 890 2 = Xi T15 890 2 from w147.x _ _ rfl).trans ( (show Xi T15 890 2 = Xi T14 890 2 from w135.x _ _ rfl).trans ( (show Xi T14 890 2 = Xi T13 890 2 from w123.x _ _ rfl).trans ( (show Xi T13 890 2 = Xi T12 890 2 from w111.x _ _ rfl).trans ( (show Xi T12 890 2 = Xi T11 890 2 from w99.x _ _ rfl).trans ((show Xi T11 890 2 = Xi U10 890 2 from w87.x _ _ rfl))))))))
                  have w176 : Xi T18 890 3 = Xi T9 890 3 := (show Xi T18 890 3 = Xi T17 890 3 from w171.x _ _ rfl).trans ( (show Xi T17 890 3 = Xi T16 890 3 from w159.x _ _ rfl).trans ( (show Xi T16 890 3 = Xi T15 890 3 from w147.x _ _ rfl).trans ( (show Xi T15 890 3 = Xi T14 890 3 from w135.x _ _ rfl).trans ( (show Xi T14 890 3 = Xi T13 890 3 from w123.x _ _ rfl).trans ( (show Xi T13 890 3 = Xi T12 890 3 from w111.x _ _ rfl).trans ( (show Xi T12 890 3 = Xi T11 890 3 from w99.x _ _ rfl).trans ( (show Xi T11 890 3 = Xi U10 890 3 from w87.x _ _ rfl).trans ((show Xi U10 890 3 = Xi T9 890 3 from by rw [eU10]; exact Xi_ne (by omega))))))))))
                  exact ⟨hHT18, hFT18, _, rfl, ⟨by omega, by omega⟩, (by  first | (have t := k80; exact (chk_0 k80).trans (pe rfl (by omega))) | (have t := k87; rw [chk_1 k87]; simp only [gS_1, gS_0, o_1, o_0, i10, i00, n10, n00, if_true, if_false, gp140, gp147, gp154, gp162, gp169, gp178, gp185, gp194]) | (have t := k132; rw [chk_2 k132]; simp only [gS_1, gS_0, o_1, o_0, i10, i00, n10, n00, if_true, if_false, gp140, gp147, gp154, gp162, gp169, gp178, gp185, gp194]) | (have t := k278; rw [chk_o k278.o]; exact gp279) | (rw [chk_r t283.o, A283]; unfold rul7; (first | rw [show v1 = 0 by omega] | rw [show v1 = 1 by omega]); simp only [gS_1, gS_0, o_1, o_0, i10, i00, n10, n00, if_true, if_false, gp140, gp147, gp154, gp162, gp169, gp178, gp185, gp194])), (by omega), (by first | (have t := k80; exact (fun _ => cks_i (by omega))) | (have t := k87; exact (fun _ => cks_i (by omega))) | (have t := k132; exact (fun _ => cks_i (by omega))) | (have t := k278; exact (fun q => cks_o k278.o (s279.o q))) | exact (fun _ => cks_r (by omega) s283.o))⟩
                · rw [show z170 = 1 by omega] at gp194
                  refine y_iconst rfl ?_
                  refine y_goto rfl rfl ?_
                  refine y_ireturn rfl rfl ?_
                  have w177 : Xi T18 876 7 = Xi T9 876 7 := (show Xi T18 876 7 = Xi T17 876 7 from w171.x _ _ rfl).trans ( (show Xi T17 876 7 = Xi T16 876 7 from w159.x _ _ rfl).trans ( (show Xi T16 876 7 = Xi T15 876 7 from w147.x _ _ rfl).trans ( (show Xi T15 876 7 = Xi T14 876 7 from w135.x _ _ rfl).trans ( (show Xi T14 876 7 = Xi T13 876 7 from w123.x _ _ rfl).trans ( (show Xi T13 876 7 = Xi T12 876 7 from w111.x _ _ rfl).trans ( (show Xi T12 876 7 = Xi T11 876 7 from w99.x _ _ rfl).trans ( (show Xi T11 876 7 = Xi U10 876 7 from w87.x _ _ rfl).trans ((show Xi U10 876 7 = Xi T9 876 7 from by rw [eU10]; exact Xi_ne (by omega))))))))))
                  have w178 : Xi T18 890 2 = Xi U10 890 2 := (show Xi T18 890 2 = Xi T17 890 2 from w171.x _ _ rfl).trans ( (show Xi T17 890 2 = Xi T16 890 2 from w159.x _ _ rfl).trans ( (show Xi T16 890 2 = Xi T15 890 2 from w147.x _ _ rfl).trans ( (show Xi T15 890 2 = Xi T14 890 2 from w135.x _ _ rfl).trans ( (show Xi T14 890 2 = Xi T13 890 2 from w123.x _ _ rfl).trans ( (show Xi T13 890 2 = Xi T12 890 2 from w111.x _ _ rfl).trans ( (show Xi T12 890 2 = Xi T11 890 2 from w99.x _ _ rfl).trans ((show Xi T11 890 2 = Xi U10 890 2 from w87.x _ _ rfl))))))))
                  have w179 : Xi T18 890 3 = Xi T9 890 3 := (show Xi T18 890 3 = Xi T17 890 3 from w171.x _ _ rfl).trans ( (show Xi T17 890 3 = Xi T16 890 3 from w159.x _ _ rfl).trans ( (show Xi T16 890 3 = Xi T15 890 3 from w147.x _ _ rfl).trans ( (show Xi T15 890 3 = Xi T14 890 3 from w135.x _ _ rfl).trans ( (show Xi T14 890 3 = Xi T13 890 3 from w123.x _ _ rfl).trans ( (show Xi T13 890 3 = Xi T12 890 3 from w111.x _ _ rfl).trans ( (show Xi T12 890 3 = Xi T11 890 3 from w99.x _ _ rfl).trans ( (show Xi T11 890 3 = Xi U10 890 3 from w87.x _ _ rfl).trans ((show Xi U10 890 3 = Xi T9 890 3 from by rw [eU10]; exact Xi_ne (by omega))))))))))
                  exact ⟨hHT18, hFT18, _, rfl, ⟨by omega, by omega⟩, (by  first | (have t := k80; exact (chk_0 k80).trans (pe rfl (by omega))) | (have t := k87; rw [chk_1 k87]; simp only [gS_1, gS_0, o_1, o_0, i10, i00, n10, n00, if_true, if_false, gp140, gp147, gp154, gp162, gp169, gp178, gp185, gp194]) | (have t := k132; rw [chk_2 k132]; simp only [gS_1, gS_0, o_1, o_0, i10, i00, n10, n00, if_true, if_false, gp140, gp147, gp154, gp162, gp169, gp178, gp185, gp194]) | (have t := k278; rw [chk_o k278.o]; exact gp279) | (rw [chk_r t283.o, A283]; unfold rul7; (first | rw [show v1 = 0 by omega] | rw [show v1 = 1 by omega]); simp only [gS_1, gS_0, o_1, o_0, i10, i00, n10, n00, if_true, if_false, gp140, gp147, gp154, gp162, gp169, gp178, gp185, gp194])), (by omega), (by first | (have t := k80; exact (fun _ => cks_i (by omega))) | (have t := k87; exact (fun _ => cks_i (by omega))) | (have t := k132; exact (fun _ => cks_i (by omega))) | (have t := k278; exact (fun q => cks_o k278.o (s279.o q))) | exact (fun _ => cks_r (by omega) s283.o))⟩
set_option maxRecDepth 100000 in
theorem c283_gr_check__p {S : sS} (hH : RI S) (hfr : NFR S) (hr : Xi S 876 7 ≤ 5130) (hls : LST S) (h1 : 1 ≤ Xi S 876 7) (d : Nat) (fu : Nat) : ∀  (T19 : sS) (_ : RI T19) (_ : FR md_gr_check__p S T19) (v1 : Int), (0 ≤ v1 ∧ v1 ≤ 1) → (Hid (ty7 S 0 = 38 ∨ ty7 S 0 = 39 ∨ ty7 S 0 = 40 ∨ ty7 S 0 = 41)) → (0 ≤ Xi T19 890 1 ∧ Xi T19 890 1 ≤ Xi S 876 7) → (rux7 (ty7 S) = (v1, Xi T19 890 1)) → (Hid ((ty7 S 0 = 38 ∧ Xi T19 890 2 = 3) ∨ (ty7 S 0 = 40 ∧ Xi T19 890 2 = 4) ∨ (ty7 S 0 = 39 ∧ Xi T19 890 2 = 5) ∨ (ty7 S 0 = 41 ∧ Xi T19 890 2 = 6))) → Pl fu lay0 (d + 6) m_gr_check 283 [(0, .ref 890), (1, iv v1)] [] T19 (Q_gr_check__p S) := by
  have hF : FR md_gr_check__p S S := FR.rf
  have w1 : -2147483648 ≤ Xi S 876 7 ∧ Xi S 876 7 ≤ 2147483647 := Xi_rgI
  have w2 : -2147483648 ≤ Xi S 890 1 ∧ Xi S 890 1 ≤ 2147483647 := Xi_rgI
  have w3 : -2147483648 ≤ Xi S 890 2 ∧ Xi S 890 2 ≤ 2147483647 := Xi_rgI
  have w4 : -2147483648 ≤ Xi S 890 3 ∧ Xi S 890 3 ≤ 2147483647 := Xi_rgI
  intro T19 hHT19 hFT19 v1 w180 t283 w181 A283 s283
  have w182 : Xi T19 876 7 = Xi S 876 7 := hFT19.x _ _ rfl
  have w183 : -2147483648 ≤ Xi T19 876 7 ∧ Xi T19 876 7 ≤ 2147483647 := Xi_rgI
  have w184 : -2147483648 ≤ Xi T19 890 1 ∧ Xi T19 890 1 ≤ 2147483647 := Xi_rgI
  have w185 : -2147483648 ≤ Xi T19 890 2 ∧ Xi T19 890 2 ≤ 2147483647 := Xi_rgI
  have w186 : -2147483648 ≤ Xi T19 890 3 ∧ Xi T19 890 3 ≤ 2147483647 := Xi_rgI
  refine y_iload_n rfl rfl ?_
  refine y_if_eq rfl rfl (by unfold rg; omega) (fun w187 => ?_) (fun w188 => ?_)
  · refine y_iconst rfl ?_
    refine y_ireturn rfl rfl ?_
    exact ⟨hHT19, hFT19, _, rfl, ⟨by omega, by omega⟩, (by  first | (have t := k80; exact (chk_0 k80).trans (pe rfl (by omega))) | (have t := k87; rw [chk_1 k87]; simp only [gS_1, gS_0, o_1, o_0, i10, i00, n10, n00, if_true, if_false]) | (have t := k132; rw [chk_2 k132]; simp only [gS_1, gS_0, o_1, o_0, i10, i00, n10, n00, if_true, if_false]) | (have t := k278; rw [chk_o k278.o]; exact gp279) | (rw [chk_r t283.o, A283]; unfold rul7; (first | rw [show v1 = 0 by omega] | rw [show v1 = 1 by omega]); simp only [gS_1, gS_0, o_1, o_0, i10, i00, n10, n00, if_true, if_false])), (by omega), (by first | (have t := k80; exact (fun _ => cks_i (by omega))) | (have t := k87; exact (fun _ => cks_i (by omega))) | (have t := k132; exact (fun _ => cks_i (by omega))) | (have t := k278; exact (fun q => cks_o k278.o (s279.o q))) | exact (fun _ => cks_r (by omega) s283.o))⟩
  · refine y_aload_n rfl rfl ?_
    refine y_bipush rfl rfl ?_
    refine y_callV rfl rfl rfl (t_gr_take__p hHT19 37 ⟨by omega, by omega⟩ (by first | assumption | exact (NFR_FR hFT19 rfl rfl (by assumption : NFR S))) (by first | assumption | omega) (by first | assumption | omega) _) ?_
    rintro _ T20 ⟨hHT20, w192, z191, rfl, w191, w189, w190⟩
    have hFT20 : FR md_gr_check__p S T20 := FR.tr hFT19 w192 rfl
    show Pl _ _ _ _ _ _ [iv z191] _ _
    have gp290 := w189
    rw [FRT hFT19 rfl rfl] at gp290
    clear w189
    refine y_if_eq rfl rfl (by unfold rg; omega) (fun w193 => ?_) (fun w194 => ?_)
    · rw [show z191 = 0 by omega] at gp290
      refine y_aload_n rfl rfl ?_
      refine y_bipush rfl rfl ?_
      have w195 : Xi T20 876 7 = Xi T19 876 7 := (show Xi T20 876 7 = Xi T19 876 7 from w192.x _ _ rfl)
      refine y_callV rfl rfl rfl (t_gr_take__p hHT20 106 ⟨by omega, by omega⟩ (by first | assumption | exact (NFR_FR hFT20 rfl rfl (by assumption : NFR S))) (by first | assumption | omega) (by first | assumption | omega) _) ?_
      rintro _ T21 ⟨hHT21, w201, z200, rfl, w200, w198, w199⟩
      have hFT21 : FR md_gr_check__p S T21 := FR.tr hFT20 w201 rfl
      show Pl _ _ _ _ _ _ [iv z200] _ _
      have gp306 := w198
      rw [FRT hFT20 rfl rfl] at gp306
      clear w198
      refine y_if_eq rfl rfl (by unfold rg; omega) (fun w202 => ?_) (fun w203 => ?_)
      · rw [show z200 = 0 by omega] at gp306
        refine y_iconst rfl ?_
        refine y_ireturn rfl rfl ?_
        have w204 : Xi T21 876 7 = Xi T19 876 7 := (show Xi T21 876 7 = Xi T20 876 7 from w201.x _ _ rfl).trans ((show Xi T20 876 7 = Xi T19 876 7 from w192.x _ _ rfl))
        have w205 : Xi T21 890 2 = Xi T19 890 2 := (show Xi T21 890 2 = Xi T20 890 2 from w201.x _ _ rfl).trans ((show Xi T20 890 2 = Xi T19 890 2 from w192.x _ _ rfl))
        have w206 : Xi T21 890 3 = Xi T19 890 3 := (show Xi T21 890 3 = Xi T20 890 3 from w201.x _ _ rfl).trans ((show Xi T20 890 3 = Xi T19 890 3 from w192.x _ _ rfl))
        exact ⟨hHT21, hFT21, _, rfl, ⟨by omega, by omega⟩, (by  first | (have t := k80; exact (chk_0 k80).trans (pe rfl (by omega))) | (have t := k87; rw [chk_1 k87]; simp only [gS_1, gS_0, o_1, o_0, i10, i00, n10, n00, if_true, if_false, gp290, gp306]) | (have t := k132; rw [chk_2 k132]; simp only [gS_1, gS_0, o_1, o_0, i10, i00, n10, n00, if_true, if_false, gp290, gp306]) | (have t := k278; rw [chk_o k278.o]; exact gp279) | (rw [chk_r t283.o, A283]; unfold rul7; (first | rw [show v1 = 0 by omega] | rw [show v1 = 1 by omega]); simp only [gS_1, gS_0, o_1, o_0, i10, i00, n10, n00, if_true, if_false, gp290, gp306])), (by omega), (by first | (have t := k80; exact (fun _ => cks_i (by omega))) | (have t := k87; exact (fun _ => cks_i (by omega))) | (have t := k132; exact (fun _ => cks_i (by omega))) | (have t := k278; exact (fun q => cks_o k278.o (s279.o q))) | exact (fun _ => cks_r (by omega) s283.o))⟩
      · rw [show z200 = 1 by omega] at gp306
        refine y_aload_n rfl rfl ?_
        have w207 : Xi T21 876 7 = Xi T19 876 7 := (show Xi T21 876 7 = Xi T20 876 7 from w201.x _ _ rfl).trans ((show Xi T20 876 7 = Xi T19 876 7 from w192.x _ _ rfl))
        refine y_callV rfl rfl rfl (t_gr_takePhrases__p hHT21 (by first | assumption | exact (NFR_FR hFT21 rfl rfl (by assumption : NFR S))) (by first | assumption | omega) (by first | assumption | omega) _) ?_
        rintro _ T22 ⟨hHT22, w213, z212, rfl, w212, w210, w211⟩
        have hFT22 : FR md_gr_check__p S T22 := FR.tr hFT21 w213 rfl
        show Pl _ _ _ _ _ _ [iv z212] _ _
        have gp313 := w210
        rw [FRT hFT21 rfl rfl] at gp313
        clear w210
        refine y_if_eq rfl rfl (by unfold rg; omega) (fun w214 => ?_) (fun w215 => ?_)
        · rw [show z212 = 0 by omega] at gp313
          refine y_iconst rfl ?_
          refine y_ireturn rfl rfl ?_
          have w216 : Xi T22 876 7 = Xi T19 876 7 := (show Xi T22 876 7 = Xi T21 876 7 from w213.x _ _ rfl).trans ( (show Xi T21 876 7 = Xi T20 876 7 from w201.x _ _ rfl).trans ((show Xi T20 876 7 = Xi T19 876 7 from w192.x _ _ rfl)))
          have w217 : Xi T22 890 2 = Xi T19 890 2 := (show Xi T22 890 2 = Xi T21 890 2 from w213.x _ _ rfl).trans ( (show Xi T21 890 2 = Xi T20 890 2 from w201.x _ _ rfl).trans ((show Xi T20 890 2 = Xi T19 890 2 from w192.x _ _ rfl)))
          have w218 : Xi T22 890 3 = Xi T19 890 3 := (show Xi T22 890 3 = Xi T21 890 3 from w213.x _ _ rfl).trans ( (show Xi T21 890 3 = Xi T20 890 3 from w201.x _ _ rfl).trans ((show Xi T20 890 3 = Xi T19 890 3 from w192.x _ _ rfl)))
          exact ⟨hHT22, hFT22, _, rfl, ⟨by omega, by omega⟩, (by  first | (have t := k80; exact (chk_0 k80).trans (pe rfl (by omega))) | (have t := k87; rw [chk_1 k87]; simp only [gS_1, gS_0, o_1, o_0, i10, i00, n10, n00, if_true, if_false, gp290, gp306, gp313]) | (have t := k132; rw [chk_2 k132]; simp only [gS_1, gS_0, o_1, o_0, i10, i00, n10, n00, if_true, if_false, gp290, gp306, gp313]) | (have t := k278; rw [chk_o k278.o]; exact gp279) | (rw [chk_r t283.o, A283]; unfold rul7; (first | rw [show v1 = 0 by omega] | rw [show v1 = 1 by omega]); simp only [gS_1, gS_0, o_1, o_0, i10, i00, n10, n00, if_true, if_false, gp290, gp306, gp313])), (by omega), (by first | (have t := k80; exact (fun _ => cks_i (by omega))) | (have t := k87; exact (fun _ => cks_i (by omega))) | (have t := k132; exact (fun _ => cks_i (by omega))) | (have t := k278; exact (fun q => cks_o k278.o (s279.o q))) | exact (fun _ => cks_r (by omega) s283.o))⟩
        · rw [show z212 = 1 by omega] at gp313
          refine y_aload_n rfl rfl ?_
          refine y_bipush rfl rfl ?_
          have w219 : Xi T22 876 7 = Xi T19 876 7 := (show Xi T22 876 7 = Xi T21 876 7 from w213.x _ _ rfl).trans ( (show Xi T21 876 7 = Xi T20 876 7 from w201.x _ _ rfl).trans ((show Xi T20 876 7 = Xi T19 876 7 from w192.x _ _ rfl)))
          refine y_callV rfl rfl rfl (t_gr_take__p hHT22 103 ⟨by omega, by omega⟩ (by first | assumption | exact (NFR_FR hFT22 rfl rfl (by assumption : NFR S))) (by first | assumption | omega) (by first | assumption | omega) _) ?_
          rintro _ T23 ⟨hHT23, w225, z224, rfl, w224, w222, w223⟩
          have hFT23 : FR md_gr_check__p S T23 := FR.tr hFT22 w225 rfl
          show Pl _ _ _ _ _ _ [iv z224] _ _
          have gp322 := w222
          rw [FRT hFT22 rfl rfl] at gp322
          clear w222
          refine y_if_eq rfl rfl (by unfold rg; omega) (fun w226 => ?_) (fun w227 => ?_)
          · rw [show z224 = 0 by omega] at gp322
            refine y_iconst rfl ?_
            refine y_ireturn rfl rfl ?_
            have w228 : Xi T23 876 7 = Xi T19 876 7 := (show Xi T23 876 7 = Xi T22 876 7 from w225.x _ _ rfl).trans ( (show Xi T22 876 7 = Xi T21 876 7 from w213.x _ _ rfl).trans ( (show Xi T21 876 7 = Xi T20 876 7 from w201.x _ _ rfl).trans ((show Xi T20 876 7 = Xi T19 876 7 from w192.x _ _ rfl))))
            have w229 : Xi T23 890 2 = Xi T19 890 2 := (show Xi T23 890 2 = Xi T22 890 2 from w225.x _ _ rfl).trans ( (show Xi T22 890 2 = Xi T21 890 2 from w213.x _ _ rfl).trans ( (show Xi T21 890 2 = Xi T20 890 2 from w201.x _ _ rfl).trans ((show Xi T20 890 2 = Xi T19 890 2 from w192.x _ _ rfl))))
            have w230 : Xi T23 890 3 = Xi T19 890 3 := (show Xi T23 890 3 = Xi T22 890 3 from w225.x _ _ rfl).trans ( (show Xi T22 890 3 = Xi T21 890 3 from w213.x _ _ rfl).trans ( (show Xi T21 890 3 = Xi T20 890 3 from w201.x _ _ rfl).trans ((show Xi T20 890 3 = Xi T19 890 3 from w192.x _ _ rfl))))
            exact ⟨hHT23, hFT23, _, rfl, ⟨by omega, by omega⟩, (by  first | (have t := k80; exact (chk_0 k80).trans (pe rfl (by omega))) | (have t := k87; rw [chk_1 k87]; simp only [gS_1, gS_0, o_1, o_0, i10, i00, n10, n00, if_true, if_false, gp290, gp306, gp313, gp322]) | (have t := k132; rw [chk_2 k132]; simp only [gS_1, gS_0, o_1, o_0, i10, i00, n10, n00, if_true, if_false, gp290, gp306, gp313, gp322]) | (have t := k278; rw [chk_o k278.o]; exact gp279) | (rw [chk_r t283.o, A283]; unfold rul7; (first | rw [show v1 = 0 by omega] | rw [show v1 = 1 by omega]); simp only [gS_1, gS_0, o_1, o_0, i10, i00, n10, n00, if_true, if_false, gp290, gp306, gp313, gp322])), (by omega), (by first | (have t := k80; exact (fun _ => cks_i (by omega))) | (have t := k87; exact (fun _ => cks_i (by omega))) | (have t := k132; exact (fun _ => cks_i (by omega))) | (have t := k278; exact (fun q => cks_o k278.o (s279.o q))) | exact (fun _ => cks_r (by omega) s283.o))⟩
          · rw [show z224 = 1 by omega] at gp322
            refine y_iconst rfl ?_
            refine y_goto rfl rfl ?_
            refine y_ireturn rfl rfl ?_
            have w231 : Xi T23 876 7 = Xi T19 876 7 := (show Xi T23 876 7 = Xi T22 876 7 from w225.x _ _ rfl).trans ( (show Xi T22 876 7 = Xi T21 876 7 from w213.x _ _ rfl).trans ( (show Xi T21 876 7 = Xi T20 876 7 from w201.x _ _ rfl).trans ((show Xi T20 876 7 = Xi T19 876 7 from w192.x _ _ rfl))))
            have w232 : Xi T23 890 2 = Xi T19 890 2 := (show Xi T23 890 2 = Xi T22 890 2 from w225.x _ _ rfl).trans ( (show Xi T22 890 2 = Xi T21 890 2 from w213.x _ _ rfl).trans ( (show Xi T21 890 2 = Xi T20 890 2 from w201.x _ _ rfl).trans ((show Xi T20 890 2 = Xi T19 890 2 from w192.x _ _ rfl))))
            have w233 : Xi T23 890 3 = Xi T19 890 3 := (show Xi T23 890 3 = Xi T22 890 3 from w225.x _ _ rfl).trans ( (show Xi T22 890 3 = Xi T21 890 3 from w213.x _ _ rfl).trans ( (show Xi T21 890 3 = Xi T20 890 3 from w201.x _ _ rfl).trans ((show Xi T20 890 3 = Xi T19 890 3 from w192.x _ _ rfl))))
            exact ⟨hHT23, hFT23, _, rfl, ⟨by omega, by omega⟩, (by  first | (have t := k80; exact (chk_0 k80).trans (pe rfl (by omega))) | (have t := k87; rw [chk_1 k87]; simp only [gS_1, gS_0, o_1, o_0, i10, i00, n10, n00, if_true, if_false, gp290, gp306, gp313, gp322]) | (have t := k132; rw [chk_2 k132]; simp only [gS_1, gS_0, o_1, o_0, i10, i00, n10, n00, if_true, if_false, gp290, gp306, gp313, gp322]) | (have t := k278; rw [chk_o k278.o]; exact gp279) | (rw [chk_r t283.o, A283]; unfold rul7; (first | rw [show v1 = 0 by omega] | rw [show v1 = 1 by omega]); simp only [gS_1, gS_0, o_1, o_0, i10, i00, n10, n00, if_true, if_false, gp290, gp306, gp313, gp322])), (by omega), (by first | (have t := k80; exact (fun _ => cks_i (by omega))) | (have t := k87; exact (fun _ => cks_i (by omega))) | (have t := k132; exact (fun _ => cks_i (by omega))) | (have t := k278; exact (fun q => cks_o k278.o (s279.o q))) | exact (fun _ => cks_r (by omega) s283.o))⟩
    · rw [show z191 = 1 by omega] at gp290
      refine y_aload_n rfl rfl ?_
      have w234 : Xi T20 876 7 = Xi T19 876 7 := (show Xi T20 876 7 = Xi T19 876 7 from w192.x _ _ rfl)
      refine y_callV rfl rfl rfl (t_gr_takeTests__p hHT20 (by first | assumption | exact (NFR_FR hFT20 rfl rfl (by assumption : NFR S))) (by first | assumption | omega) (by first | assumption | omega) _) ?_
      rintro _ T24 ⟨hHT24, w240, z239, rfl, w239, w237, w238⟩
      have hFT24 : FR md_gr_check__p S T24 := FR.tr hFT20 w240 rfl
      show Pl _ _ _ _ _ _ [iv z239] _ _
      have gp297 := w237
      rw [FRT hFT20 rfl rfl] at gp297
      clear w237
      refine y_if_eq rfl rfl (by unfold rg; omega) (fun w241 => ?_) (fun w242 => ?_)
      · rw [show z239 = 0 by omega] at gp297
        refine y_iconst rfl ?_
        refine y_ireturn rfl rfl ?_
        have w243 : Xi T24 876 7 = Xi T19 876 7 := (show Xi T24 876 7 = Xi T20 876 7 from w240.x _ _ rfl).trans ((show Xi T20 876 7 = Xi T19 876 7 from w192.x _ _ rfl))
        have w244 : Xi T24 890 2 = Xi T19 890 2 := (show Xi T24 890 2 = Xi T20 890 2 from w240.x _ _ rfl).trans ((show Xi T20 890 2 = Xi T19 890 2 from w192.x _ _ rfl))
        have w245 : Xi T24 890 3 = Xi T19 890 3 := (show Xi T24 890 3 = Xi T20 890 3 from w240.x _ _ rfl).trans ((show Xi T20 890 3 = Xi T19 890 3 from w192.x _ _ rfl))
        exact ⟨hHT24, hFT24, _, rfl, ⟨by omega, by omega⟩, (by  first | (have t := k80; exact (chk_0 k80).trans (pe rfl (by omega))) | (have t := k87; rw [chk_1 k87]; simp only [gS_1, gS_0, o_1, o_0, i10, i00, n10, n00, if_true, if_false, gp290, gp297]) | (have t := k132; rw [chk_2 k132]; simp only [gS_1, gS_0, o_1, o_0, i10, i00, n10, n00, if_true, if_false, gp290, gp297]) | (have t := k278; rw [chk_o k278.o]; exact gp279) | (rw [chk_r t283.o, A283]; unfold rul7; (first | rw [show v1 = 0 by omega] | rw [show v1 = 1 by omega]); simp only [gS_1, gS_0, o_1, o_0, i10, i00, n10, n00, if_true, if_false, gp290, gp297])), (by omega), (by first | (have t := k80; exact (fun _ => cks_i (by omega))) | (have t := k87; exact (fun _ => cks_i (by omega))) | (have t := k132; exact (fun _ => cks_i (by omega))) | (have t := k278; exact (fun q => cks_o k278.o (s279.o q))) | exact (fun _ => cks_r (by omega) s283.o))⟩
      · rw [show z239 = 1 by omega] at gp297
        refine y_aload_n rfl rfl ?_
        refine y_bipush rfl rfl ?_
        have w246 : Xi T24 876 7 = Xi T19 876 7 := (show Xi T24 876 7 = Xi T20 876 7 from w240.x _ _ rfl).trans ((show Xi T20 876 7 = Xi T19 876 7 from w192.x _ _ rfl))
        refine y_callV rfl rfl rfl (t_gr_take__p hHT24 106 ⟨by omega, by omega⟩ (by first | assumption | exact (NFR_FR hFT24 rfl rfl (by assumption : NFR S))) (by first | assumption | omega) (by first | assumption | omega) _) ?_
        rintro _ T25 ⟨hHT25, w252, z251, rfl, w251, w249, w250⟩
        have hFT25 : FR md_gr_check__p S T25 := FR.tr hFT24 w252 rfl
        show Pl _ _ _ _ _ _ [iv z251] _ _
        have gp306 := w249
        rw [FRT hFT24 rfl rfl] at gp306
        clear w249
        refine y_if_eq rfl rfl (by unfold rg; omega) (fun w253 => ?_) (fun w254 => ?_)
        · rw [show z251 = 0 by omega] at gp306
          refine y_iconst rfl ?_
          refine y_ireturn rfl rfl ?_
          have w255 : Xi T25 876 7 = Xi T19 876 7 := (show Xi T25 876 7 = Xi T24 876 7 from w252.x _ _ rfl).trans ( (show Xi T24 876 7 = Xi T20 876 7 from w240.x _ _ rfl).trans ((show Xi T20 876 7 = Xi T19 876 7 from w192.x _ _ rfl)))
          have w256 : Xi T25 890 2 = Xi T19 890 2 := (show Xi T25 890 2 = Xi T24 890 2 from w252.x _ _ rfl).trans ( (show Xi T24 890 2 = Xi T20 890 2 from w240.x _ _ rfl).trans ((show Xi T20 890 2 = Xi T19 890 2 from w192.x _ _ rfl)))
          have w257 : Xi T25 890 3 = Xi T19 890 3 := (show Xi T25 890 3 = Xi T24 890 3 from w252.x _ _ rfl).trans ( (show Xi T24 890 3 = Xi T20 890 3 from w240.x _ _ rfl).trans ((show Xi T20 890 3 = Xi T19 890 3 from w192.x _ _ rfl)))
          exact ⟨hHT25, hFT25, _, rfl, ⟨by omega, by omega⟩, (by  first | (have t := k80; exact (chk_0 k80).trans (pe rfl (by omega))) | (have t := k87; rw [chk_1 k87]; simp only [gS_1, gS_0, o_1, o_0, i10, i00, n10, n00, if_true, if_false, gp290, gp297, gp306]) | (have t := k132; rw [chk_2 k132]; simp only [gS_1, gS_0, o_1, o_0, i10, i00, n10, n00, if_true, if_false, gp290, gp297, gp306]) | (have t := k278; rw [chk_o k278.o]; exact gp279) | (rw [chk_r t283.o, A283]; unfold rul7; (first | rw [show v1 = 0 by omega] | rw [show v1 = 1 by omega]); simp only [gS_1, gS_0, o_1, o_0, i10, i00, n10, n00, if_true, if_false, gp290, gp297, gp306])), (by omega), (by first | (have t := k80; exact (fun _ => cks_i (by omega))) | (have t := k87; exact (fun _ => cks_i (by omega))) | (have t := k132; exact (fun _ => cks_i (by omega))) | (have t := k278; exact (fun q => cks_o k278.o (s279.o q))) | exact (fun _ => cks_r (by omega) s283.o))⟩
        · rw [show z251 = 1 by omega] at gp306
          refine y_aload_n rfl rfl ?_
          have w258 : Xi T25 876 7 = Xi T19 876 7 := (show Xi T25 876 7 = Xi T24 876 7 from w252.x _ _ rfl).trans ( (show Xi T24 876 7 = Xi T20 876 7 from w240.x _ _ rfl).trans ((show Xi T20 876 7 = Xi T19 876 7 from w192.x _ _ rfl)))
          refine y_callV rfl rfl rfl (t_gr_takePhrases__p hHT25 (by first | assumption | exact (NFR_FR hFT25 rfl rfl (by assumption : NFR S))) (by first | assumption | omega) (by first | assumption | omega) _) ?_
          rintro _ T26 ⟨hHT26, w264, z263, rfl, w263, w261, w262⟩
          have hFT26 : FR md_gr_check__p S T26 := FR.tr hFT25 w264 rfl
          show Pl _ _ _ _ _ _ [iv z263] _ _
          have gp313 := w261
          rw [FRT hFT25 rfl rfl] at gp313
          clear w261
          refine y_if_eq rfl rfl (by unfold rg; omega) (fun w265 => ?_) (fun w266 => ?_)
          · rw [show z263 = 0 by omega] at gp313
            refine y_iconst rfl ?_
            refine y_ireturn rfl rfl ?_
            have w267 : Xi T26 876 7 = Xi T19 876 7 := (show Xi T26 876 7 = Xi T25 876 7 from w264.x _ _ rfl).trans ( (show Xi T25 876 7 = Xi T24 876 7 from w252.x _ _ rfl).trans ( (show Xi T24 876 7 = Xi T20 876 7 from w240.x _ _ rfl).trans ((show Xi T20 876 7 = Xi T19 876 7 from w192.x _ _ rfl))))
            have w268 : Xi T26 890 2 = Xi T19 890 2 := (show Xi T26 890 2 = Xi T25 890 2 from w264.x _ _ rfl).trans ( (show Xi T25 890 2 = Xi T24 890 2 from w252.x _ _ rfl).trans ( (show Xi T24 890 2 = Xi T20 890 2 from w240.x _ _ rfl).trans ((show Xi T20 890 2 = Xi T19 890 2 from w192.x _ _ rfl))))
            have w269 : Xi T26 890 3 = Xi T19 890 3 := (show Xi T26 890 3 = Xi T25 890 3 from w264.x _ _ rfl).trans ( (show Xi T25 890 3 = Xi T24 890 3 from w252.x _ _ rfl).trans ( (show Xi T24 890 3 = Xi T20 890 3 from w240.x _ _ rfl).trans ((show Xi T20 890 3 = Xi T19 890 3 from w192.x _ _ rfl))))
            exact ⟨hHT26, hFT26, _, rfl, ⟨by omega, by omega⟩, (by  first | (have t := k80; exact (chk_0 k80).trans (pe rfl (by omega))) | (have t := k87; rw [chk_1 k87]; simp only [gS_1, gS_0, o_1, o_0, i10, i00, n10, n00, if_true, if_false, gp290, gp297, gp306, gp313]) | (have t := k132; rw [chk_2 k132]; simp only [gS_1, gS_0, o_1, o_0, i10, i00, n10, n00, if_true, if_false, gp290, gp297, gp306, gp313]) | (have t := k278; rw [chk_o k278.o]; exact gp279) | (rw [chk_r t283.o, A283]; unfold rul7; (first | rw [show v1 = 0 by omega] | rw [show v1 = 1 by omega]); simp only [gS_1, gS_0, o_1, o_0, i10, i00, n10, n00, if_true, if_false, gp290, gp297, gp306, gp313])), (by omega), (by first | (have t := k80; exact (fun _ => cks_i (by omega))) | (have t := k87; exact (fun _ => cks_i (by omega))) | (have t := k132; exact (fun _ => cks_i (by omega))) | (have t := k278; exact (fun q => cks_o k278.o (s279.o q))) | exact (fun _ => cks_r (by omega) s283.o))⟩
          · rw [show z263 = 1 by omega] at gp313
            refine y_aload_n rfl rfl ?_
            refine y_bipush rfl rfl ?_
            have w270 : Xi T26 876 7 = Xi T19 876 7 := (show Xi T26 876 7 = Xi T25 876 7 from w264.x _ _ rfl).trans ( (show Xi T25 876 7 = Xi T24 876 7 from w252.x _ _ rfl).trans ( (show Xi T24 876 7 = Xi T20 876 7 from w240.x _ _ rfl).trans ((show Xi T20 876 7 = Xi T19 876 7 from w192.x _ _ rfl))))
            refine y_callV rfl rfl rfl (t_gr_take__p hHT26 103 ⟨by omega, by omega⟩ (by first | assumption | exact (NFR_FR hFT26 rfl rfl (by assumption : NFR S))) (by first | assumption | omega) (by first | assumption | omega) _) ?_
            rintro _ T27 ⟨hHT27, w276, z275, rfl, w275, w273, w274⟩
            have hFT27 : FR md_gr_check__p S T27 := FR.tr hFT26 w276 rfl
            show Pl _ _ _ _ _ _ [iv z275] _ _
            have gp322 := w273
            rw [FRT hFT26 rfl rfl] at gp322
            clear w273
            refine y_if_eq rfl rfl (by unfold rg; omega) (fun w277 => ?_) (fun w278 => ?_)
            · rw [show z275 = 0 by omega] at gp322
              refine y_iconst rfl ?_
              refine y_ireturn rfl rfl ?_
              have w279 : Xi T27 876 7 = Xi T19 876 7 := (show Xi T27 876 7 = Xi T26 876 7 from w276.x _ _ rfl).trans ( (show Xi T26 876 7 = Xi T25 876 7 from w264.x _ _ rfl).trans ( (show Xi T25 876 7 = Xi T24 876 7 from w252.x _ _ rfl).trans ( (show Xi T24 876 7 = Xi T20 876 7 from w240.x _ _ rfl).trans ((show Xi T20 876 7 = Xi T19 876 7 from w192.x _ _ rfl)))))
              have w280 : Xi T27 890 2 = Xi T19 890 2 := (show Xi T27 890 2 = Xi T26 890 2 from w276.x _ _ rfl).trans ( (show Xi T26 890 2 = Xi T25 890 2 from w264.x _ _ rfl).trans ( (show Xi T25 890 2 = Xi T24 890 2 from w252.x _ _ rfl).trans ( (show Xi T24 890 2 = Xi T20 890 2 from w240.x _ _ rfl).trans ((show Xi T20 890 2 = Xi T19 890 2 from w192.x _ _ rfl)))))
              have w281 : Xi T27 890 3 = Xi T19 890 3 := (show Xi T27 890 3 = Xi T26 890 3 from w276.x _ _ rfl).trans ( (show Xi T26 890 3 = Xi T25 890 3 from w264.x _ _ rfl).trans ( (show Xi T25 890 3 = Xi T24 890 3 from w252.x _ _ rfl).trans ( (show Xi T24 890 3 = Xi T20 890 3 from w240.x _ _ rfl).trans ((show Xi T20 890 3 = Xi T19 890 3 from w192.x _ _ rfl)))))
              exact ⟨hHT27, hFT27, _, rfl, ⟨by omega, by omega⟩, (by  first | (have t := k80; exact (chk_0 k80).trans (pe rfl (by omega))) | (have t := k87; rw [chk_1 k87]; simp only [gS_1, gS_0, o_1, o_0, i10, i00, n10, n00, if_true, if_false, gp290, gp297, gp306, gp313, gp322]) | (have t := k132; rw [chk_2 k132]; simp only [gS_1, gS_0, o_1, o_0, i10, i00, n10, n00, if_true, if_false, gp290, gp297, gp306, gp313, gp322]) | (have t := k278; rw [chk_o k278.o]; exact gp279) | (rw [chk_r t283.o, A283]; unfold rul7; (first | rw [show v1 = 0 by omega] | rw [show v1 = 1 by omega]); simp only [gS_1, gS_0, o_1, o_0, i10, i00, n10, n00, if_true, if_false, gp290, gp297, gp306, gp313, gp322])), (by omega), (by first | (have t := k80; exact (fun _ => cks_i (by omega))) | (have t := k87; exact (fun _ => cks_i (by omega))) | (have t := k132; exact (fun _ => cks_i (by omega))) | (have t := k278; exact (fun q => cks_o k278.o (s279.o q))) | exact (fun _ => cks_r (by omega) s283.o))⟩
            · rw [show z275 = 1 by omega] at gp322
              refine y_iconst rfl ?_
              refine y_goto rfl rfl ?_
              refine y_ireturn rfl rfl ?_
              have w282 : Xi T27 876 7 = Xi T19 876 7 := (show Xi T27 876 7 = Xi T26 876 7 from w276.x _ _ rfl).trans ( (show Xi T26 876 7 = Xi T25 876 7 from w264.x _ _ rfl).trans ( (show Xi T25 876 7 = Xi T24 876 7 from w252.x _ _ rfl).trans ( (show Xi T24 876 7 = Xi T20 876 7 from w240.x _ _ rfl).trans ((show Xi T20 876 7 = Xi T19 876 7 from w192.x _ _ rfl)))))
              have w283 : Xi T27 890 2 = Xi T19 890 2 := (show Xi T27 890 2 = Xi T26 890 2 from w276.x _ _ rfl).trans ( (show Xi T26 890 2 = Xi T25 890 2 from w264.x _ _ rfl).trans ( (show Xi T25 890 2 = Xi T24 890 2 from w252.x _ _ rfl).trans ( (show Xi T24 890 2 = Xi T20 890 2 from w240.x _ _ rfl).trans ((show Xi T20 890 2 = Xi T19 890 2 from w192.x _ _ rfl)))))
              have w284 : Xi T27 890 3 = Xi T19 890 3 := (show Xi T27 890 3 = Xi T26 890 3 from w276.x _ _ rfl).trans ( (show Xi T26 890 3 = Xi T25 890 3 from w264.x _ _ rfl).trans ( (show Xi T25 890 3 = Xi T24 890 3 from w252.x _ _ rfl).trans ( (show Xi T24 890 3 = Xi T20 890 3 from w240.x _ _ rfl).trans ((show Xi T20 890 3 = Xi T19 890 3 from w192.x _ _ rfl)))))
              exact ⟨hHT27, hFT27, _, rfl, ⟨by omega, by omega⟩, (by  first | (have t := k80; exact (chk_0 k80).trans (pe rfl (by omega))) | (have t := k87; rw [chk_1 k87]; simp only [gS_1, gS_0, o_1, o_0, i10, i00, n10, n00, if_true, if_false, gp290, gp297, gp306, gp313, gp322]) | (have t := k132; rw [chk_2 k132]; simp only [gS_1, gS_0, o_1, o_0, i10, i00, n10, n00, if_true, if_false, gp290, gp297, gp306, gp313, gp322]) | (have t := k278; rw [chk_o k278.o]; exact gp279) | (rw [chk_r t283.o, A283]; unfold rul7; (first | rw [show v1 = 0 by omega] | rw [show v1 = 1 by omega]); simp only [gS_1, gS_0, o_1, o_0, i10, i00, n10, n00, if_true, if_false, gp290, gp297, gp306, gp313, gp322])), (by omega), (by first | (have t := k80; exact (fun _ => cks_i (by omega))) | (have t := k87; exact (fun _ => cks_i (by omega))) | (have t := k132; exact (fun _ => cks_i (by omega))) | (have t := k278; exact (fun q => cks_o k278.o (s279.o q))) | exact (fun _ => cks_r (by omega) s283.o))⟩
set_option maxRecDepth 100000 in
theorem c206_gr_check__p {S : sS} (hH : RI S) (hfr : NFR S) (hr : Xi S 876 7 ≤ 5130) (hls : LST S) (h1 : 1 ≤ Xi S 876 7) (d : Nat) (fu : Nat) : ∀  (T28 : sS) (_ : RI T28) (_ : FR md_gr_check__p S T28), (Xi T28 890 1 = 1) → (ty7 S 0 = 38) → Pl fu lay0 (d + 6) m_gr_check 206 [(0, .ref 890)] [] T28 (Q_gr_check__p S) := by
  have C283 := c283_gr_check__p hH hfr hr hls h1 d  fu
  have hF : FR md_gr_check__p S S := FR.rf
  have w1 : -2147483648 ≤ Xi S 876 7 ∧ Xi S 876 7 ≤ 2147483647 := Xi_rgI
  have w2 : -2147483648 ≤ Xi S 890 1 ∧ Xi S 890 1 ≤ 2147483647 := Xi_rgI
  have w3 : -2147483648 ≤ Xi S 890 2 ∧ Xi S 890 2 ≤ 2147483647 := Xi_rgI
  have w4 : -2147483648 ≤ Xi S 890 3 ∧ Xi S 890 3 ≤ 2147483647 := Xi_rgI
  intro T28 hHT28 hFT28 w285 k206
  have w286 : Xi T28 876 7 = Xi S 876 7 := hFT28.x _ _ rfl
  have w287 : -2147483648 ≤ Xi T28 876 7 ∧ Xi T28 876 7 ≤ 2147483647 := Xi_rgI
  have w288 : -2147483648 ≤ Xi T28 890 1 ∧ Xi T28 890 1 ≤ 2147483647 := Xi_rgI
  have w289 : -2147483648 ≤ Xi T28 890 2 ∧ Xi T28 890 2 ≤ 2147483647 := Xi_rgI
  have w290 : -2147483648 ≤ Xi T28 890 3 ∧ Xi T28 890 3 ≤ 2147483647 := Xi_rgI
  refine y_aload_n rfl rfl ?_
  refine y_iconst rfl ?_
  refine y_pfi rfl rfl rfl rfl ?_
  obtain ⟨U29, eU29⟩ : ∃ T : sS, T = uI T28 890 2 (Int32.ofInt 3) := ⟨_, rfl⟩
  rw [← eU29]
  have hHU29 : RI U29 := by rw [eU29]; exact RI_w hHT28
  have hFU29 : FR md_gr_check__p S U29 := by rw [eU29]; exact FR.wI hFT28 (mdf_i (r := (890, 891, 2, 3)) (List.mem_of_getElem? (i := 1) rfl) (inR_i (by omega) (by omega) (by omega) (by omega)))
  have w291 : Xi U29 890 2 = 3 := by rw [eU29]; exact Xi_same (by unfold rg; omega)
  refine y_aload_n rfl rfl ?_
  have w292 : Xi U29 876 7 = Xi T28 876 7 := (show Xi U29 876 7 = Xi T28 876 7 from by rw [eU29]; exact Xi_ne (by omega))
  have w293 : Xi U29 890 1 = Xi T28 890 1 := (show Xi U29 890 1 = Xi T28 890 1 from by rw [eU29]; exact Xi_ne (by omega))
  refine y_callV rfl rfl rfl (t_gr_takeActing__p hHU29 (by first | assumption | exact (NFR_FR hFU29 rfl rfl (by assumption : NFR S))) (by first | assumption | omega) (by first | assumption | omega) _) ?_
  rintro _ T30 ⟨hHT30, w298, z297, rfl, w297, w295, w296⟩
  have hFT30 : FR md_gr_check__p S T30 := FR.tr hFU29 w298 rfl
  show Pl _ _ _ _ _ _ [iv z297] _ _
  have gp212 := w295
  rw [FRT hFU29 rfl rfl] at gp212
  try rw [show Xi U29 890 1 = Xi T28 890 1 by omega] at gp212
  clear w295
  rw [show Xi T28 890 1 = 1 by omega] at gp212
  refine y_istore_n rfl rfl rfl ?_
  refine y_goto rfl rfl ?_
  have w299 : Xi T30 876 7 = Xi T28 876 7 := (show Xi T30 876 7 = Xi U29 876 7 from w298.x _ _ rfl).trans ((show Xi U29 876 7 = Xi T28 876 7 from by rw [eU29]; exact Xi_ne (by omega)))
  have w300 : Xi T30 890 2 = Xi U29 890 2 := (show Xi T30 890 2 = Xi U29 890 2 from w298.x _ _ rfl)
  have w301 : Xi T30 890 3 = Xi T28 890 3 := (show Xi T30 890 3 = Xi U29 890 3 from w298.x _ _ rfl).trans ((show Xi U29 890 3 = Xi T28 890 3 from by rw [eU29]; exact Xi_ne (by omega)))
  exact Pl_weak (C283 T30 hHT30 hFT30 (z297) (by omega) (by unfold Hid; omega) (by omega) (by (first | rw [show z297 = 1 by omega] at gp212 | rw [show z297 = 0 by omega] at gp212 | skip);  unfold rux7; first | (rw [if_pos (by omega)]; simp only [gS_1, gS_0, o_1, o_0, i10, i00, n10, n00, if_true, if_false, gp212]) | (rw [if_neg (by omega), if_pos (by omega)]; simp only [gS_1, gS_0, o_1, o_0, i10, i00, n10, n00, if_true, if_false, gp212]) | (rw [if_neg (by omega), if_neg (by omega)]; simp only [gS_1, gS_0, o_1, o_0, i10, i00, n10, n00, if_true, if_false, gp212])) (by unfold Hid; omega)) (by omega) (And.intro rfl (And.intro rfl (True.intro)))
set_option maxRecDepth 100000 in
theorem c232_gr_check__p {S : sS} (hH : RI S) (hfr : NFR S) (hr : Xi S 876 7 ≤ 5130) (hls : LST S) (h1 : 1 ≤ Xi S 876 7) (d : Nat) (fu : Nat) : ∀  (T31 : sS) (_ : RI T31) (_ : FR md_gr_check__p S T31), (Xi T31 890 1 = 1) → (ty7 S 0 = 39) → Pl fu lay0 (d + 6) m_gr_check 232 [(0, .ref 890)] [] T31 (Q_gr_check__p S) := by
  have C283 := c283_gr_check__p hH hfr hr hls h1 d  fu
  have hF : FR md_gr_check__p S S := FR.rf
  have w1 : -2147483648 ≤ Xi S 876 7 ∧ Xi S 876 7 ≤ 2147483647 := Xi_rgI
  have w2 : -2147483648 ≤ Xi S 890 1 ∧ Xi S 890 1 ≤ 2147483647 := Xi_rgI
  have w3 : -2147483648 ≤ Xi S 890 2 ∧ Xi S 890 2 ≤ 2147483647 := Xi_rgI
  have w4 : -2147483648 ≤ Xi S 890 3 ∧ Xi S 890 3 ≤ 2147483647 := Xi_rgI
  intro T31 hHT31 hFT31 w302 k232
  have w303 : Xi T31 876 7 = Xi S 876 7 := hFT31.x _ _ rfl
  have w304 : -2147483648 ≤ Xi T31 876 7 ∧ Xi T31 876 7 ≤ 2147483647 := Xi_rgI
  have w305 : -2147483648 ≤ Xi T31 890 1 ∧ Xi T31 890 1 ≤ 2147483647 := Xi_rgI
  have w306 : -2147483648 ≤ Xi T31 890 2 ∧ Xi T31 890 2 ≤ 2147483647 := Xi_rgI
  have w307 : -2147483648 ≤ Xi T31 890 3 ∧ Xi T31 890 3 ≤ 2147483647 := Xi_rgI
  refine y_aload_n rfl rfl ?_
  refine y_iconst rfl ?_
  refine y_pfi rfl rfl rfl rfl ?_
  obtain ⟨U32, eU32⟩ : ∃ T : sS, T = uI T31 890 2 (Int32.ofInt 5) := ⟨_, rfl⟩
  rw [← eU32]
  have hHU32 : RI U32 := by rw [eU32]; exact RI_w hHT31
  have hFU32 : FR md_gr_check__p S U32 := by rw [eU32]; exact FR.wI hFT31 (mdf_i (r := (890, 891, 2, 3)) (List.mem_of_getElem? (i := 1) rfl) (inR_i (by omega) (by omega) (by omega) (by omega)))
  have w308 : Xi U32 890 2 = 5 := by rw [eU32]; exact Xi_same (by unfold rg; omega)
  refine y_aload_n rfl rfl ?_
  refine y_bipush rfl rfl ?_
  have w309 : Xi U32 876 7 = Xi T31 876 7 := (show Xi U32 876 7 = Xi T31 876 7 from by rw [eU32]; exact Xi_ne (by omega))
  have w310 : Xi U32 890 1 = Xi T31 890 1 := (show Xi U32 890 1 = Xi T31 890 1 from by rw [eU32]; exact Xi_ne (by omega))
  refine y_callV rfl rfl rfl (t_gr_take__p hHU32 7 ⟨by omega, by omega⟩ (by first | assumption | exact (NFR_FR hFU32 rfl rfl (by assumption : NFR S))) (by first | assumption | omega) (by first | assumption | omega) _) ?_
  rintro _ T33 ⟨hHT33, w315, z314, rfl, w314, w312, w313⟩
  have hFT33 : FR md_gr_check__p S T33 := FR.tr hFU32 w315 rfl
  show Pl _ _ _ _ _ _ [iv z314] _ _
  have gp240 := w312
  rw [FRT hFU32 rfl rfl] at gp240
  try rw [show Xi U32 890 1 = Xi T31 890 1 by omega] at gp240
  clear w312
  rw [show Xi T31 890 1 = 1 by omega] at gp240
  refine y_if_eq rfl rfl (by unfold rg; omega) (fun w316 => ?_) (fun w317 => ?_)
  · rw [show z314 = 0 by omega] at gp240
    refine y_iconst rfl ?_
    refine y_istore_n rfl rfl rfl ?_
    refine y_goto rfl rfl ?_
    have w318 : Xi T33 876 7 = Xi T31 876 7 := (show Xi T33 876 7 = Xi U32 876 7 from w315.x _ _ rfl).trans ((show Xi U32 876 7 = Xi T31 876 7 from by rw [eU32]; exact Xi_ne (by omega)))
    have w319 : Xi T33 890 2 = Xi U32 890 2 := (show Xi T33 890 2 = Xi U32 890 2 from w315.x _ _ rfl)
    have w320 : Xi T33 890 3 = Xi T31 890 3 := (show Xi T33 890 3 = Xi U32 890 3 from w315.x _ _ rfl).trans ((show Xi U32 890 3 = Xi T31 890 3 from by rw [eU32]; exact Xi_ne (by omega)))
    exact Pl_weak (C283 T33 hHT33 hFT33 (0) (by omega) (by unfold Hid; omega) (by omega) (by  unfold rux7; first | (rw [if_pos (by omega)]; simp only [gS_1, gS_0, o_1, o_0, i10, i00, n10, n00, if_true, if_false, gp240]) | (rw [if_neg (by omega), if_pos (by omega)]; simp only [gS_1, gS_0, o_1, o_0, i10, i00, n10, n00, if_true, if_false, gp240]) | (rw [if_neg (by omega), if_neg (by omega)]; simp only [gS_1, gS_0, o_1, o_0, i10, i00, n10, n00, if_true, if_false, gp240])) (by unfold Hid; omega)) (by omega) (And.intro rfl (And.intro rfl (True.intro)))
  · rw [show z314 = 1 by omega] at gp240
    refine y_aload_n rfl rfl ?_
    have w321 : Xi T33 876 7 = Xi T31 876 7 := (show Xi T33 876 7 = Xi U32 876 7 from w315.x _ _ rfl).trans ((show Xi U32 876 7 = Xi T31 876 7 from by rw [eU32]; exact Xi_ne (by omega)))
    refine y_callV rfl rfl rfl (t_gr_takeActing__p hHT33 (by first | assumption | exact (NFR_FR hFT33 rfl rfl (by assumption : NFR S))) (by first | assumption | omega) (by first | assumption | omega) _) ?_
    rintro _ T34 ⟨hHT34, w327, z326, rfl, w326, w324, w325⟩
    have hFT34 : FR md_gr_check__p S T34 := FR.tr hFT33 w327 rfl
    show Pl _ _ _ _ _ _ [iv z326] _ _
    have gp247 := w324
    rw [FRT hFT33 rfl rfl] at gp247
    clear w324
    refine y_if_eq rfl rfl (by unfold rg; omega) (fun w328 => ?_) (fun w329 => ?_)
    · rw [show z326 = 0 by omega] at gp247
      refine y_iconst rfl ?_
      refine y_istore_n rfl rfl rfl ?_
      refine y_goto rfl rfl ?_
      have w330 : Xi T34 876 7 = Xi T31 876 7 := (show Xi T34 876 7 = Xi T33 876 7 from w327.x _ _ rfl).trans ( (show Xi T33 876 7 = Xi U32 876 7 from w315.x _ _ rfl).trans ((show Xi U32 876 7 = Xi T31 876 7 from by rw [eU32]; exact Xi_ne (by omega))))
      have w331 : Xi T34 890 2 = Xi U32 890 2 := (show Xi T34 890 2 = Xi T33 890 2 from w327.x _ _ rfl).trans ((show Xi T33 890 2 = Xi U32 890 2 from w315.x _ _ rfl))
      have w332 : Xi T34 890 3 = Xi T31 890 3 := (show Xi T34 890 3 = Xi T33 890 3 from w327.x _ _ rfl).trans ( (show Xi T33 890 3 = Xi U32 890 3 from w315.x _ _ rfl).trans ((show Xi U32 890 3 = Xi T31 890 3 from by rw [eU32]; exact Xi_ne (by omega))))
      exact Pl_weak (C283 T34 hHT34 hFT34 (0) (by omega) (by unfold Hid; omega) (by omega) (by  unfold rux7; first | (rw [if_pos (by omega)]; simp only [gS_1, gS_0, o_1, o_0, i10, i00, n10, n00, if_true, if_false, gp240, gp247]) | (rw [if_neg (by omega), if_pos (by omega)]; simp only [gS_1, gS_0, o_1, o_0, i10, i00, n10, n00, if_true, if_false, gp240, gp247]) | (rw [if_neg (by omega), if_neg (by omega)]; simp only [gS_1, gS_0, o_1, o_0, i10, i00, n10, n00, if_true, if_false, gp240, gp247])) (by unfold Hid; omega)) (by omega) (And.intro rfl (And.intro rfl (True.intro)))
    · rw [show z326 = 1 by omega] at gp247
      refine y_iconst rfl ?_
      refine y_goto rfl rfl ?_
      refine y_istore_n rfl rfl rfl ?_
      refine y_goto rfl rfl ?_
      have w333 : Xi T34 876 7 = Xi T31 876 7 := (show Xi T34 876 7 = Xi T33 876 7 from w327.x _ _ rfl).trans ( (show Xi T33 876 7 = Xi U32 876 7 from w315.x _ _ rfl).trans ((show Xi U32 876 7 = Xi T31 876 7 from by rw [eU32]; exact Xi_ne (by omega))))
      have w334 : Xi T34 890 2 = Xi U32 890 2 := (show Xi T34 890 2 = Xi T33 890 2 from w327.x _ _ rfl).trans ((show Xi T33 890 2 = Xi U32 890 2 from w315.x _ _ rfl))
      have w335 : Xi T34 890 3 = Xi T31 890 3 := (show Xi T34 890 3 = Xi T33 890 3 from w327.x _ _ rfl).trans ( (show Xi T33 890 3 = Xi U32 890 3 from w315.x _ _ rfl).trans ((show Xi U32 890 3 = Xi T31 890 3 from by rw [eU32]; exact Xi_ne (by omega))))
      exact Pl_weak (C283 T34 hHT34 hFT34 (1) (by omega) (by unfold Hid; omega) (by omega) (by  unfold rux7; first | (rw [if_pos (by omega)]; simp only [gS_1, gS_0, o_1, o_0, i10, i00, n10, n00, if_true, if_false, gp240, gp247]) | (rw [if_neg (by omega), if_pos (by omega)]; simp only [gS_1, gS_0, o_1, o_0, i10, i00, n10, n00, if_true, if_false, gp240, gp247]) | (rw [if_neg (by omega), if_neg (by omega)]; simp only [gS_1, gS_0, o_1, o_0, i10, i00, n10, n00, if_true, if_false, gp240, gp247])) (by unfold Hid; omega)) (by omega) (And.intro rfl (And.intro rfl (True.intro)))
set_option maxRecDepth 100000 in
theorem c219_gr_check__p {S : sS} (hH : RI S) (hfr : NFR S) (hr : Xi S 876 7 ≤ 5130) (hls : LST S) (h1 : 1 ≤ Xi S 876 7) (d : Nat) (fu : Nat) : ∀  (T35 : sS) (_ : RI T35) (_ : FR md_gr_check__p S T35), (Xi T35 890 1 = 1) → (ty7 S 0 = 40) → Pl fu lay0 (d + 6) m_gr_check 219 [(0, .ref 890)] [] T35 (Q_gr_check__p S) := by
  have C283 := c283_gr_check__p hH hfr hr hls h1 d  fu
  have hF : FR md_gr_check__p S S := FR.rf
  have w1 : -2147483648 ≤ Xi S 876 7 ∧ Xi S 876 7 ≤ 2147483647 := Xi_rgI
  have w2 : -2147483648 ≤ Xi S 890 1 ∧ Xi S 890 1 ≤ 2147483647 := Xi_rgI
  have w3 : -2147483648 ≤ Xi S 890 2 ∧ Xi S 890 2 ≤ 2147483647 := Xi_rgI
  have w4 : -2147483648 ≤ Xi S 890 3 ∧ Xi S 890 3 ≤ 2147483647 := Xi_rgI
  intro T35 hHT35 hFT35 w336 k219
  have w337 : Xi T35 876 7 = Xi S 876 7 := hFT35.x _ _ rfl
  have w338 : -2147483648 ≤ Xi T35 876 7 ∧ Xi T35 876 7 ≤ 2147483647 := Xi_rgI
  have w339 : -2147483648 ≤ Xi T35 890 1 ∧ Xi T35 890 1 ≤ 2147483647 := Xi_rgI
  have w340 : -2147483648 ≤ Xi T35 890 2 ∧ Xi T35 890 2 ≤ 2147483647 := Xi_rgI
  have w341 : -2147483648 ≤ Xi T35 890 3 ∧ Xi T35 890 3 ≤ 2147483647 := Xi_rgI
  refine y_aload_n rfl rfl ?_
  refine y_iconst rfl ?_
  refine y_pfi rfl rfl rfl rfl ?_
  obtain ⟨U36, eU36⟩ : ∃ T : sS, T = uI T35 890 2 (Int32.ofInt 4) := ⟨_, rfl⟩
  rw [← eU36]
  have hHU36 : RI U36 := by rw [eU36]; exact RI_w hHT35
  have hFU36 : FR md_gr_check__p S U36 := by rw [eU36]; exact FR.wI hFT35 (mdf_i (r := (890, 891, 2, 3)) (List.mem_of_getElem? (i := 1) rfl) (inR_i (by omega) (by omega) (by omega) (by omega)))
  have w342 : Xi U36 890 2 = 4 := by rw [eU36]; exact Xi_same (by unfold rg; omega)
  refine y_aload_n rfl rfl ?_
  have w343 : Xi U36 876 7 = Xi T35 876 7 := (show Xi U36 876 7 = Xi T35 876 7 from by rw [eU36]; exact Xi_ne (by omega))
  have w344 : Xi U36 890 1 = Xi T35 890 1 := (show Xi U36 890 1 = Xi T35 890 1 from by rw [eU36]; exact Xi_ne (by omega))
  refine y_callV rfl rfl rfl (t_gr_takeActing__p hHU36 (by first | assumption | exact (NFR_FR hFU36 rfl rfl (by assumption : NFR S))) (by first | assumption | omega) (by first | assumption | omega) _) ?_
  rintro _ T37 ⟨hHT37, w349, z348, rfl, w348, w346, w347⟩
  have hFT37 : FR md_gr_check__p S T37 := FR.tr hFU36 w349 rfl
  show Pl _ _ _ _ _ _ [iv z348] _ _
  have gp225 := w346
  rw [FRT hFU36 rfl rfl] at gp225
  try rw [show Xi U36 890 1 = Xi T35 890 1 by omega] at gp225
  clear w346
  rw [show Xi T35 890 1 = 1 by omega] at gp225
  refine y_istore_n rfl rfl rfl ?_
  refine y_goto rfl rfl ?_
  have w350 : Xi T37 876 7 = Xi T35 876 7 := (show Xi T37 876 7 = Xi U36 876 7 from w349.x _ _ rfl).trans ((show Xi U36 876 7 = Xi T35 876 7 from by rw [eU36]; exact Xi_ne (by omega)))
  have w351 : Xi T37 890 2 = Xi U36 890 2 := (show Xi T37 890 2 = Xi U36 890 2 from w349.x _ _ rfl)
  have w352 : Xi T37 890 3 = Xi T35 890 3 := (show Xi T37 890 3 = Xi U36 890 3 from w349.x _ _ rfl).trans ((show Xi U36 890 3 = Xi T35 890 3 from by rw [eU36]; exact Xi_ne (by omega)))
  exact Pl_weak (C283 T37 hHT37 hFT37 (z348) (by omega) (by unfold Hid; omega) (by omega) (by (first | rw [show z348 = 1 by omega] at gp225 | rw [show z348 = 0 by omega] at gp225 | skip);  unfold rux7; first | (rw [if_pos (by omega)]; simp only [gS_1, gS_0, o_1, o_0, i10, i00, n10, n00, if_true, if_false, gp225]) | (rw [if_neg (by omega), if_pos (by omega)]; simp only [gS_1, gS_0, o_1, o_0, i10, i00, n10, n00, if_true, if_false, gp225]) | (rw [if_neg (by omega), if_neg (by omega)]; simp only [gS_1, gS_0, o_1, o_0, i10, i00, n10, n00, if_true, if_false, gp225])) (by unfold Hid; omega)) (by omega) (And.intro rfl (And.intro rfl (True.intro)))
set_option maxRecDepth 100000 in
theorem c262_gr_check__p {S : sS} (hH : RI S) (hfr : NFR S) (hr : Xi S 876 7 ≤ 5130) (hls : LST S) (h1 : 1 ≤ Xi S 876 7) (d : Nat) (fu : Nat) : ∀  (T38 : sS) (_ : RI T38) (_ : FR md_gr_check__p S T38), (Xi T38 890 1 = 1) → (ty7 S 0 = 41) → Pl fu lay0 (d + 6) m_gr_check 262 [(0, .ref 890)] [] T38 (Q_gr_check__p S) := by
  have C283 := c283_gr_check__p hH hfr hr hls h1 d  fu
  have hF : FR md_gr_check__p S S := FR.rf
  have w1 : -2147483648 ≤ Xi S 876 7 ∧ Xi S 876 7 ≤ 2147483647 := Xi_rgI
  have w2 : -2147483648 ≤ Xi S 890 1 ∧ Xi S 890 1 ≤ 2147483647 := Xi_rgI
  have w3 : -2147483648 ≤ Xi S 890 2 ∧ Xi S 890 2 ≤ 2147483647 := Xi_rgI
  have w4 : -2147483648 ≤ Xi S 890 3 ∧ Xi S 890 3 ≤ 2147483647 := Xi_rgI
  intro T38 hHT38 hFT38 w353 k262
  have w354 : Xi T38 876 7 = Xi S 876 7 := hFT38.x _ _ rfl
  have w355 : -2147483648 ≤ Xi T38 876 7 ∧ Xi T38 876 7 ≤ 2147483647 := Xi_rgI
  have w356 : -2147483648 ≤ Xi T38 890 1 ∧ Xi T38 890 1 ≤ 2147483647 := Xi_rgI
  have w357 : -2147483648 ≤ Xi T38 890 2 ∧ Xi T38 890 2 ≤ 2147483647 := Xi_rgI
  have w358 : -2147483648 ≤ Xi T38 890 3 ∧ Xi T38 890 3 ≤ 2147483647 := Xi_rgI
  refine y_aload_n rfl rfl ?_
  refine y_bipush rfl rfl ?_
  refine y_pfi rfl rfl rfl rfl ?_
  obtain ⟨U39, eU39⟩ : ∃ T : sS, T = uI T38 890 2 (Int32.ofInt 6) := ⟨_, rfl⟩
  rw [← eU39]
  have hHU39 : RI U39 := by rw [eU39]; exact RI_w hHT38
  have hFU39 : FR md_gr_check__p S U39 := by rw [eU39]; exact FR.wI hFT38 (mdf_i (r := (890, 891, 2, 3)) (List.mem_of_getElem? (i := 1) rfl) (inR_i (by omega) (by omega) (by omega) (by omega)))
  have w359 : Xi U39 890 2 = 6 := by rw [eU39]; exact Xi_same (by unfold rg; omega)
  refine y_aload_n rfl rfl ?_
  refine y_bipush rfl rfl ?_
  have w360 : Xi U39 876 7 = Xi T38 876 7 := (show Xi U39 876 7 = Xi T38 876 7 from by rw [eU39]; exact Xi_ne (by omega))
  have w361 : Xi U39 890 1 = Xi T38 890 1 := (show Xi U39 890 1 = Xi T38 890 1 from by rw [eU39]; exact Xi_ne (by omega))
  refine y_callV rfl rfl rfl (t_gr_take__p hHU39 42 ⟨by omega, by omega⟩ (by first | assumption | exact (NFR_FR hFU39 rfl rfl (by assumption : NFR S))) (by first | assumption | omega) (by first | assumption | omega) _) ?_
  rintro _ T40 ⟨hHT40, w366, z365, rfl, w365, w363, w364⟩
  have hFT40 : FR md_gr_check__p S T40 := FR.tr hFU39 w366 rfl
  show Pl _ _ _ _ _ _ [iv z365] _ _
  have gp271 := w363
  rw [FRT hFU39 rfl rfl] at gp271
  try rw [show Xi U39 890 1 = Xi T38 890 1 by omega] at gp271
  clear w363
  rw [show Xi T38 890 1 = 1 by omega] at gp271
  refine y_istore_n rfl rfl rfl ?_
  refine y_goto rfl rfl ?_
  have w367 : Xi T40 876 7 = Xi T38 876 7 := (show Xi T40 876 7 = Xi U39 876 7 from w366.x _ _ rfl).trans ((show Xi U39 876 7 = Xi T38 876 7 from by rw [eU39]; exact Xi_ne (by omega)))
  have w368 : Xi T40 890 2 = Xi U39 890 2 := (show Xi T40 890 2 = Xi U39 890 2 from w366.x _ _ rfl)
  have w369 : Xi T40 890 3 = Xi T38 890 3 := (show Xi T40 890 3 = Xi U39 890 3 from w366.x _ _ rfl).trans ((show Xi U39 890 3 = Xi T38 890 3 from by rw [eU39]; exact Xi_ne (by omega)))
  exact Pl_weak (C283 T40 hHT40 hFT40 (z365) (by omega) (by unfold Hid; omega) (by omega) (by (first | rw [show z365 = 1 by omega] at gp271 | rw [show z365 = 0 by omega] at gp271 | skip);  unfold rux7; first | (rw [if_pos (by omega)]; simp only [gS_1, gS_0, o_1, o_0, i10, i00, n10, n00, if_true, if_false, gp271]) | (rw [if_neg (by omega), if_pos (by omega)]; simp only [gS_1, gS_0, o_1, o_0, i10, i00, n10, n00, if_true, if_false, gp271]) | (rw [if_neg (by omega), if_neg (by omega)]; simp only [gS_1, gS_0, o_1, o_0, i10, i00, n10, n00, if_true, if_false, gp271])) (by unfold Hid; omega)) (by omega) (And.intro rfl (And.intro rfl (True.intro)))
set_option maxRecDepth 100000 in
theorem c80_gr_check__p {S : sS} (hH : RI S) (hfr : NFR S) (hr : Xi S 876 7 ≤ 5130) (hls : LST S) (h1 : 1 ≤ Xi S 876 7) (d : Nat) (fu : Nat) : ∀  (T41 : sS) (_ : RI T41) (_ : FR md_gr_check__p S T41), (Xi T41 890 1 = 1) → (ty7 S 0 = 102) → Pl fu lay0 (d + 6) m_gr_check 80 [(0, .ref 890)] [] T41 (Q_gr_check__p S) := by
  have hF : FR md_gr_check__p S S := FR.rf
  have w1 : -2147483648 ≤ Xi S 876 7 ∧ Xi S 876 7 ≤ 2147483647 := Xi_rgI
  have w2 : -2147483648 ≤ Xi S 890 1 ∧ Xi S 890 1 ≤ 2147483647 := Xi_rgI
  have w3 : -2147483648 ≤ Xi S 890 2 ∧ Xi S 890 2 ≤ 2147483647 := Xi_rgI
  have w4 : -2147483648 ≤ Xi S 890 3 ∧ Xi S 890 3 ≤ 2147483647 := Xi_rgI
  intro T41 hHT41 hFT41 w370 k80
  have w371 : Xi T41 876 7 = Xi S 876 7 := hFT41.x _ _ rfl
  have w372 : -2147483648 ≤ Xi T41 876 7 ∧ Xi T41 876 7 ≤ 2147483647 := Xi_rgI
  have w373 : -2147483648 ≤ Xi T41 890 1 ∧ Xi T41 890 1 ≤ 2147483647 := Xi_rgI
  have w374 : -2147483648 ≤ Xi T41 890 2 ∧ Xi T41 890 2 ≤ 2147483647 := Xi_rgI
  have w375 : -2147483648 ≤ Xi T41 890 3 ∧ Xi T41 890 3 ≤ 2147483647 := Xi_rgI
  refine y_aload_n rfl rfl ?_
  refine y_iconst rfl ?_
  refine y_pfi rfl rfl rfl rfl ?_
  obtain ⟨U42, eU42⟩ : ∃ T : sS, T = uI T41 890 2 (Int32.ofInt 0) := ⟨_, rfl⟩
  rw [← eU42]
  have hHU42 : RI U42 := by rw [eU42]; exact RI_w hHT41
  have hFU42 : FR md_gr_check__p S U42 := by rw [eU42]; exact FR.wI hFT41 (mdf_i (r := (890, 891, 2, 3)) (List.mem_of_getElem? (i := 1) rfl) (inR_i (by omega) (by omega) (by omega) (by omega)))
  have w376 : Xi U42 890 2 = 0 := by rw [eU42]; exact Xi_same (by unfold rg; omega)
  refine y_iconst rfl ?_
  refine y_ireturn rfl rfl ?_
  have w377 : Xi U42 876 7 = Xi T41 876 7 := (show Xi U42 876 7 = Xi T41 876 7 from by rw [eU42]; exact Xi_ne (by omega))
  have w378 : Xi U42 890 1 = Xi T41 890 1 := (show Xi U42 890 1 = Xi T41 890 1 from by rw [eU42]; exact Xi_ne (by omega))
  have w379 : Xi U42 890 3 = Xi T41 890 3 := (show Xi U42 890 3 = Xi T41 890 3 from by rw [eU42]; exact Xi_ne (by omega))
  exact ⟨hHU42, hFU42, _, rfl, ⟨by omega, by omega⟩, (by  first | (have t := k80; exact (chk_0 k80).trans (pe rfl (by omega))) | (have t := k87; rw [chk_1 k87]; simp only [gS_1, gS_0, o_1, o_0, i10, i00, n10, n00, if_true, if_false]) | (have t := k132; rw [chk_2 k132]; simp only [gS_1, gS_0, o_1, o_0, i10, i00, n10, n00, if_true, if_false]) | (have t := k278; rw [chk_o k278.o]; exact gp279) | (rw [chk_r t283.o, A283]; unfold rul7; (first | rw [show v1 = 0 by omega] | rw [show v1 = 1 by omega]); simp only [gS_1, gS_0, o_1, o_0, i10, i00, n10, n00, if_true, if_false])), (by omega), (by first | (have t := k80; exact (fun _ => cks_i (by omega))) | (have t := k87; exact (fun _ => cks_i (by omega))) | (have t := k132; exact (fun _ => cks_i (by omega))) | (have t := k278; exact (fun q => cks_o k278.o (s279.o q))) | exact (fun _ => cks_r (by omega) s283.o))⟩
set_option maxRecDepth 100000 in
theorem t_gr_check__p {S : sS} (hH : RI S) (hfr : NFR S) (hr : Xi S 876 7 ≤ 5130) (hls : LST S) (h1 : 1 ≤ Xi S 876 7) (d : Nat) : Mp lay0 (d + 7) m_gr_check [.ref 890] S (Q_gr_check__p S) := by
  refine Mp_R rfl rfl (fun fu => ?_)
  have C278 := c278_gr_check__p hH hfr hr hls h1 d  fu
  have C87 := c87_gr_check__p hH hfr hr hls h1 d  fu
  have C132 := c132_gr_check__p hH hfr hr hls h1 d  fu
  have C283 := c283_gr_check__p hH hfr hr hls h1 d  fu
  have C206 := c206_gr_check__p hH hfr hr hls h1 d  fu
  have C232 := c232_gr_check__p hH hfr hr hls h1 d  fu
  have C219 := c219_gr_check__p hH hfr hr hls h1 d  fu
  have C262 := c262_gr_check__p hH hfr hr hls h1 d  fu
  have C80 := c80_gr_check__p hH hfr hr hls h1 d  fu
  have hF : FR md_gr_check__p S S := FR.rf
  have w1 : -2147483648 ≤ Xi S 876 7 ∧ Xi S 876 7 ≤ 2147483647 := Xi_rgI
  have w2 : -2147483648 ≤ Xi S 890 1 ∧ Xi S 890 1 ≤ 2147483647 := Xi_rgI
  have w3 : -2147483648 ≤ Xi S 890 2 ∧ Xi S 890 2 ≤ 2147483647 := Xi_rgI
  have w4 : -2147483648 ≤ Xi S 890 3 ∧ Xi S 890 3 ≤ 2147483647 := Xi_rgI
  refine y_aload_n rfl rfl ?_
  refine y_iconst rfl ?_
  refine y_pfi rfl rfl rfl rfl ?_
  obtain ⟨U43, eU43⟩ : ∃ T : sS, T = uI S 890 1 (Int32.ofInt 1) := ⟨_, rfl⟩
  rw [← eU43]
  have hHU43 : RI U43 := by rw [eU43]; exact RI_w hH
  have hFU43 : FR md_gr_check__p S U43 := by rw [eU43]; exact FR.wI hF (mdf_i (r := (890, 891, 1, 2)) (List.mem_of_getElem? (i := 0) rfl) (inR_i (by omega) (by omega) (by omega) (by omega)))
  have w380 : Xi U43 890 1 = 1 := by rw [eU43]; exact Xi_same (by unfold rg; omega)
  refine y_aload_n rfl rfl ?_
  refine y_gfr rfl rfl rfl rfl rfl (hHU43.r 890 0 876 rfl) ?_
  refine y_iconst rfl ?_
  have w381 : Xi U43 876 7 = Xi S 876 7 := (show Xi U43 876 7 = Xi S 876 7 from by rw [eU43]; exact Xi_ne (by omega))
  refine y_callV rfl rfl rfl (t_to_typeAt__p hHU43 0 ⟨by omega, by omega⟩ _) ?_
  rintro _ _ ⟨rfl, z386, rfl, w386, w384, w385⟩
  show Pl _ _ _ _ _ _ [iv z386] _ _
  have gq10 := w384
  rw [FRT hFU43 rfl rfl] at gq10
  try rw [show Xi U43 890 1 = 1 by omega] at gq10
  clear w384
  refine y_lsw rfl rfl (by unfold rg; omega) ?_
  refine And.intro (fun w387 => ⟨_, rfl, ?_⟩) (fun w388 => ?_)
  · have w389 : Xi U43 876 7 = Xi S 876 7 := (show Xi U43 876 7 = Xi S 876 7 from by rw [eU43]; exact Xi_ne (by omega))
    have w390 : Xi U43 890 2 = Xi S 890 2 := (show Xi U43 890 2 = Xi S 890 2 from by rw [eU43]; exact Xi_ne (by omega))
    have w391 : Xi U43 890 3 = Xi S 890 3 := (show Xi U43 890 3 = Xi S 890 3 from by rw [eU43]; exact Xi_ne (by omega))
    exact Pl_weak (C87 U43 hHU43 hFU43  (by omega) (by omega)) (by omega) (And.intro rfl (True.intro))
  refine And.intro (fun w392 => ⟨_, rfl, ?_⟩) (fun w393 => ?_)
  · have w394 : Xi U43 876 7 = Xi S 876 7 := (show Xi U43 876 7 = Xi S 876 7 from by rw [eU43]; exact Xi_ne (by omega))
    have w395 : Xi U43 890 2 = Xi S 890 2 := (show Xi U43 890 2 = Xi S 890 2 from by rw [eU43]; exact Xi_ne (by omega))
    have w396 : Xi U43 890 3 = Xi S 890 3 := (show Xi U43 890 3 = Xi S 890 3 from by rw [eU43]; exact Xi_ne (by omega))
    exact Pl_weak (C132 U43 hHU43 hFU43  (by omega) (by omega)) (by omega) (And.intro rfl (True.intro))
  refine And.intro (fun w397 => ⟨_, rfl, ?_⟩) (fun w398 => ?_)
  · have w399 : Xi U43 876 7 = Xi S 876 7 := (show Xi U43 876 7 = Xi S 876 7 from by rw [eU43]; exact Xi_ne (by omega))
    have w400 : Xi U43 890 2 = Xi S 890 2 := (show Xi U43 890 2 = Xi S 890 2 from by rw [eU43]; exact Xi_ne (by omega))
    have w401 : Xi U43 890 3 = Xi S 890 3 := (show Xi U43 890 3 = Xi S 890 3 from by rw [eU43]; exact Xi_ne (by omega))
    exact Pl_weak (C206 U43 hHU43 hFU43  (by omega) (by omega)) (by omega) (And.intro rfl (True.intro))
  refine And.intro (fun w402 => ⟨_, rfl, ?_⟩) (fun w403 => ?_)
  · have w404 : Xi U43 876 7 = Xi S 876 7 := (show Xi U43 876 7 = Xi S 876 7 from by rw [eU43]; exact Xi_ne (by omega))
    have w405 : Xi U43 890 2 = Xi S 890 2 := (show Xi U43 890 2 = Xi S 890 2 from by rw [eU43]; exact Xi_ne (by omega))
    have w406 : Xi U43 890 3 = Xi S 890 3 := (show Xi U43 890 3 = Xi S 890 3 from by rw [eU43]; exact Xi_ne (by omega))
    exact Pl_weak (C232 U43 hHU43 hFU43  (by omega) (by omega)) (by omega) (And.intro rfl (True.intro))
  refine And.intro (fun w407 => ⟨_, rfl, ?_⟩) (fun w408 => ?_)
  · have w409 : Xi U43 876 7 = Xi S 876 7 := (show Xi U43 876 7 = Xi S 876 7 from by rw [eU43]; exact Xi_ne (by omega))
    have w410 : Xi U43 890 2 = Xi S 890 2 := (show Xi U43 890 2 = Xi S 890 2 from by rw [eU43]; exact Xi_ne (by omega))
    have w411 : Xi U43 890 3 = Xi S 890 3 := (show Xi U43 890 3 = Xi S 890 3 from by rw [eU43]; exact Xi_ne (by omega))
    exact Pl_weak (C219 U43 hHU43 hFU43  (by omega) (by omega)) (by omega) (And.intro rfl (True.intro))
  refine And.intro (fun w412 => ⟨_, rfl, ?_⟩) (fun w413 => ?_)
  · have w414 : Xi U43 876 7 = Xi S 876 7 := (show Xi U43 876 7 = Xi S 876 7 from by rw [eU43]; exact Xi_ne (by omega))
    have w415 : Xi U43 890 2 = Xi S 890 2 := (show Xi U43 890 2 = Xi S 890 2 from by rw [eU43]; exact Xi_ne (by omega))
    have w416 : Xi U43 890 3 = Xi S 890 3 := (show Xi U43 890 3 = Xi S 890 3 from by rw [eU43]; exact Xi_ne (by omega))
    exact Pl_weak (C262 U43 hHU43 hFU43  (by omega) (by omega)) (by omega) (And.intro rfl (True.intro))
  refine And.intro (fun w417 => ⟨_, rfl, ?_⟩) (fun w418 => ?_)
  · have w419 : Xi U43 876 7 = Xi S 876 7 := (show Xi U43 876 7 = Xi S 876 7 from by rw [eU43]; exact Xi_ne (by omega))
    have w420 : Xi U43 890 2 = Xi S 890 2 := (show Xi U43 890 2 = Xi S 890 2 from by rw [eU43]; exact Xi_ne (by omega))
    have w421 : Xi U43 890 3 = Xi S 890 3 := (show Xi U43 890 3 = Xi S 890 3 from by rw [eU43]; exact Xi_ne (by omega))
    exact Pl_weak (C80 U43 hHU43 hFU43  (by omega) (by omega)) (by omega) (And.intro rfl (True.intro))
  refine ⟨_, rfl, ?_⟩
  have w423 : Xi U43 890 2 = Xi S 890 2 := (show Xi U43 890 2 = Xi S 890 2 from by rw [eU43]; exact Xi_ne (by omega))
  have w424 : Xi U43 890 3 = Xi S 890 3 := (show Xi U43 890 3 = Xi S 890 3 from by rw [eU43]; exact Xi_ne (by omega))
  exact Pl_weak (C278 U43 hHU43 hFU43  (by omega) (by unfold Hid; omega)) (by omega) (And.intro rfl (True.intro))
end
