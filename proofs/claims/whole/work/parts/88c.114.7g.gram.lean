section
theorem ots_7 {S : sS} {T : Int → Int} (h : T 0 = 2 ∧ T 1 = 25) (s : Xi S 890 2 = 7) : OTS S T := ⟨fun _ => s, fun q => by omega, fun q => absurd h q⟩
theorem ots_8 {S : sS} {T : Int → Int} (h : T 0 = 2 ∧ T 1 = 19) (s : Xi S 890 2 = 8) : OTS S T := ⟨fun q => by omega, fun _ => s, fun _ q => absurd h q⟩
theorem ots_b {S : sS} {T : Int → Int} (n : ¬ (T 0 = 2 ∧ T 1 = 25)) (m : ¬ (T 0 = 2 ∧ T 1 = 19)) (k : Xi S 890 3 = tk7 T) (h : kt7 T = 4 ∨ kt7 T = 5) (b : BES S T) : OTS S T :=
  ⟨fun q => absurd q n, fun q => absurd q m, fun _ _ => ⟨k, fun _ => b, fun q => by omega, fun q => by omega, fun q => by omega, fun q => absurd h q⟩⟩
theorem ots_s {S : sS} {T : Int → Int} (n : ¬ (T 0 = 2 ∧ T 1 = 25)) (m : ¬ (T 0 = 2 ∧ T 1 = 19)) (k : Xi S 890 3 = tk7 T) (h : (kt7 T = 12 ∧ Xi S 890 2 = 17) ∨ (kt7 T = 13 ∧ Xi S 890 2 = 18) ∨ (kt7 T = 21 ∧ Xi S 890 2 = 19)) : OTS S T :=
  ⟨fun q => absurd q n, fun q => absurd q m, fun _ _ => ⟨k, fun q => by omega, fun q => by omega, fun q => by omega, fun q => by omega, fun q q1 q2 q3 => by omega⟩⟩
theorem ots_20 {S : sS} {T : Int → Int} (n : ¬ (T 0 = 2 ∧ T 1 = 25)) (m : ¬ (T 0 = 2 ∧ T 1 = 19)) (k : Xi S 890 3 = tk7 T) (h : kt7 T ≠ 4 ∧ kt7 T ≠ 5 ∧ kt7 T ≠ 12 ∧ kt7 T ≠ 13 ∧ kt7 T ≠ 21) (s : Xi S 890 2 = 20) : OTS S T :=
  ⟨fun q => absurd q n, fun q => absurd q m, fun _ _ => ⟨k, fun q => by omega, fun q => by omega, fun q => by omega, fun q => by omega, fun _ _ _ _ => s⟩⟩
theorem cks_i {S : sS} {T : Int → Int} (h : (T 0 = 102 ∧ Xi S 890 2 = 0) ∨ (T 0 = 33 ∧ Xi S 890 2 = 1) ∨ (T 0 = 35 ∧ Xi S 890 2 = 2) ∨ (T 0 = 38 ∧ Xi S 890 2 = 3) ∨ (T 0 = 40 ∧ Xi S 890 2 = 4) ∨ (T 0 = 39 ∧ Xi S 890 2 = 5) ∨ (T 0 = 41 ∧ Xi S 890 2 = 6)) : CKS S T :=
  ⟨fun q => by omega, fun q => by omega, fun q => by omega, fun q => by omega, fun q => by omega, fun q => by omega, fun q => by omega, fun _ _ _ _ _ _ _ => by omega⟩
theorem cks_o {S : sS} {T : Int → Int} (h : T 0 ≠ 102 ∧ T 0 ≠ 33 ∧ T 0 ≠ 35 ∧ T 0 ≠ 38 ∧ T 0 ≠ 39 ∧ T 0 ≠ 40 ∧ T 0 ≠ 41) (o : OTS S T) : CKS S T :=
  ⟨fun q => by omega, fun q => by omega, fun q => by omega, fun q => by omega, fun q => by omega, fun q => by omega, fun q => by omega, fun _ _ _ _ _ _ _ => o⟩

def md_gr_checkOthers__p : List rec := [(890, 891, 1, 2), (890, 891, 2, 3), (890, 891, 3, 4)]
abbrev Q_gr_checkOthers__p (S : sS) : pst := fun r S1 => RI S1 ∧ FR md_gr_checkOthers__p S S1 ∧ (∃ z : Int, r = some (iv z) ∧ (0 ≤ z ∧ z ≤ 1) ∧ (ckO (ty7 S)  = (z, Xi S1 890 1)) ∧ (0 ≤ Xi S1 890 1 ∧ Xi S1 890 1 ≤ Xi S 876 7) ∧ (z = 1 → OTS S1 (ty7 S)))
set_option maxRecDepth 100000 in
theorem c25_gr_checkOthers__p {S : sS} (hH : RI S) (hfr : NFR S) (hr : Xi S 876 7 ≤ 5130) (hls : LST S) (h1 : 1 ≤ Xi S 876 7) (d : Nat) (fu : Nat) : (ty7 S 0 = 2 ∧ ty7 S 1 = 25) → Pl fu lay0 (d + 5) m_gr_checkOthers 25 [(0, .ref 890)] [] S (Q_gr_checkOthers__p S) := by
  have hF : FR md_gr_checkOthers__p S S := FR.rf
  have w1 : -2147483648 ≤ Xi S 876 7 ∧ Xi S 876 7 ≤ 2147483647 := Xi_rgI
  have w2 : -2147483648 ≤ Xi S 890 1 ∧ Xi S 890 1 ≤ 2147483647 := Xi_rgI
  have w3 : -2147483648 ≤ Xi S 890 2 ∧ Xi S 890 2 ≤ 2147483647 := Xi_rgI
  have w4 : -2147483648 ≤ Xi S 890 3 ∧ Xi S 890 3 ≤ 2147483647 := Xi_rgI
  intro k25
  refine y_aload_n rfl rfl ?_
  refine y_bipush rfl rfl ?_
  refine y_pfi rfl rfl rfl rfl ?_
  obtain ⟨U1, eU1⟩ : ∃ T : sS, T = uI S 890 2 (Int32.ofInt 7) := ⟨_, rfl⟩
  rw [← eU1]
  have hHU1 : RI U1 := by rw [eU1]; exact RI_w hH
  have hFU1 : FR md_gr_checkOthers__p S U1 := by rw [eU1]; exact FR.wI hF (mdf_i (r := (890, 891, 2, 3)) (List.mem_of_getElem? (i := 1) rfl) (inR_i (by omega) (by omega) (by omega) (by omega)))
  have w5 : Xi U1 890 2 = 7 := by rw [eU1]; exact Xi_same (by unfold rg; omega)
  refine y_aload_n rfl rfl ?_
  refine y_iconst rfl ?_
  refine y_pfi rfl rfl rfl rfl ?_
  obtain ⟨U2, eU2⟩ : ∃ T : sS, T = uI U1 890 1 (Int32.ofInt 2) := ⟨_, rfl⟩
  rw [← eU2]
  have hHU2 : RI U2 := by rw [eU2]; exact RI_w hHU1
  have hFU2 : FR md_gr_checkOthers__p S U2 := by rw [eU2]; exact FR.wI hFU1 (mdf_i (r := (890, 891, 1, 2)) (List.mem_of_getElem? (i := 0) rfl) (inR_i (by omega) (by omega) (by omega) (by omega)))
  have w6 : Xi U2 890 1 = 2 := by rw [eU2]; exact Xi_same (by unfold rg; omega)
  have x33 : Xi U2 890 1 ≤ Xi S 876 7 := by have t := ty_lt k25.2 (by decide); omega
  refine y_aload_n rfl rfl ?_
  refine y_bipush rfl rfl ?_
  have w7 : Xi U2 876 7 = Xi S 876 7 := (show Xi U2 876 7 = Xi U1 876 7 from by rw [eU2]; exact Xi_ne (by omega)).trans ((show Xi U1 876 7 = Xi S 876 7 from by rw [eU1]; exact Xi_ne (by omega)))
  refine y_callV rfl rfl rfl (t_gr_take__p hHU2 11 ⟨by omega, by omega⟩ (by first | assumption | exact (NFR_FR hFU2 rfl rfl (by assumption : NFR S))) (by first | assumption | omega) (by first | assumption | omega) _) ?_
  rintro _ T3 ⟨hHT3, w13, z12, rfl, w12, w10, w11⟩
  have hFT3 : FR md_gr_checkOthers__p S T3 := FR.tr hFU2 w13 rfl
  show Pl _ _ _ _ _ _ [iv z12] _ _
  have gp39 := w10
  rw [FRT hFU2 rfl rfl] at gp39
  try rw [show Xi U2 890 1 = 2 by omega] at gp39
  clear w10
  refine y_if_eq rfl rfl (by unfold rg; omega) (fun w14 => ?_) (fun w15 => ?_)
  · rw [show z12 = 0 by omega] at gp39
    refine y_iconst rfl ?_
    refine y_ireturn rfl rfl ?_
    have w16 : Xi T3 876 7 = Xi S 876 7 := (show Xi T3 876 7 = Xi U2 876 7 from w13.x _ _ rfl).trans ( (show Xi U2 876 7 = Xi U1 876 7 from by rw [eU2]; exact Xi_ne (by omega)).trans ((show Xi U1 876 7 = Xi S 876 7 from by rw [eU1]; exact Xi_ne (by omega))))
    have w17 : Xi T3 890 2 = Xi U1 890 2 := (show Xi T3 890 2 = Xi U2 890 2 from w13.x _ _ rfl).trans ((show Xi U2 890 2 = Xi U1 890 2 from by rw [eU2]; exact Xi_ne (by omega)))
    have w18 : Xi T3 890 3 = Xi S 890 3 := (show Xi T3 890 3 = Xi U2 890 3 from w13.x _ _ rfl).trans ( (show Xi U2 890 3 = Xi U1 890 3 from by rw [eU2]; exact Xi_ne (by omega)).trans ((show Xi U1 890 3 = Xi S 890 3 from by rw [eU1]; exact Xi_ne (by omega))))
    exact ⟨hHT3, hFT3, _, rfl, ⟨by omega, by omega⟩, (by  first | (have t := k25; rw [ckO_7 k25]; simp only [gS_1, gS_0, o_1, o_0, i10, i00, n10, n00, if_true, if_false, gp39]) | (have t := k125; rw [ckO_8 k125]; simp only [gS_1, gS_0, o_1, o_0, i10, i00, n10, n00, if_true, if_false, gp39]) | (have t := k260; rw [ckO_b n260.o m260.o k260]; exact gp261) | (have t := k265; rw [ckO_17 n265.o m265.o k265]; simp only [gS_1, gS_0, o_1, o_0, i10, i00, n10, n00, if_true, if_false, gp39]) | (have t := k332; rw [ckO_18 n332.o m332.o k332]; simp only [gS_1, gS_0, o_1, o_0, i10, i00, n10, n00, if_true, if_false, gp39]) | (have t := k401; rw [ckO_19 n401.o m401.o k401]; simp only [gS_1, gS_0, o_1, o_0, i10, i00, n10, n00, if_true, if_false, gp39]) | (have t := k475; rw [ckO_20 n475.o m475.o k475.o]; simp only [gS_1, gS_0, o_1, o_0, i10, i00, n10, n00, if_true, if_false, gp39])), (by omega), (by first | (have t := k25; exact (fun _ => ots_7 k25 (by omega))) | (have t := k125; exact (fun _ => ots_8 k125 (by omega))) | (have t := k260; exact (fun q => ots_b n260.o m260.o (by omega) k260 (s261.o q))) | (have t := k265; exact (fun _ => ots_s n265.o m265.o (by omega) (Or.inl ⟨k265, by omega⟩))) | (have t := k332; exact (fun _ => ots_s n332.o m332.o (by omega) (Or.inr (Or.inl ⟨k332, by omega⟩)))) | (have t := k401; exact (fun _ => ots_s n401.o m401.o (by omega) (Or.inr (Or.inr ⟨k401, by omega⟩)))) | (have t := k475; exact (fun _ => ots_20 n475.o m475.o (by omega) k475.o (by omega))))⟩
  · rw [show z12 = 1 by omega] at gp39
    refine y_aload_n rfl rfl ?_
    have w19 : Xi T3 876 7 = Xi S 876 7 := (show Xi T3 876 7 = Xi U2 876 7 from w13.x _ _ rfl).trans ( (show Xi U2 876 7 = Xi U1 876 7 from by rw [eU2]; exact Xi_ne (by omega)).trans ((show Xi U1 876 7 = Xi S 876 7 from by rw [eU1]; exact Xi_ne (by omega))))
    refine y_callV rfl rfl rfl (t_gr_takeRun__p hHT3 (by first | assumption | exact (NFR_FR hFT3 rfl rfl (by assumption : NFR S))) (by first | assumption | omega) (by first | assumption | omega) _) ?_
    rintro _ T4 ⟨hHT4, w25, z24, rfl, w24, w22, w23⟩
    have hFT4 : FR md_gr_checkOthers__p S T4 := FR.tr hFT3 w25 rfl
    show Pl _ _ _ _ _ _ [iv z24] _ _
    have gp46 := w22
    rw [FRT hFT3 rfl rfl] at gp46
    clear w22
    refine y_if_eq rfl rfl (by unfold rg; omega) (fun w26 => ?_) (fun w27 => ?_)
    · rw [show z24 = 0 by omega] at gp46
      refine y_iconst rfl ?_
      refine y_ireturn rfl rfl ?_
      have w28 : Xi T4 876 7 = Xi S 876 7 := (show Xi T4 876 7 = Xi T3 876 7 from w25.x _ _ rfl).trans ( (show Xi T3 876 7 = Xi U2 876 7 from w13.x _ _ rfl).trans ( (show Xi U2 876 7 = Xi U1 876 7 from by rw [eU2]; exact Xi_ne (by omega)).trans ((show Xi U1 876 7 = Xi S 876 7 from by rw [eU1]; exact Xi_ne (by omega)))))
      have w29 : Xi T4 890 2 = Xi U1 890 2 := (show Xi T4 890 2 = Xi T3 890 2 from w25.x _ _ rfl).trans ( (show Xi T3 890 2 = Xi U2 890 2 from w13.x _ _ rfl).trans ((show Xi U2 890 2 = Xi U1 890 2 from by rw [eU2]; exact Xi_ne (by omega))))
      have w30 : Xi T4 890 3 = Xi S 890 3 := (show Xi T4 890 3 = Xi T3 890 3 from w25.x _ _ rfl).trans ( (show Xi T3 890 3 = Xi U2 890 3 from w13.x _ _ rfl).trans ( (show Xi U2 890 3 = Xi U1 890 3 from by rw [eU2]; exact Xi_ne (by omega)).trans ((show Xi U1 890 3 = Xi S 890 3 from by rw [eU1]; exact Xi_ne (by omega)))))
      exact ⟨hHT4, hFT4, _, rfl, ⟨by omega, by omega⟩, (by  first | (have t := k25; rw [ckO_7 k25]; simp only [gS_1, gS_0, o_1, o_0, i10, i00, n10, n00, if_true, if_false, gp39, gp46]) | (have t := k125; rw [ckO_8 k125]; simp only [gS_1, gS_0, o_1, o_0, i10, i00, n10, n00, if_true, if_false, gp39, gp46]) | (have t := k260; rw [ckO_b n260.o m260.o k260]; exact gp261) | (have t := k265; rw [ckO_17 n265.o m265.o k265]; simp only [gS_1, gS_0, o_1, o_0, i10, i00, n10, n00, if_true, if_false, gp39, gp46]) | (have t := k332; rw [ckO_18 n332.o m332.o k332]; simp only [gS_1, gS_0, o_1, o_0, i10, i00, n10, n00, if_true, if_false, gp39, gp46]) | (have t := k401; rw [ckO_19 n401.o m401.o k401]; simp only [gS_1, gS_0, o_1, o_0, i10, i00, n10, n00, if_true, if_false, gp39, gp46]) | (have t := k475; rw [ckO_20 n475.o m475.o k475.o]; simp only [gS_1, gS_0, o_1, o_0, i10, i00, n10, n00, if_true, if_false, gp39, gp46])), (by omega), (by first | (have t := k25; exact (fun _ => ots_7 k25 (by omega))) | (have t := k125; exact (fun _ => ots_8 k125 (by omega))) | (have t := k260; exact (fun q => ots_b n260.o m260.o (by omega) k260 (s261.o q))) | (have t := k265; exact (fun _ => ots_s n265.o m265.o (by omega) (Or.inl ⟨k265, by omega⟩))) | (have t := k332; exact (fun _ => ots_s n332.o m332.o (by omega) (Or.inr (Or.inl ⟨k332, by omega⟩)))) | (have t := k401; exact (fun _ => ots_s n401.o m401.o (by omega) (Or.inr (Or.inr ⟨k401, by omega⟩)))) | (have t := k475; exact (fun _ => ots_20 n475.o m475.o (by omega) k475.o (by omega))))⟩
    · rw [show z24 = 1 by omega] at gp46
      refine y_aload_n rfl rfl ?_
      refine y_bipush rfl rfl ?_
      have w31 : Xi T4 876 7 = Xi S 876 7 := (show Xi T4 876 7 = Xi T3 876 7 from w25.x _ _ rfl).trans ( (show Xi T3 876 7 = Xi U2 876 7 from w13.x _ _ rfl).trans ( (show Xi U2 876 7 = Xi U1 876 7 from by rw [eU2]; exact Xi_ne (by omega)).trans ((show Xi U1 876 7 = Xi S 876 7 from by rw [eU1]; exact Xi_ne (by omega)))))
      refine y_callV rfl rfl rfl (t_gr_take__p hHT4 24 ⟨by omega, by omega⟩ (by first | assumption | exact (NFR_FR hFT4 rfl rfl (by assumption : NFR S))) (by first | assumption | omega) (by first | assumption | omega) _) ?_
      rintro _ T5 ⟨hHT5, w37, z36, rfl, w36, w34, w35⟩
      have hFT5 : FR md_gr_checkOthers__p S T5 := FR.tr hFT4 w37 rfl
      show Pl _ _ _ _ _ _ [iv z36] _ _
      have gp55 := w34
      rw [FRT hFT4 rfl rfl] at gp55
      clear w34
      refine y_if_eq rfl rfl (by unfold rg; omega) (fun w38 => ?_) (fun w39 => ?_)
      · rw [show z36 = 0 by omega] at gp55
        refine y_iconst rfl ?_
        refine y_ireturn rfl rfl ?_
        have w40 : Xi T5 876 7 = Xi S 876 7 := (show Xi T5 876 7 = Xi T4 876 7 from w37.x _ _ rfl).trans ( (show Xi T4 876 7 = Xi T3 876 7 from w25.x _ _ rfl).trans ( (show Xi T3 876 7 = Xi U2 876 7 from w13.x _ _ rfl).trans ( (show Xi U2 876 7 = Xi U1 876 7 from by rw [eU2]; exact Xi_ne (by omega)).trans ((show Xi U1 876 7 = Xi S 876 7 from by rw [eU1]; exact Xi_ne (by omega))))))
        have w41 : Xi T5 890 2 = Xi U1 890 2 := (show Xi T5 890 2 = Xi T4 890 2 from w37.x _ _ rfl).trans ( (show Xi T4 890 2 = Xi T3 890 2 from w25.x _ _ rfl).trans ( (show Xi T3 890 2 = Xi U2 890 2 from w13.x _ _ rfl).trans ((show Xi U2 890 2 = Xi U1 890 2 from by rw [eU2]; exact Xi_ne (by omega)))))
        have w42 : Xi T5 890 3 = Xi S 890 3 := (show Xi T5 890 3 = Xi T4 890 3 from w37.x _ _ rfl).trans ( (show Xi T4 890 3 = Xi T3 890 3 from w25.x _ _ rfl).trans ( (show Xi T3 890 3 = Xi U2 890 3 from w13.x _ _ rfl).trans ( (show Xi U2 890 3 = Xi U1 890 3 from by rw [eU2]; exact Xi_ne (by omega)).trans ((show Xi U1 890 3 = Xi S 890 3 from by rw [eU1]; exact Xi_ne (by omega))))))
        exact ⟨hHT5, hFT5, _, rfl, ⟨by omega, by omega⟩, (by  first | (have t := k25; rw [ckO_7 k25]; simp only [gS_1, gS_0, o_1, o_0, i10, i00, n10, n00, if_true, if_false, gp39, gp46, gp55]) | (have t := k125; rw [ckO_8 k125]; simp only [gS_1, gS_0, o_1, o_0, i10, i00, n10, n00, if_true, if_false, gp39, gp46, gp55]) | (have t := k260; rw [ckO_b n260.o m260.o k260]; exact gp261) | (have t := k265; rw [ckO_17 n265.o m265.o k265]; simp only [gS_1, gS_0, o_1, o_0, i10, i00, n10, n00, if_true, if_false, gp39, gp46, gp55]) | (have t := k332; rw [ckO_18 n332.o m332.o k332]; simp only [gS_1, gS_0, o_1, o_0, i10, i00, n10, n00, if_true, if_false, gp39, gp46, gp55]) | (have t := k401; rw [ckO_19 n401.o m401.o k401]; simp only [gS_1, gS_0, o_1, o_0, i10, i00, n10, n00, if_true, if_false, gp39, gp46, gp55]) | (have t := k475; rw [ckO_20 n475.o m475.o k475.o]; simp only [gS_1, gS_0, o_1, o_0, i10, i00, n10, n00, if_true, if_false, gp39, gp46, gp55])), (by omega), (by first | (have t := k25; exact (fun _ => ots_7 k25 (by omega))) | (have t := k125; exact (fun _ => ots_8 k125 (by omega))) | (have t := k260; exact (fun q => ots_b n260.o m260.o (by omega) k260 (s261.o q))) | (have t := k265; exact (fun _ => ots_s n265.o m265.o (by omega) (Or.inl ⟨k265, by omega⟩))) | (have t := k332; exact (fun _ => ots_s n332.o m332.o (by omega) (Or.inr (Or.inl ⟨k332, by omega⟩)))) | (have t := k401; exact (fun _ => ots_s n401.o m401.o (by omega) (Or.inr (Or.inr ⟨k401, by omega⟩)))) | (have t := k475; exact (fun _ => ots_20 n475.o m475.o (by omega) k475.o (by omega))))⟩
      · rw [show z36 = 1 by omega] at gp55
        refine y_aload_n rfl rfl ?_
        refine y_iconst rfl ?_
        have w43 : Xi T5 876 7 = Xi S 876 7 := (show Xi T5 876 7 = Xi T4 876 7 from w37.x _ _ rfl).trans ( (show Xi T4 876 7 = Xi T3 876 7 from w25.x _ _ rfl).trans ( (show Xi T3 876 7 = Xi U2 876 7 from w13.x _ _ rfl).trans ( (show Xi U2 876 7 = Xi U1 876 7 from by rw [eU2]; exact Xi_ne (by omega)).trans ((show Xi U1 876 7 = Xi S 876 7 from by rw [eU1]; exact Xi_ne (by omega))))))
        refine y_callV rfl rfl rfl (t_gr_take__p hHT5 2 ⟨by omega, by omega⟩ (by first | assumption | exact (NFR_FR hFT5 rfl rfl (by assumption : NFR S))) (by first | assumption | omega) (by first | assumption | omega) _) ?_
        rintro _ T6 ⟨hHT6, w49, z48, rfl, w48, w46, w47⟩
        have hFT6 : FR md_gr_checkOthers__p S T6 := FR.tr hFT5 w49 rfl
        show Pl _ _ _ _ _ _ [iv z48] _ _
        have gp63 := w46
        rw [FRT hFT5 rfl rfl] at gp63
        clear w46
        refine y_if_eq rfl rfl (by unfold rg; omega) (fun w50 => ?_) (fun w51 => ?_)
        · rw [show z48 = 0 by omega] at gp63
          refine y_iconst rfl ?_
          refine y_ireturn rfl rfl ?_
          have w52 : Xi T6 876 7 = Xi S 876 7 := (show Xi T6 876 7 = Xi T5 876 7 from w49.x _ _ rfl).trans ( (show Xi T5 876 7 = Xi T4 876 7 from w37.x _ _ rfl).trans ( (show Xi T4 876 7 = Xi T3 876 7 from w25.x _ _ rfl).trans ( (show Xi T3 876 7 = Xi U2 876 7 from w13.x _ _ rfl).trans ( (show Xi U2 876 7 = Xi U1 876 7 from by rw [eU2]; exact Xi_ne (by omega)).trans ((show Xi U1 876 7 = Xi S 876 7 from by rw [eU1]; exact Xi_ne (by omega)))))))
          have w53 : Xi T6 890 2 = Xi U1 890 2 := (show Xi T6 890 2 = Xi T5 890 2 from w49.x _ _ rfl).trans ( (show Xi T5 890 2 = Xi T4 890 2 from w37.x _ _ rfl).trans ( (show Xi T4 890 2 = Xi T3 890 2 from w25.x _ _ rfl).trans ( (show Xi T3 890 2 = Xi U2 890 2 from w13.x _ _ rfl).trans ((show Xi U2 890 2 = Xi U1 890 2 from by rw [eU2]; exact Xi_ne (by omega))))))
          have w54 : Xi T6 890 3 = Xi S 890 3 := (show Xi T6 890 3 = Xi T5 890 3 from w49.x _ _ rfl).trans ( (show Xi T5 890 3 = Xi T4 890 3 from w37.x _ _ rfl).trans ( (show Xi T4 890 3 = Xi T3 890 3 from w25.x _ _ rfl).trans ( (show Xi T3 890 3 = Xi U2 890 3 from w13.x _ _ rfl).trans ( (show Xi U2 890 3 = Xi U1 890 3 from by rw [eU2]; exact Xi_ne (by omega)).trans ((show Xi U1 890 3 = Xi S 890 3 from by rw [eU1]; exact Xi_ne (by omega)))))))
          exact ⟨hHT6, hFT6, _, rfl, ⟨by omega, by omega⟩, (by  first | (have t := k25; rw [ckO_7 k25]; simp only [gS_1, gS_0, o_1, o_0, i10, i00, n10, n00, if_true, if_false, gp39, gp46, gp55, gp63]) | (have t := k125; rw [ckO_8 k125]; simp only [gS_1, gS_0, o_1, o_0, i10, i00, n10, n00, if_true, if_false, gp39, gp46, gp55, gp63]) | (have t := k260; rw [ckO_b n260.o m260.o k260]; exact gp261) | (have t := k265; rw [ckO_17 n265.o m265.o k265]; simp only [gS_1, gS_0, o_1, o_0, i10, i00, n10, n00, if_true, if_false, gp39, gp46, gp55, gp63]) | (have t := k332; rw [ckO_18 n332.o m332.o k332]; simp only [gS_1, gS_0, o_1, o_0, i10, i00, n10, n00, if_true, if_false, gp39, gp46, gp55, gp63]) | (have t := k401; rw [ckO_19 n401.o m401.o k401]; simp only [gS_1, gS_0, o_1, o_0, i10, i00, n10, n00, if_true, if_false, gp39, gp46, gp55, gp63]) | (have t := k475; rw [ckO_20 n475.o m475.o k475.o]; simp only [gS_1, gS_0, o_1, o_0, i10, i00, n10, n00, if_true, if_false, gp39, gp46, gp55, gp63])), (by omega), (by first | (have t := k25; exact (fun _ => ots_7 k25 (by omega))) | (have t := k125; exact (fun _ => ots_8 k125 (by omega))) | (have t := k260; exact (fun q => ots_b n260.o m260.o (by omega) k260 (s261.o q))) | (have t := k265; exact (fun _ => ots_s n265.o m265.o (by omega) (Or.inl ⟨k265, by omega⟩))) | (have t := k332; exact (fun _ => ots_s n332.o m332.o (by omega) (Or.inr (Or.inl ⟨k332, by omega⟩)))) | (have t := k401; exact (fun _ => ots_s n401.o m401.o (by omega) (Or.inr (Or.inr ⟨k401, by omega⟩)))) | (have t := k475; exact (fun _ => ots_20 n475.o m475.o (by omega) k475.o (by omega))))⟩
        · rw [show z48 = 1 by omega] at gp63
          refine y_aload_n rfl rfl ?_
          have w55 : Xi T6 876 7 = Xi S 876 7 := (show Xi T6 876 7 = Xi T5 876 7 from w49.x _ _ rfl).trans ( (show Xi T5 876 7 = Xi T4 876 7 from w37.x _ _ rfl).trans ( (show Xi T4 876 7 = Xi T3 876 7 from w25.x _ _ rfl).trans ( (show Xi T3 876 7 = Xi U2 876 7 from w13.x _ _ rfl).trans ( (show Xi U2 876 7 = Xi U1 876 7 from by rw [eU2]; exact Xi_ne (by omega)).trans ((show Xi U1 876 7 = Xi S 876 7 from by rw [eU1]; exact Xi_ne (by omega)))))))
          refine y_callV rfl rfl rfl (t_gr_takeRun__p hHT6 (by first | assumption | exact (NFR_FR hFT6 rfl rfl (by assumption : NFR S))) (by first | assumption | omega) (by first | assumption | omega) _) ?_
          rintro _ T7 ⟨hHT7, w61, z60, rfl, w60, w58, w59⟩
          have hFT7 : FR md_gr_checkOthers__p S T7 := FR.tr hFT6 w61 rfl
          show Pl _ _ _ _ _ _ [iv z60] _ _
          have gp70 := w58
          rw [FRT hFT6 rfl rfl] at gp70
          clear w58
          refine y_if_eq rfl rfl (by unfold rg; omega) (fun w62 => ?_) (fun w63 => ?_)
          · rw [show z60 = 0 by omega] at gp70
            refine y_iconst rfl ?_
            refine y_ireturn rfl rfl ?_
            have w64 : Xi T7 876 7 = Xi S 876 7 := (show Xi T7 876 7 = Xi T6 876 7 from w61.x _ _ rfl).trans ( (show Xi T6 876 7 = Xi T5 876 7 from w49.x _ _ rfl).trans ( (show Xi T5 876 7 = Xi T4 876 7 from w37.x _ _ rfl).trans ( (show Xi T4 876 7 = Xi T3 876 7 from w25.x _ _ rfl).trans ( (show Xi T3 876 7 = Xi U2 876 7 from w13.x _ _ rfl).trans ( (show Xi U2 876 7 = Xi U1 876 7 from by rw [eU2]; exact Xi_ne (by omega)).trans ((show Xi U1 876 7 = Xi S 876 7 from by rw [eU1]; exact Xi_ne (by omega))))))))
            have w65 : Xi T7 890 2 = Xi U1 890 2 := (show Xi T7 890 2 = Xi T6 890 2 from w61.x _ _ rfl).trans ( (show Xi T6 890 2 = Xi T5 890 2 from w49.x _ _ rfl).trans ( (show Xi T5 890 2 = Xi T4 890 2 from w37.x _ _ rfl).trans ( (show Xi T4 890 2 = Xi T3 890 2 from w25.x _ _ rfl).trans ( (show Xi T3 890 2 = Xi U2 890 2 from w13.x _ _ rfl).trans ((show Xi U2 890 2 = Xi U1 890 2 from by rw [eU2]; exact Xi_ne (by omega)))))))
            have w66 : Xi T7 890 3 = Xi S 890 3 := (show Xi T7 890 3 = Xi T6 890 3 from w61.x _ _ rfl).trans ( (show Xi T6 890 3 = Xi T5 890 3 from w49.x _ _ rfl).trans ( (show Xi T5 890 3 = Xi T4 890 3 from w37.x _ _ rfl).trans ( (show Xi T4 890 3 = Xi T3 890 3 from w25.x _ _ rfl).trans ( (show Xi T3 890 3 = Xi U2 890 3 from w13.x _ _ rfl).trans ( (show Xi U2 890 3 = Xi U1 890 3 from by rw [eU2]; exact Xi_ne (by omega)).trans ((show Xi U1 890 3 = Xi S 890 3 from by rw [eU1]; exact Xi_ne (by omega))))))))
            exact ⟨hHT7, hFT7, _, rfl, ⟨by omega, by omega⟩, (by  first | (have t := k25; rw [ckO_7 k25]; simp only [gS_1, gS_0, o_1, o_0, i10, i00, n10, n00, if_true, if_false, gp39, gp46, gp55, gp63, gp70]) | (have t := k125; rw [ckO_8 k125]; simp only [gS_1, gS_0, o_1, o_0, i10, i00, n10, n00, if_true, if_false, gp39, gp46, gp55, gp63, gp70]) | (have t := k260; rw [ckO_b n260.o m260.o k260]; exact gp261) | (have t := k265; rw [ckO_17 n265.o m265.o k265]; simp only [gS_1, gS_0, o_1, o_0, i10, i00, n10, n00, if_true, if_false, gp39, gp46, gp55, gp63, gp70]) | (have t := k332; rw [ckO_18 n332.o m332.o k332]; simp only [gS_1, gS_0, o_1, o_0, i10, i00, n10, n00, if_true, if_false, gp39, gp46, gp55, gp63, gp70]) | (have t := k401; rw [ckO_19 n401.o m401.o k401]; simp only [gS_1, gS_0, o_1, o_0, i10, i00, n10, n00, if_true, if_false, gp39, gp46, gp55, gp63, gp70]) | (have t := k475; rw [ckO_20 n475.o m475.o k475.o]; simp only [gS_1, gS_0, o_1, o_0, i10, i00, n10, n00, if_true, if_false, gp39, gp46, gp55, gp63, gp70])), (by omega), (by first | (have t := k25; exact (fun _ => ots_7 k25 (by omega))) | (have t := k125; exact (fun _ => ots_8 k125 (by omega))) | (have t := k260; exact (fun q => ots_b n260.o m260.o (by omega) k260 (s261.o q))) | (have t := k265; exact (fun _ => ots_s n265.o m265.o (by omega) (Or.inl ⟨k265, by omega⟩))) | (have t := k332; exact (fun _ => ots_s n332.o m332.o (by omega) (Or.inr (Or.inl ⟨k332, by omega⟩)))) | (have t := k401; exact (fun _ => ots_s n401.o m401.o (by omega) (Or.inr (Or.inr ⟨k401, by omega⟩)))) | (have t := k475; exact (fun _ => ots_20 n475.o m475.o (by omega) k475.o (by omega))))⟩
          · rw [show z60 = 1 by omega] at gp70
            refine y_aload_n rfl rfl ?_
            refine y_bipush rfl rfl ?_
            have w67 : Xi T7 876 7 = Xi S 876 7 := (show Xi T7 876 7 = Xi T6 876 7 from w61.x _ _ rfl).trans ( (show Xi T6 876 7 = Xi T5 876 7 from w49.x _ _ rfl).trans ( (show Xi T5 876 7 = Xi T4 876 7 from w37.x _ _ rfl).trans ( (show Xi T4 876 7 = Xi T3 876 7 from w25.x _ _ rfl).trans ( (show Xi T3 876 7 = Xi U2 876 7 from w13.x _ _ rfl).trans ( (show Xi U2 876 7 = Xi U1 876 7 from by rw [eU2]; exact Xi_ne (by omega)).trans ((show Xi U1 876 7 = Xi S 876 7 from by rw [eU1]; exact Xi_ne (by omega))))))))
            refine y_callV rfl rfl rfl (t_gr_take__p hHT7 26 ⟨by omega, by omega⟩ (by first | assumption | exact (NFR_FR hFT7 rfl rfl (by assumption : NFR S))) (by first | assumption | omega) (by first | assumption | omega) _) ?_
            rintro _ T8 ⟨hHT8, w73, z72, rfl, w72, w70, w71⟩
            have hFT8 : FR md_gr_checkOthers__p S T8 := FR.tr hFT7 w73 rfl
            show Pl _ _ _ _ _ _ [iv z72] _ _
            have gp79 := w70
            rw [FRT hFT7 rfl rfl] at gp79
            clear w70
            refine y_if_eq rfl rfl (by unfold rg; omega) (fun w74 => ?_) (fun w75 => ?_)
            · rw [show z72 = 0 by omega] at gp79
              refine y_iconst rfl ?_
              refine y_ireturn rfl rfl ?_
              have w76 : Xi T8 876 7 = Xi S 876 7 := (show Xi T8 876 7 = Xi T7 876 7 from w73.x _ _ rfl).trans ( (show Xi T7 876 7 = Xi T6 876 7 from w61.x _ _ rfl).trans ( (show Xi T6 876 7 = Xi T5 876 7 from w49.x _ _ rfl).trans ( (show Xi T5 876 7 = Xi T4 876 7 from w37.x _ _ rfl).trans ( (show Xi T4 876 7 = Xi T3 876 7 from w25.x _ _ rfl).trans ( (show Xi T3 876 7 = Xi U2 876 7 from w13.x _ _ rfl).trans ( (show Xi U2 876 7 = Xi U1 876 7 from by rw [eU2]; exact Xi_ne (by omega)).trans ((show Xi U1 876 7 = Xi S 876 7 from by rw [eU1]; exact Xi_ne (by omega)))))))))
              have w77 : Xi T8 890 2 = Xi U1 890 2 := (show Xi T8 890 2 = Xi T7 890 2 from w73.x _ _ rfl).trans ( (show Xi T7 890 2 = Xi T6 890 2 from w61.x _ _ rfl).trans ( (show Xi T6 890 2 = Xi T5 890 2 from w49.x _ _ rfl).trans ( (show Xi T5 890 2 = Xi T4 890 2 from w37.x _ _ rfl).trans ( (show Xi T4 890 2 = Xi T3 890 2 from w25.x _ _ rfl).trans ( (show Xi T3 890 2 = Xi U2 890 2 from w13.x _ _ rfl).trans ((show Xi U2 890 2 = Xi U1 890 2 from by rw [eU2]; exact Xi_ne (by omega))))))))
              have w78 : Xi T8 890 3 = Xi S 890 3 := (show Xi T8 890 3 = Xi T7 890 3 from w73.x _ _ rfl).trans ( (show Xi T7 890 3 = Xi T6 890 3 from w61.x _ _ rfl).trans ( (show Xi T6 890 3 = Xi T5 890 3 from w49.x _ _ rfl).trans ( (show Xi T5 890 3 = Xi T4 890 3 from w37.x _ _ rfl).trans ( (show Xi T4 890 3 = Xi T3 890 3 from w25.x _ _ rfl).trans ( (show Xi T3 890 3 = Xi U2 890 3 from w13.x _ _ rfl).trans ( (show Xi U2 890 3 = Xi U1 890 3 from by rw [eU2]; exact Xi_ne (by omega)).trans ((show Xi U1 890 3 = Xi S 890 3 from by rw [eU1]; exact Xi_ne (by omega)))))))))
              exact ⟨hHT8, hFT8, _, rfl, ⟨by omega, by omega⟩, (by  first | (have t := k25; rw [ckO_7 k25]; simp only [gS_1, gS_0, o_1, o_0, i10, i00, n10, n00, if_true, if_false, gp39, gp46, gp55, gp63, gp70, gp79]) | (have t := k125; rw [ckO_8 k125]; simp only [gS_1, gS_0, o_1, o_0, i10, i00, n10, n00, if_true, if_false, gp39, gp46, gp55, gp63, gp70, gp79]) | (have t := k260; rw [ckO_b n260.o m260.o k260]; exact gp261) | (have t := k265; rw [ckO_17 n265.o m265.o k265]; simp only [gS_1, gS_0, o_1, o_0, i10, i00, n10, n00, if_true, if_false, gp39, gp46, gp55, gp63, gp70, gp79]) | (have t := k332; rw [ckO_18 n332.o m332.o k332]; simp only [gS_1, gS_0, o_1, o_0, i10, i00, n10, n00, if_true, if_false, gp39, gp46, gp55, gp63, gp70, gp79]) | (have t := k401; rw [ckO_19 n401.o m401.o k401]; simp only [gS_1, gS_0, o_1, o_0, i10, i00, n10, n00, if_true, if_false, gp39, gp46, gp55, gp63, gp70, gp79]) | (have t := k475; rw [ckO_20 n475.o m475.o k475.o]; simp only [gS_1, gS_0, o_1, o_0, i10, i00, n10, n00, if_true, if_false, gp39, gp46, gp55, gp63, gp70, gp79])), (by omega), (by first | (have t := k25; exact (fun _ => ots_7 k25 (by omega))) | (have t := k125; exact (fun _ => ots_8 k125 (by omega))) | (have t := k260; exact (fun q => ots_b n260.o m260.o (by omega) k260 (s261.o q))) | (have t := k265; exact (fun _ => ots_s n265.o m265.o (by omega) (Or.inl ⟨k265, by omega⟩))) | (have t := k332; exact (fun _ => ots_s n332.o m332.o (by omega) (Or.inr (Or.inl ⟨k332, by omega⟩)))) | (have t := k401; exact (fun _ => ots_s n401.o m401.o (by omega) (Or.inr (Or.inr ⟨k401, by omega⟩)))) | (have t := k475; exact (fun _ => ots_20 n475.o m475.o (by omega) k475.o (by omega))))⟩
            · rw [show z72 = 1 by omega] at gp79
              refine y_aload_n rfl rfl ?_
              refine y_bipush rfl rfl ?_
              have w79 : Xi T8 876 7 = Xi S 876 7 := (show Xi T8 876 7 = Xi T7 876 7 from w73.x _ _ rfl).trans ( (show Xi T7 876 7 = Xi T6 876 7 from w61.x _ _ rfl).trans ( (show Xi T6 876 7 = Xi T5 876 7 from w49.x _ _ rfl).trans ( (show Xi T5 876 7 = Xi T4 876 7 from w37.x _ _ rfl).trans ( (show Xi T4 876 7 = Xi T3 876 7 from w25.x _ _ rfl).trans ( (show Xi T3 876 7 = Xi U2 876 7 from w13.x _ _ rfl).trans ( (show Xi U2 876 7 = Xi U1 876 7 from by rw [eU2]; exact Xi_ne (by omega)).trans ((show Xi U1 876 7 = Xi S 876 7 from by rw [eU1]; exact Xi_ne (by omega)))))))))
              refine y_callV rfl rfl rfl (t_gr_take__p hHT8 103 ⟨by omega, by omega⟩ (by first | assumption | exact (NFR_FR hFT8 rfl rfl (by assumption : NFR S))) (by first | assumption | omega) (by first | assumption | omega) _) ?_
              rintro _ T9 ⟨hHT9, w85, z84, rfl, w84, w82, w83⟩
              have hFT9 : FR md_gr_checkOthers__p S T9 := FR.tr hFT8 w85 rfl
              show Pl _ _ _ _ _ _ [iv z84] _ _
              have gp88 := w82
              rw [FRT hFT8 rfl rfl] at gp88
              clear w82
              refine y_if_eq rfl rfl (by unfold rg; omega) (fun w86 => ?_) (fun w87 => ?_)
              · rw [show z84 = 0 by omega] at gp88
                refine y_iconst rfl ?_
                refine y_ireturn rfl rfl ?_
                have w88 : Xi T9 876 7 = Xi S 876 7 := (show Xi T9 876 7 = Xi T8 876 7 from w85.x _ _ rfl).trans ( (show Xi T8 876 7 = Xi T7 876 7 from w73.x _ _ rfl).trans ( (show Xi T7 876 7 = Xi T6 876 7 from w61.x _ _ rfl).trans ( (show Xi T6 876 7 = Xi T5 876 7 from w49.x _ _ rfl).trans ( (show Xi T5 876 7 = Xi T4 876 7 from w37.x _ _ rfl).trans ( (show Xi T4 876 7 = Xi T3 876 7 from w25.x _ _ rfl).trans ( (show Xi T3 876 7 = Xi U2 876 7 from w13.x _ _ rfl).trans ( (show Xi U2 876 7 = Xi U1 876 7 from by rw [eU2]; exact Xi_ne (by omega)).trans ((show Xi U1 876 7 = Xi S 876 7 from by rw [eU1]; exact Xi_ne (by omega))))))))))
                have w89 : Xi T9 890 2 = Xi U1 890 2 := (show Xi T9 890 2 = Xi T8 890 2 from w85.x _ _ rfl).trans ( (show Xi T8 890 2 = Xi T7 890 2 from w73.x _ _ rfl).trans ( (show Xi T7 890 2 = Xi T6 890 2 from w61.x _ _ rfl).trans ( (show Xi T6 890 2 = Xi T5 890 2 from w49.x _ _ rfl).trans ( (show Xi T5 890 2 = Xi T4 890 2 from w37.x _ _ rfl).trans ( (show Xi T4 890 2 = Xi T3 890 2 from w25.x _ _ rfl).trans ( (show Xi T3 890 2 = Xi U2 890 2 from w13.x _ _ rfl).trans ((show Xi U2 890 2 = Xi U1 890 2 from by rw [eU2]; exact Xi_ne (by omega)))))))))
                have w90 : Xi T9 890 3 = Xi S 890 3 := (show Xi T9 890 3 = Xi T8 890 3 from w85.x _ _ rfl).trans ( (show Xi T8 890 3 = Xi T7 890 3 from w73.x _ _ rfl).trans ( (show Xi T7 890 3 = Xi T6 890 3 from w61.x _ _ rfl).trans ( (show Xi T6 890 3 = Xi T5 890 3 from w49.x _ _ rfl).trans ( (show Xi T5 890 3 = Xi T4 890 3 from w37.x _ _ rfl).trans ( (show Xi T4 890 3 = Xi T3 890 3 from w25.x _ _ rfl).trans ( (show Xi T3 890 3 = Xi U2 890 3 from w13.x _ _ rfl).trans ( (show Xi U2 890 3 = Xi U1 890 3 from by rw [eU2]; exact Xi_ne (by omega)).trans ((show Xi U1 890 3 = Xi S 890 3 from by rw [eU1]; exact Xi_ne (by omega))))))))))
                exact ⟨hHT9, hFT9, _, rfl, ⟨by omega, by omega⟩, (by  first | (have t := k25; rw [ckO_7 k25]; simp only [gS_1, gS_0, o_1, o_0, i10, i00, n10, n00, if_true, if_false, gp39, gp46, gp55, gp63, gp70, gp79, gp88]) | (have t := k125; rw [ckO_8 k125]; simp only [gS_1, gS_0, o_1, o_0, i10, i00, n10, n00, if_true, if_false, gp39, gp46, gp55, gp63, gp70, gp79, gp88]) | (have t := k260; rw [ckO_b n260.o m260.o k260]; exact gp261) | (have t := k265; rw [ckO_17 n265.o m265.o k265]; simp only [gS_1, gS_0, o_1, o_0, i10, i00, n10, n00, if_true, if_false, gp39, gp46, gp55, gp63, gp70, gp79, gp88]) | (have t := k332; rw [ckO_18 n332.o m332.o k332]; simp only [gS_1, gS_0, o_1, o_0, i10, i00, n10, n00, if_true, if_false, gp39, gp46, gp55, gp63, gp70, gp79, gp88]) | (have t := k401; rw [ckO_19 n401.o m401.o k401]; simp only [gS_1, gS_0, o_1, o_0, i10, i00, n10, n00, if_true, if_false, gp39, gp46, gp55, gp63, gp70, gp79, gp88]) | (have t := k475; rw [ckO_20 n475.o m475.o k475.o]; simp only [gS_1, gS_0, o_1, o_0, i10, i00, n10, n00, if_true, if_false, gp39, gp46, gp55, gp63, gp70, gp79, gp88])), (by omega), (by first | (have t := k25; exact (fun _ => ots_7 k25 (by omega))) | (have t := k125; exact (fun _ => ots_8 k125 (by omega))) | (have t := k260; exact (fun q => ots_b n260.o m260.o (by omega) k260 (s261.o q))) | (have t := k265; exact (fun _ => ots_s n265.o m265.o (by omega) (Or.inl ⟨k265, by omega⟩))) | (have t := k332; exact (fun _ => ots_s n332.o m332.o (by omega) (Or.inr (Or.inl ⟨k332, by omega⟩)))) | (have t := k401; exact (fun _ => ots_s n401.o m401.o (by omega) (Or.inr (Or.inr ⟨k401, by omega⟩)))) | (have t := k475; exact (fun _ => ots_20 n475.o m475.o (by omega) k475.o (by omega))))⟩
              · rw [show z84 = 1 by omega] at gp88
                refine y_iconst rfl ?_
                refine y_goto rfl rfl ?_
                refine y_ireturn rfl rfl ?_
                have w91 : Xi T9 876 7 = Xi S 876 7 := (show Xi T9 876 7 = Xi T8 876 7 from w85.x _ _ rfl).trans ( (show Xi T8 876 7 = Xi T7 876 7 from w73.x _ _ rfl).trans ( (show Xi T7 876 7 = Xi T6 876 7 from w61.x _ _ rfl).trans ( (show Xi T6 876 7 = Xi T5 876 7 from w49.x _ _ rfl).trans ( (show Xi T5 876 7 = Xi T4 876 7 from w37.x _ _ rfl).trans ( (show Xi T4 876 7 = Xi T3 876 7 from w25.x _ _ rfl).trans ( (show Xi T3 876 7 = Xi U2 876 7 from w13.x _ _ rfl).trans ( (show Xi U2 876 7 = Xi U1 876 7 from by rw [eU2]; exact Xi_ne (by omega)).trans ((show Xi U1 876 7 = Xi S 876 7 from by rw [eU1]; exact Xi_ne (by omega))))))))))
                have w92 : Xi T9 890 2 = Xi U1 890 2 := (show Xi T9 890 2 = Xi T8 890 2 from w85.x _ _ rfl).trans ( (show Xi T8 890 2 = Xi T7 890 2 from w73.x _ _ rfl).trans ( (show Xi T7 890 2 = Xi T6 890 2 from w61.x _ _ rfl).trans ( (show Xi T6 890 2 = Xi T5 890 2 from w49.x _ _ rfl).trans ( (show Xi T5 890 2 = Xi T4 890 2 from w37.x _ _ rfl).trans ( (show Xi T4 890 2 = Xi T3 890 2 from w25.x _ _ rfl).trans ( (show Xi T3 890 2 = Xi U2 890 2 from w13.x _ _ rfl).trans ((show Xi U2 890 2 = Xi U1 890 2 from by rw [eU2]; exact Xi_ne (by omega)))))))))
                have w93 : Xi T9 890 3 = Xi S 890 3 := (show Xi T9 890 3 = Xi T8 890 3 from w85.x _ _ rfl).trans ( (show Xi T8 890 3 = Xi T7 890 3 from w73.x _ _ rfl).trans ( (show Xi T7 890 3 = Xi T6 890 3 from w61.x _ _ rfl).trans ( (show Xi T6 890 3 = Xi T5 890 3 from w49.x _ _ rfl).trans ( (show Xi T5 890 3 = Xi T4 890 3 from w37.x _ _ rfl).trans ( (show Xi T4 890 3 = Xi T3 890 3 from w25.x _ _ rfl).trans ( (show Xi T3 890 3 = Xi U2 890 3 from w13.x _ _ rfl).trans ( (show Xi U2 890 3 = Xi U1 890 3 from by rw [eU2]; exact Xi_ne (by omega)).trans ((show Xi U1 890 3 = Xi S 890 3 from by rw [eU1]; exact Xi_ne (by omega))))))))))
                exact ⟨hHT9, hFT9, _, rfl, ⟨by omega, by omega⟩, (by  first | (have t := k25; rw [ckO_7 k25]; simp only [gS_1, gS_0, o_1, o_0, i10, i00, n10, n00, if_true, if_false, gp39, gp46, gp55, gp63, gp70, gp79, gp88]) | (have t := k125; rw [ckO_8 k125]; simp only [gS_1, gS_0, o_1, o_0, i10, i00, n10, n00, if_true, if_false, gp39, gp46, gp55, gp63, gp70, gp79, gp88]) | (have t := k260; rw [ckO_b n260.o m260.o k260]; exact gp261) | (have t := k265; rw [ckO_17 n265.o m265.o k265]; simp only [gS_1, gS_0, o_1, o_0, i10, i00, n10, n00, if_true, if_false, gp39, gp46, gp55, gp63, gp70, gp79, gp88]) | (have t := k332; rw [ckO_18 n332.o m332.o k332]; simp only [gS_1, gS_0, o_1, o_0, i10, i00, n10, n00, if_true, if_false, gp39, gp46, gp55, gp63, gp70, gp79, gp88]) | (have t := k401; rw [ckO_19 n401.o m401.o k401]; simp only [gS_1, gS_0, o_1, o_0, i10, i00, n10, n00, if_true, if_false, gp39, gp46, gp55, gp63, gp70, gp79, gp88]) | (have t := k475; rw [ckO_20 n475.o m475.o k475.o]; simp only [gS_1, gS_0, o_1, o_0, i10, i00, n10, n00, if_true, if_false, gp39, gp46, gp55, gp63, gp70, gp79, gp88])), (by omega), (by first | (have t := k25; exact (fun _ => ots_7 k25 (by omega))) | (have t := k125; exact (fun _ => ots_8 k125 (by omega))) | (have t := k260; exact (fun q => ots_b n260.o m260.o (by omega) k260 (s261.o q))) | (have t := k265; exact (fun _ => ots_s n265.o m265.o (by omega) (Or.inl ⟨k265, by omega⟩))) | (have t := k332; exact (fun _ => ots_s n332.o m332.o (by omega) (Or.inr (Or.inl ⟨k332, by omega⟩)))) | (have t := k401; exact (fun _ => ots_s n401.o m401.o (by omega) (Or.inr (Or.inr ⟨k401, by omega⟩)))) | (have t := k475; exact (fun _ => ots_20 n475.o m475.o (by omega) k475.o (by omega))))⟩
set_option maxRecDepth 100000 in
theorem c125_gr_checkOthers__p {S : sS} (hH : RI S) (hfr : NFR S) (hr : Xi S 876 7 ≤ 5130) (hls : LST S) (h1 : 1 ≤ Xi S 876 7) (d : Nat) (fu : Nat) : (ty7 S 0 = 2 ∧ ty7 S 1 = 19) → Pl fu lay0 (d + 5) m_gr_checkOthers 125 [(0, .ref 890)] [] S (Q_gr_checkOthers__p S) := by
  have hF : FR md_gr_checkOthers__p S S := FR.rf
  have w1 : -2147483648 ≤ Xi S 876 7 ∧ Xi S 876 7 ≤ 2147483647 := Xi_rgI
  have w2 : -2147483648 ≤ Xi S 890 1 ∧ Xi S 890 1 ≤ 2147483647 := Xi_rgI
  have w3 : -2147483648 ≤ Xi S 890 2 ∧ Xi S 890 2 ≤ 2147483647 := Xi_rgI
  have w4 : -2147483648 ≤ Xi S 890 3 ∧ Xi S 890 3 ≤ 2147483647 := Xi_rgI
  intro k125
  refine y_aload_n rfl rfl ?_
  refine y_bipush rfl rfl ?_
  refine y_pfi rfl rfl rfl rfl ?_
  obtain ⟨U10, eU10⟩ : ∃ T : sS, T = uI S 890 2 (Int32.ofInt 8) := ⟨_, rfl⟩
  rw [← eU10]
  have hHU10 : RI U10 := by rw [eU10]; exact RI_w hH
  have hFU10 : FR md_gr_checkOthers__p S U10 := by rw [eU10]; exact FR.wI hF (mdf_i (r := (890, 891, 2, 3)) (List.mem_of_getElem? (i := 1) rfl) (inR_i (by omega) (by omega) (by omega) (by omega)))
  have w94 : Xi U10 890 2 = 8 := by rw [eU10]; exact Xi_same (by unfold rg; omega)
  refine y_aload_n rfl rfl ?_
  refine y_iconst rfl ?_
  refine y_pfi rfl rfl rfl rfl ?_
  obtain ⟨U11, eU11⟩ : ∃ T : sS, T = uI U10 890 1 (Int32.ofInt 2) := ⟨_, rfl⟩
  rw [← eU11]
  have hHU11 : RI U11 := by rw [eU11]; exact RI_w hHU10
  have hFU11 : FR md_gr_checkOthers__p S U11 := by rw [eU11]; exact FR.wI hFU10 (mdf_i (r := (890, 891, 1, 2)) (List.mem_of_getElem? (i := 0) rfl) (inR_i (by omega) (by omega) (by omega) (by omega)))
  have w95 : Xi U11 890 1 = 2 := by rw [eU11]; exact Xi_same (by unfold rg; omega)
  have x133 : Xi U11 890 1 ≤ Xi S 876 7 := by have t := ty_lt k125.2 (by decide); omega
  refine y_aload_n rfl rfl ?_
  refine y_bipush rfl rfl ?_
  have w96 : Xi U11 876 7 = Xi S 876 7 := (show Xi U11 876 7 = Xi U10 876 7 from by rw [eU11]; exact Xi_ne (by omega)).trans ((show Xi U10 876 7 = Xi S 876 7 from by rw [eU10]; exact Xi_ne (by omega)))
  refine y_callV rfl rfl rfl (t_gr_take__p hHU11 7 ⟨by omega, by omega⟩ (by first | assumption | exact (NFR_FR hFU11 rfl rfl (by assumption : NFR S))) (by first | assumption | omega) (by first | assumption | omega) _) ?_
  rintro _ T12 ⟨hHT12, w102, z101, rfl, w101, w99, w100⟩
  have hFT12 : FR md_gr_checkOthers__p S T12 := FR.tr hFU11 w102 rfl
  show Pl _ _ _ _ _ _ [iv z101] _ _
  have gp139 := w99
  rw [FRT hFU11 rfl rfl] at gp139
  try rw [show Xi U11 890 1 = 2 by omega] at gp139
  clear w99
  refine y_if_eq rfl rfl (by unfold rg; omega) (fun w103 => ?_) (fun w104 => ?_)
  · rw [show z101 = 0 by omega] at gp139
    refine y_iconst rfl ?_
    refine y_ireturn rfl rfl ?_
    have w105 : Xi T12 876 7 = Xi S 876 7 := (show Xi T12 876 7 = Xi U11 876 7 from w102.x _ _ rfl).trans ( (show Xi U11 876 7 = Xi U10 876 7 from by rw [eU11]; exact Xi_ne (by omega)).trans ((show Xi U10 876 7 = Xi S 876 7 from by rw [eU10]; exact Xi_ne (by omega))))
    have w106 : Xi T12 890 2 = Xi U10 890 2 := (show Xi T12 890 2 = Xi U11 890 2 from w102.x _ _ rfl).trans ((show Xi U11 890 2 = Xi U10 890 2 from by rw [eU11]; exact Xi_ne (by omega)))
    have w107 : Xi T12 890 3 = Xi S 890 3 := (show Xi T12 890 3 = Xi U11 890 3 from w102.x _ _ rfl).trans ( (show Xi U11 890 3 = Xi U10 890 3 from by rw [eU11]; exact Xi_ne (by omega)).trans ((show Xi U10 890 3 = Xi S 890 3 from by rw [eU10]; exact Xi_ne (by omega))))
    exact ⟨hHT12, hFT12, _, rfl, ⟨by omega, by omega⟩, (by  first | (have t := k25; rw [ckO_7 k25]; simp only [gS_1, gS_0, o_1, o_0, i10, i00, n10, n00, if_true, if_false, gp139]) | (have t := k125; rw [ckO_8 k125]; simp only [gS_1, gS_0, o_1, o_0, i10, i00, n10, n00, if_true, if_false, gp139]) | (have t := k260; rw [ckO_b n260.o m260.o k260]; exact gp261) | (have t := k265; rw [ckO_17 n265.o m265.o k265]; simp only [gS_1, gS_0, o_1, o_0, i10, i00, n10, n00, if_true, if_false, gp139]) | (have t := k332; rw [ckO_18 n332.o m332.o k332]; simp only [gS_1, gS_0, o_1, o_0, i10, i00, n10, n00, if_true, if_false, gp139]) | (have t := k401; rw [ckO_19 n401.o m401.o k401]; simp only [gS_1, gS_0, o_1, o_0, i10, i00, n10, n00, if_true, if_false, gp139]) | (have t := k475; rw [ckO_20 n475.o m475.o k475.o]; simp only [gS_1, gS_0, o_1, o_0, i10, i00, n10, n00, if_true, if_false, gp139])), (by omega), (by first | (have t := k25; exact (fun _ => ots_7 k25 (by omega))) | (have t := k125; exact (fun _ => ots_8 k125 (by omega))) | (have t := k260; exact (fun q => ots_b n260.o m260.o (by omega) k260 (s261.o q))) | (have t := k265; exact (fun _ => ots_s n265.o m265.o (by omega) (Or.inl ⟨k265, by omega⟩))) | (have t := k332; exact (fun _ => ots_s n332.o m332.o (by omega) (Or.inr (Or.inl ⟨k332, by omega⟩)))) | (have t := k401; exact (fun _ => ots_s n401.o m401.o (by omega) (Or.inr (Or.inr ⟨k401, by omega⟩)))) | (have t := k475; exact (fun _ => ots_20 n475.o m475.o (by omega) k475.o (by omega))))⟩
  · rw [show z101 = 1 by omega] at gp139
    refine y_aload_n rfl rfl ?_
    have w108 : Xi T12 876 7 = Xi S 876 7 := (show Xi T12 876 7 = Xi U11 876 7 from w102.x _ _ rfl).trans ( (show Xi U11 876 7 = Xi U10 876 7 from by rw [eU11]; exact Xi_ne (by omega)).trans ((show Xi U10 876 7 = Xi S 876 7 from by rw [eU10]; exact Xi_ne (by omega))))
    refine y_callV rfl rfl rfl (t_gr_takeName__p hHT12 (by first | assumption | exact (NFR_FR hFT12 rfl rfl (by assumption : NFR S))) (by first | assumption | omega) (by first | assumption | omega) _) ?_
    rintro _ T13 ⟨hHT13, w114, z113, rfl, w113, w111, w112⟩
    have hFT13 : FR md_gr_checkOthers__p S T13 := FR.tr hFT12 w114 rfl
    show Pl _ _ _ _ _ _ [iv z113] _ _
    have gp146 := w111
    rw [FRT hFT12 rfl rfl] at gp146
    clear w111
    refine y_if_eq rfl rfl (by unfold rg; omega) (fun w115 => ?_) (fun w116 => ?_)
    · rw [show z113 = 0 by omega] at gp146
      refine y_iconst rfl ?_
      refine y_ireturn rfl rfl ?_
      have w117 : Xi T13 876 7 = Xi S 876 7 := (show Xi T13 876 7 = Xi T12 876 7 from w114.x _ _ rfl).trans ( (show Xi T12 876 7 = Xi U11 876 7 from w102.x _ _ rfl).trans ( (show Xi U11 876 7 = Xi U10 876 7 from by rw [eU11]; exact Xi_ne (by omega)).trans ((show Xi U10 876 7 = Xi S 876 7 from by rw [eU10]; exact Xi_ne (by omega)))))
      have w118 : Xi T13 890 2 = Xi U10 890 2 := (show Xi T13 890 2 = Xi T12 890 2 from w114.x _ _ rfl).trans ( (show Xi T12 890 2 = Xi U11 890 2 from w102.x _ _ rfl).trans ((show Xi U11 890 2 = Xi U10 890 2 from by rw [eU11]; exact Xi_ne (by omega))))
      have w119 : Xi T13 890 3 = Xi S 890 3 := (show Xi T13 890 3 = Xi T12 890 3 from w114.x _ _ rfl).trans ( (show Xi T12 890 3 = Xi U11 890 3 from w102.x _ _ rfl).trans ( (show Xi U11 890 3 = Xi U10 890 3 from by rw [eU11]; exact Xi_ne (by omega)).trans ((show Xi U10 890 3 = Xi S 890 3 from by rw [eU10]; exact Xi_ne (by omega)))))
      exact ⟨hHT13, hFT13, _, rfl, ⟨by omega, by omega⟩, (by  first | (have t := k25; rw [ckO_7 k25]; simp only [gS_1, gS_0, o_1, o_0, i10, i00, n10, n00, if_true, if_false, gp139, gp146]) | (have t := k125; rw [ckO_8 k125]; simp only [gS_1, gS_0, o_1, o_0, i10, i00, n10, n00, if_true, if_false, gp139, gp146]) | (have t := k260; rw [ckO_b n260.o m260.o k260]; exact gp261) | (have t := k265; rw [ckO_17 n265.o m265.o k265]; simp only [gS_1, gS_0, o_1, o_0, i10, i00, n10, n00, if_true, if_false, gp139, gp146]) | (have t := k332; rw [ckO_18 n332.o m332.o k332]; simp only [gS_1, gS_0, o_1, o_0, i10, i00, n10, n00, if_true, if_false, gp139, gp146]) | (have t := k401; rw [ckO_19 n401.o m401.o k401]; simp only [gS_1, gS_0, o_1, o_0, i10, i00, n10, n00, if_true, if_false, gp139, gp146]) | (have t := k475; rw [ckO_20 n475.o m475.o k475.o]; simp only [gS_1, gS_0, o_1, o_0, i10, i00, n10, n00, if_true, if_false, gp139, gp146])), (by omega), (by first | (have t := k25; exact (fun _ => ots_7 k25 (by omega))) | (have t := k125; exact (fun _ => ots_8 k125 (by omega))) | (have t := k260; exact (fun q => ots_b n260.o m260.o (by omega) k260 (s261.o q))) | (have t := k265; exact (fun _ => ots_s n265.o m265.o (by omega) (Or.inl ⟨k265, by omega⟩))) | (have t := k332; exact (fun _ => ots_s n332.o m332.o (by omega) (Or.inr (Or.inl ⟨k332, by omega⟩)))) | (have t := k401; exact (fun _ => ots_s n401.o m401.o (by omega) (Or.inr (Or.inr ⟨k401, by omega⟩)))) | (have t := k475; exact (fun _ => ots_20 n475.o m475.o (by omega) k475.o (by omega))))⟩
    · rw [show z113 = 1 by omega] at gp146
      refine y_aload_n rfl rfl ?_
      have w120 : Xi T13 876 7 = Xi S 876 7 := (show Xi T13 876 7 = Xi T12 876 7 from w114.x _ _ rfl).trans ( (show Xi T12 876 7 = Xi U11 876 7 from w102.x _ _ rfl).trans ( (show Xi U11 876 7 = Xi U10 876 7 from by rw [eU11]; exact Xi_ne (by omega)).trans ((show Xi U10 876 7 = Xi S 876 7 from by rw [eU10]; exact Xi_ne (by omega)))))
      refine y_callV rfl rfl rfl (t_gr_takeBe__p hHT13 (by first | assumption | exact (NFR_FR hFT13 rfl rfl (by assumption : NFR S))) (by first | assumption | omega) (by first | assumption | omega) _) ?_
      rintro _ T14 ⟨hHT14, w126, z125, rfl, w125, w123, w124⟩
      have hFT14 : FR md_gr_checkOthers__p S T14 := FR.tr hFT13 w126 rfl
      show Pl _ _ _ _ _ _ [iv z125] _ _
      have gp153 := w123
      rw [FRT hFT13 rfl rfl] at gp153
      clear w123
      refine y_if_eq rfl rfl (by unfold rg; omega) (fun w127 => ?_) (fun w128 => ?_)
      · rw [show z125 = 0 by omega] at gp153
        refine y_iconst rfl ?_
        refine y_ireturn rfl rfl ?_
        have w129 : Xi T14 876 7 = Xi S 876 7 := (show Xi T14 876 7 = Xi T13 876 7 from w126.x _ _ rfl).trans ( (show Xi T13 876 7 = Xi T12 876 7 from w114.x _ _ rfl).trans ( (show Xi T12 876 7 = Xi U11 876 7 from w102.x _ _ rfl).trans ( (show Xi U11 876 7 = Xi U10 876 7 from by rw [eU11]; exact Xi_ne (by omega)).trans ((show Xi U10 876 7 = Xi S 876 7 from by rw [eU10]; exact Xi_ne (by omega))))))
        have w130 : Xi T14 890 2 = Xi U10 890 2 := (show Xi T14 890 2 = Xi T13 890 2 from w126.x _ _ rfl).trans ( (show Xi T13 890 2 = Xi T12 890 2 from w114.x _ _ rfl).trans ( (show Xi T12 890 2 = Xi U11 890 2 from w102.x _ _ rfl).trans ((show Xi U11 890 2 = Xi U10 890 2 from by rw [eU11]; exact Xi_ne (by omega)))))
        have w131 : Xi T14 890 3 = Xi S 890 3 := (show Xi T14 890 3 = Xi T13 890 3 from w126.x _ _ rfl).trans ( (show Xi T13 890 3 = Xi T12 890 3 from w114.x _ _ rfl).trans ( (show Xi T12 890 3 = Xi U11 890 3 from w102.x _ _ rfl).trans ( (show Xi U11 890 3 = Xi U10 890 3 from by rw [eU11]; exact Xi_ne (by omega)).trans ((show Xi U10 890 3 = Xi S 890 3 from by rw [eU10]; exact Xi_ne (by omega))))))
        exact ⟨hHT14, hFT14, _, rfl, ⟨by omega, by omega⟩, (by  first | (have t := k25; rw [ckO_7 k25]; simp only [gS_1, gS_0, o_1, o_0, i10, i00, n10, n00, if_true, if_false, gp139, gp146, gp153]) | (have t := k125; rw [ckO_8 k125]; simp only [gS_1, gS_0, o_1, o_0, i10, i00, n10, n00, if_true, if_false, gp139, gp146, gp153]) | (have t := k260; rw [ckO_b n260.o m260.o k260]; exact gp261) | (have t := k265; rw [ckO_17 n265.o m265.o k265]; simp only [gS_1, gS_0, o_1, o_0, i10, i00, n10, n00, if_true, if_false, gp139, gp146, gp153]) | (have t := k332; rw [ckO_18 n332.o m332.o k332]; simp only [gS_1, gS_0, o_1, o_0, i10, i00, n10, n00, if_true, if_false, gp139, gp146, gp153]) | (have t := k401; rw [ckO_19 n401.o m401.o k401]; simp only [gS_1, gS_0, o_1, o_0, i10, i00, n10, n00, if_true, if_false, gp139, gp146, gp153]) | (have t := k475; rw [ckO_20 n475.o m475.o k475.o]; simp only [gS_1, gS_0, o_1, o_0, i10, i00, n10, n00, if_true, if_false, gp139, gp146, gp153])), (by omega), (by first | (have t := k25; exact (fun _ => ots_7 k25 (by omega))) | (have t := k125; exact (fun _ => ots_8 k125 (by omega))) | (have t := k260; exact (fun q => ots_b n260.o m260.o (by omega) k260 (s261.o q))) | (have t := k265; exact (fun _ => ots_s n265.o m265.o (by omega) (Or.inl ⟨k265, by omega⟩))) | (have t := k332; exact (fun _ => ots_s n332.o m332.o (by omega) (Or.inr (Or.inl ⟨k332, by omega⟩)))) | (have t := k401; exact (fun _ => ots_s n401.o m401.o (by omega) (Or.inr (Or.inr ⟨k401, by omega⟩)))) | (have t := k475; exact (fun _ => ots_20 n475.o m475.o (by omega) k475.o (by omega))))⟩
      · rw [show z125 = 1 by omega] at gp153
        refine y_aload_n rfl rfl ?_
        have w132 : Xi T14 876 7 = Xi S 876 7 := (show Xi T14 876 7 = Xi T13 876 7 from w126.x _ _ rfl).trans ( (show Xi T13 876 7 = Xi T12 876 7 from w114.x _ _ rfl).trans ( (show Xi T12 876 7 = Xi U11 876 7 from w102.x _ _ rfl).trans ( (show Xi U11 876 7 = Xi U10 876 7 from by rw [eU11]; exact Xi_ne (by omega)).trans ((show Xi U10 876 7 = Xi S 876 7 from by rw [eU10]; exact Xi_ne (by omega))))))
        refine y_callV rfl rfl rfl (t_gr_takeRun__p hHT14 (by first | assumption | exact (NFR_FR hFT14 rfl rfl (by assumption : NFR S))) (by first | assumption | omega) (by first | assumption | omega) _) ?_
        rintro _ T15 ⟨hHT15, w138, z137, rfl, w137, w135, w136⟩
        have hFT15 : FR md_gr_checkOthers__p S T15 := FR.tr hFT14 w138 rfl
        show Pl _ _ _ _ _ _ [iv z137] _ _
        have gp160 := w135
        rw [FRT hFT14 rfl rfl] at gp160
        clear w135
        refine y_if_eq rfl rfl (by unfold rg; omega) (fun w139 => ?_) (fun w140 => ?_)
        · rw [show z137 = 0 by omega] at gp160
          refine y_iconst rfl ?_
          refine y_ireturn rfl rfl ?_
          have w141 : Xi T15 876 7 = Xi S 876 7 := (show Xi T15 876 7 = Xi T14 876 7 from w138.x _ _ rfl).trans ( (show Xi T14 876 7 = Xi T13 876 7 from w126.x _ _ rfl).trans ( (show Xi T13 876 7 = Xi T12 876 7 from w114.x _ _ rfl).trans ( (show Xi T12 876 7 = Xi U11 876 7 from w102.x _ _ rfl).trans ( (show Xi U11 876 7 = Xi U10 876 7 from by rw [eU11]; exact Xi_ne (by omega)).trans ((show Xi U10 876 7 = Xi S 876 7 from by rw [eU10]; exact Xi_ne (by omega)))))))
          have w142 : Xi T15 890 2 = Xi U10 890 2 := (show Xi T15 890 2 = Xi T14 890 2 from w138.x _ _ rfl).trans ( (show Xi T14 890 2 = Xi T13 890 2 from w126.x _ _ rfl).trans ( (show Xi T13 890 2 = Xi T12 890 2 from w114.x _ _ rfl).trans ( (show Xi T12 890 2 = Xi U11 890 2 from w102.x _ _ rfl).trans ((show Xi U11 890 2 = Xi U10 890 2 from by rw [eU11]; exact Xi_ne (by omega))))))
          have w143 : Xi T15 890 3 = Xi S 890 3 := (show Xi T15 890 3 = Xi T14 890 3 from w138.x _ _ rfl).trans ( (show Xi T14 890 3 = Xi T13 890 3 from w126.x _ _ rfl).trans ( (show Xi T13 890 3 = Xi T12 890 3 from w114.x _ _ rfl).trans ( (show Xi T12 890 3 = Xi U11 890 3 from w102.x _ _ rfl).trans ( (show Xi U11 890 3 = Xi U10 890 3 from by rw [eU11]; exact Xi_ne (by omega)).trans ((show Xi U10 890 3 = Xi S 890 3 from by rw [eU10]; exact Xi_ne (by omega)))))))
          exact ⟨hHT15, hFT15, _, rfl, ⟨by omega, by omega⟩, (by  first | (have t := k25; rw [ckO_7 k25]; simp only [gS_1, gS_0, o_1, o_0, i10, i00, n10, n00, if_true, if_false, gp139, gp146, gp153, gp160]) | (have t := k125; rw [ckO_8 k125]; simp only [gS_1, gS_0, o_1, o_0, i10, i00, n10, n00, if_true, if_false, gp139, gp146, gp153, gp160]) | (have t := k260; rw [ckO_b n260.o m260.o k260]; exact gp261) | (have t := k265; rw [ckO_17 n265.o m265.o k265]; simp only [gS_1, gS_0, o_1, o_0, i10, i00, n10, n00, if_true, if_false, gp139, gp146, gp153, gp160]) | (have t := k332; rw [ckO_18 n332.o m332.o k332]; simp only [gS_1, gS_0, o_1, o_0, i10, i00, n10, n00, if_true, if_false, gp139, gp146, gp153, gp160]) | (have t := k401; rw [ckO_19 n401.o m401.o k401]; simp only [gS_1, gS_0, o_1, o_0, i10, i00, n10, n00, if_true, if_false, gp139, gp146, gp153, gp160]) | (have t := k475; rw [ckO_20 n475.o m475.o k475.o]; simp only [gS_1, gS_0, o_1, o_0, i10, i00, n10, n00, if_true, if_false, gp139, gp146, gp153, gp160])), (by omega), (by first | (have t := k25; exact (fun _ => ots_7 k25 (by omega))) | (have t := k125; exact (fun _ => ots_8 k125 (by omega))) | (have t := k260; exact (fun q => ots_b n260.o m260.o (by omega) k260 (s261.o q))) | (have t := k265; exact (fun _ => ots_s n265.o m265.o (by omega) (Or.inl ⟨k265, by omega⟩))) | (have t := k332; exact (fun _ => ots_s n332.o m332.o (by omega) (Or.inr (Or.inl ⟨k332, by omega⟩)))) | (have t := k401; exact (fun _ => ots_s n401.o m401.o (by omega) (Or.inr (Or.inr ⟨k401, by omega⟩)))) | (have t := k475; exact (fun _ => ots_20 n475.o m475.o (by omega) k475.o (by omega))))⟩
        · rw [show z137 = 1 by omega] at gp160
          refine y_aload_n rfl rfl ?_
          refine y_bipush rfl rfl ?_
          have w144 : Xi T15 876 7 = Xi S 876 7 := (show Xi T15 876 7 = Xi T14 876 7 from w138.x _ _ rfl).trans ( (show Xi T14 876 7 = Xi T13 876 7 from w126.x _ _ rfl).trans ( (show Xi T13 876 7 = Xi T12 876 7 from w114.x _ _ rfl).trans ( (show Xi T12 876 7 = Xi U11 876 7 from w102.x _ _ rfl).trans ( (show Xi U11 876 7 = Xi U10 876 7 from by rw [eU11]; exact Xi_ne (by omega)).trans ((show Xi U10 876 7 = Xi S 876 7 from by rw [eU10]; exact Xi_ne (by omega)))))))
          refine y_callV rfl rfl rfl (t_gr_take__p hHT15 103 ⟨by omega, by omega⟩ (by first | assumption | exact (NFR_FR hFT15 rfl rfl (by assumption : NFR S))) (by first | assumption | omega) (by first | assumption | omega) _) ?_
          rintro _ T16 ⟨hHT16, w150, z149, rfl, w149, w147, w148⟩
          have hFT16 : FR md_gr_checkOthers__p S T16 := FR.tr hFT15 w150 rfl
          show Pl _ _ _ _ _ _ [iv z149] _ _
          have gp169 := w147
          rw [FRT hFT15 rfl rfl] at gp169
          clear w147
          refine y_if_eq rfl rfl (by unfold rg; omega) (fun w151 => ?_) (fun w152 => ?_)
          · rw [show z149 = 0 by omega] at gp169
            refine y_iconst rfl ?_
            refine y_ireturn rfl rfl ?_
            have w153 : Xi T16 876 7 = Xi S 876 7 := (show Xi T16 876 7 = Xi T15 876 7 from w150.x _ _ rfl).trans ( (show Xi T15 876 7 = Xi T14 876 7 from w138.x _ _ rfl).trans ( (show Xi T14 876 7 = Xi T13 876 7 from w126.x _ _ rfl).trans ( (show Xi T13 876 7 = Xi T12 876 7 from w114.x _ _ rfl).trans ( (show Xi T12 876 7 = Xi U11 876 7 from w102.x _ _ rfl).trans ( (show Xi U11 876 7 = Xi U10 876 7 from by rw [eU11]; exact Xi_ne (by omega)).trans ((show Xi U10 876 7 = Xi S 876 7 from by rw [eU10]; exact Xi_ne (by omega))))))))
            have w154 : Xi T16 890 2 = Xi U10 890 2 := (show Xi T16 890 2 = Xi T15 890 2 from w150.x _ _ rfl).trans ( (show Xi T15 890 2 = Xi T14 890 2 from w138.x _ _ rfl).trans ( (show Xi T14 890 2 = Xi T13 890 2 from w126.x _ _ rfl).trans ( (show Xi T13 890 2 = Xi T12 890 2 from w114.x _ _ rfl).trans ( (show Xi T12 890 2 = Xi U11 890 2 from w102.x _ _ rfl).trans ((show Xi U11 890 2 = Xi U10 890 2 from by rw [eU11]; exact Xi_ne (by omega)))))))
            have w155 : Xi T16 890 3 = Xi S 890 3 := (show Xi T16 890 3 = Xi T15 890 3 from w150.x _ _ rfl).trans ( (show Xi T15 890 3 = Xi T14 890 3 from w138.x _ _ rfl).trans ( (show Xi T14 890 3 = Xi T13 890 3 from w126.x _ _ rfl).trans ( (show Xi T13 890 3 = Xi T12 890 3 from w114.x _ _ rfl).trans ( (show Xi T12 890 3 = Xi U11 890 3 from w102.x _ _ rfl).trans ( (show Xi U11 890 3 = Xi U10 890 3 from by rw [eU11]; exact Xi_ne (by omega)).trans ((show Xi U10 890 3 = Xi S 890 3 from by rw [eU10]; exact Xi_ne (by omega))))))))
            exact ⟨hHT16, hFT16, _, rfl, ⟨by omega, by omega⟩, (by  first | (have t := k25; rw [ckO_7 k25]; simp only [gS_1, gS_0, o_1, o_0, i10, i00, n10, n00, if_true, if_false, gp139, gp146, gp153, gp160, gp169]) | (have t := k125; rw [ckO_8 k125]; simp only [gS_1, gS_0, o_1, o_0, i10, i00, n10, n00, if_true, if_false, gp139, gp146, gp153, gp160, gp169]) | (have t := k260; rw [ckO_b n260.o m260.o k260]; exact gp261) | (have t := k265; rw [ckO_17 n265.o m265.o k265]; simp only [gS_1, gS_0, o_1, o_0, i10, i00, n10, n00, if_true, if_false, gp139, gp146, gp153, gp160, gp169]) | (have t := k332; rw [ckO_18 n332.o m332.o k332]; simp only [gS_1, gS_0, o_1, o_0, i10, i00, n10, n00, if_true, if_false, gp139, gp146, gp153, gp160, gp169]) | (have t := k401; rw [ckO_19 n401.o m401.o k401]; simp only [gS_1, gS_0, o_1, o_0, i10, i00, n10, n00, if_true, if_false, gp139, gp146, gp153, gp160, gp169]) | (have t := k475; rw [ckO_20 n475.o m475.o k475.o]; simp only [gS_1, gS_0, o_1, o_0, i10, i00, n10, n00, if_true, if_false, gp139, gp146, gp153, gp160, gp169])), (by omega), (by first | (have t := k25; exact (fun _ => ots_7 k25 (by omega))) | (have t := k125; exact (fun _ => ots_8 k125 (by omega))) | (have t := k260; exact (fun q => ots_b n260.o m260.o (by omega) k260 (s261.o q))) | (have t := k265; exact (fun _ => ots_s n265.o m265.o (by omega) (Or.inl ⟨k265, by omega⟩))) | (have t := k332; exact (fun _ => ots_s n332.o m332.o (by omega) (Or.inr (Or.inl ⟨k332, by omega⟩)))) | (have t := k401; exact (fun _ => ots_s n401.o m401.o (by omega) (Or.inr (Or.inr ⟨k401, by omega⟩)))) | (have t := k475; exact (fun _ => ots_20 n475.o m475.o (by omega) k475.o (by omega))))⟩
          · rw [show z149 = 1 by omega] at gp169
            refine y_iconst rfl ?_
            refine y_goto rfl rfl ?_
            refine y_ireturn rfl rfl ?_
            have w156 : Xi T16 876 7 = Xi S 876 7 := (show Xi T16 876 7 = Xi T15 876 7 from w150.x _ _ rfl).trans ( (show Xi T15 876 7 = Xi T14 876 7 from w138.x _ _ rfl).trans ( (show Xi T14 876 7 = Xi T13 876 7 from w126.x _ _ rfl).trans ( (show Xi T13 876 7 = Xi T12 876 7 from w114.x _ _ rfl).trans ( (show Xi T12 876 7 = Xi U11 876 7 from w102.x _ _ rfl).trans ( (show Xi U11 876 7 = Xi U10 876 7 from by rw [eU11]; exact Xi_ne (by omega)).trans ((show Xi U10 876 7 = Xi S 876 7 from by rw [eU10]; exact Xi_ne (by omega))))))))
            have w157 : Xi T16 890 2 = Xi U10 890 2 := (show Xi T16 890 2 = Xi T15 890 2 from w150.x _ _ rfl).trans ( (show Xi T15 890 2 = Xi T14 890 2 from w138.x _ _ rfl).trans ( (show Xi T14 890 2 = Xi T13 890 2 from w126.x _ _ rfl).trans ( (show Xi T13 890 2 = Xi T12 890 2 from w114.x _ _ rfl).trans ( (show Xi T12 890 2 = Xi U11 890 2 from w102.x _ _ rfl).trans ((show Xi U11 890 2 = Xi U10 890 2 from by rw [eU11]; exact Xi_ne (by omega)))))))
            have w158 : Xi T16 890 3 = Xi S 890 3 := (show Xi T16 890 3 = Xi T15 890 3 from w150.x _ _ rfl).trans ( (show Xi T15 890 3 = Xi T14 890 3 from w138.x _ _ rfl).trans ( (show Xi T14 890 3 = Xi T13 890 3 from w126.x _ _ rfl).trans ( (show Xi T13 890 3 = Xi T12 890 3 from w114.x _ _ rfl).trans ( (show Xi T12 890 3 = Xi U11 890 3 from w102.x _ _ rfl).trans ( (show Xi U11 890 3 = Xi U10 890 3 from by rw [eU11]; exact Xi_ne (by omega)).trans ((show Xi U10 890 3 = Xi S 890 3 from by rw [eU10]; exact Xi_ne (by omega))))))))
            exact ⟨hHT16, hFT16, _, rfl, ⟨by omega, by omega⟩, (by  first | (have t := k25; rw [ckO_7 k25]; simp only [gS_1, gS_0, o_1, o_0, i10, i00, n10, n00, if_true, if_false, gp139, gp146, gp153, gp160, gp169]) | (have t := k125; rw [ckO_8 k125]; simp only [gS_1, gS_0, o_1, o_0, i10, i00, n10, n00, if_true, if_false, gp139, gp146, gp153, gp160, gp169]) | (have t := k260; rw [ckO_b n260.o m260.o k260]; exact gp261) | (have t := k265; rw [ckO_17 n265.o m265.o k265]; simp only [gS_1, gS_0, o_1, o_0, i10, i00, n10, n00, if_true, if_false, gp139, gp146, gp153, gp160, gp169]) | (have t := k332; rw [ckO_18 n332.o m332.o k332]; simp only [gS_1, gS_0, o_1, o_0, i10, i00, n10, n00, if_true, if_false, gp139, gp146, gp153, gp160, gp169]) | (have t := k401; rw [ckO_19 n401.o m401.o k401]; simp only [gS_1, gS_0, o_1, o_0, i10, i00, n10, n00, if_true, if_false, gp139, gp146, gp153, gp160, gp169]) | (have t := k475; rw [ckO_20 n475.o m475.o k475.o]; simp only [gS_1, gS_0, o_1, o_0, i10, i00, n10, n00, if_true, if_false, gp139, gp146, gp153, gp160, gp169])), (by omega), (by first | (have t := k25; exact (fun _ => ots_7 k25 (by omega))) | (have t := k125; exact (fun _ => ots_8 k125 (by omega))) | (have t := k260; exact (fun q => ots_b n260.o m260.o (by omega) k260 (s261.o q))) | (have t := k265; exact (fun _ => ots_s n265.o m265.o (by omega) (Or.inl ⟨k265, by omega⟩))) | (have t := k332; exact (fun _ => ots_s n332.o m332.o (by omega) (Or.inr (Or.inl ⟨k332, by omega⟩)))) | (have t := k401; exact (fun _ => ots_s n401.o m401.o (by omega) (Or.inr (Or.inr ⟨k401, by omega⟩)))) | (have t := k475; exact (fun _ => ots_20 n475.o m475.o (by omega) k475.o (by omega))))⟩
set_option maxRecDepth 100000 in
theorem c475_gr_checkOthers__p {S : sS} (hH : RI S) (hfr : NFR S) (hr : Xi S 876 7 ≤ 5130) (hls : LST S) (h1 : 1 ≤ Xi S 876 7) (d : Nat) (fu : Nat) : ∀  (T17 : sS) (_ : RI T17) (_ : FR md_gr_checkOthers__p S T17), (Hid (¬ (ty7 S 0 = 2 ∧ ty7 S 1 = 25))) → (Hid (¬ (ty7 S 0 = 2 ∧ ty7 S 1 = 19))) → (Xi T17 890 1 = 0) → (Xi T17 890 3 = tk7 (ty7 S)) → (Hid (kt7 (ty7 S) ≠ 4 ∧ kt7 (ty7 S) ≠ 5 ∧ kt7 (ty7 S) ≠ 12 ∧ kt7 (ty7 S) ≠ 13 ∧ kt7 (ty7 S) ≠ 21)) → Pl fu lay0 (d + 5) m_gr_checkOthers 475 [(0, .ref 890)] [] T17 (Q_gr_checkOthers__p S) := by
  have hF : FR md_gr_checkOthers__p S S := FR.rf
  have w1 : -2147483648 ≤ Xi S 876 7 ∧ Xi S 876 7 ≤ 2147483647 := Xi_rgI
  have w2 : -2147483648 ≤ Xi S 890 1 ∧ Xi S 890 1 ≤ 2147483647 := Xi_rgI
  have w3 : -2147483648 ≤ Xi S 890 2 ∧ Xi S 890 2 ≤ 2147483647 := Xi_rgI
  have w4 : -2147483648 ≤ Xi S 890 3 ∧ Xi S 890 3 ≤ 2147483647 := Xi_rgI
  intro T17 hHT17 hFT17 n475 m475 w159 w160 k475
  have w161 : Xi T17 876 7 = Xi S 876 7 := hFT17.x _ _ rfl
  have w162 : -2147483648 ≤ Xi T17 876 7 ∧ Xi T17 876 7 ≤ 2147483647 := Xi_rgI
  have w163 : -2147483648 ≤ Xi T17 890 1 ∧ Xi T17 890 1 ≤ 2147483647 := Xi_rgI
  have w164 : -2147483648 ≤ Xi T17 890 2 ∧ Xi T17 890 2 ≤ 2147483647 := Xi_rgI
  have w165 : -2147483648 ≤ Xi T17 890 3 ∧ Xi T17 890 3 ≤ 2147483647 := Xi_rgI
  refine y_aload_n rfl rfl ?_
  refine y_bipush rfl rfl ?_
  refine y_pfi rfl rfl rfl rfl ?_
  obtain ⟨U18, eU18⟩ : ∃ T : sS, T = uI T17 890 2 (Int32.ofInt 20) := ⟨_, rfl⟩
  rw [← eU18]
  have hHU18 : RI U18 := by rw [eU18]; exact RI_w hHT17
  have hFU18 : FR md_gr_checkOthers__p S U18 := by rw [eU18]; exact FR.wI hFT17 (mdf_i (r := (890, 891, 2, 3)) (List.mem_of_getElem? (i := 1) rfl) (inR_i (by omega) (by omega) (by omega) (by omega)))
  have w166 : Xi U18 890 2 = 20 := by rw [eU18]; exact Xi_same (by unfold rg; omega)
  refine y_aload_n rfl rfl ?_
  refine y_bipush rfl rfl ?_
  refine y_bipush rfl rfl ?_
  have w167 : Xi U18 876 7 = Xi T17 876 7 := (show Xi U18 876 7 = Xi T17 876 7 from by rw [eU18]; exact Xi_ne (by omega))
  have w168 : Xi U18 890 1 = Xi T17 890 1 := (show Xi U18 890 1 = Xi T17 890 1 from by rw [eU18]; exact Xi_ne (by omega))
  refine y_callV rfl rfl rfl (t_gr_takeLoose__p hHU18 16 104 ⟨by omega, by omega⟩ ⟨by omega, by omega⟩ (by first | assumption | exact (NFR_FR hFU18 rfl rfl (by assumption : NFR S))) (by first | assumption | omega) (by first | assumption | omega) (by omega) _) ?_
  rintro _ T19 ⟨hHT19, w173, z172, rfl, w172, w170, w171⟩
  have hFT19 : FR md_gr_checkOthers__p S T19 := FR.tr hFU18 w173 rfl
  show Pl _ _ _ _ _ _ [iv z172] _ _
  have gp486 := w170
  rw [FRT hFU18 rfl rfl] at gp486
  try rw [show Xi U18 890 1 = Xi T17 890 1 by omega] at gp486
  clear w170
  rw [show Xi T17 890 1 = 0 by omega] at gp486
  refine y_if_eq rfl rfl (by unfold rg; omega) (fun w174 => ?_) (fun w175 => ?_)
  · rw [show z172 = 0 by omega] at gp486
    refine y_iconst rfl ?_
    refine y_ireturn rfl rfl ?_
    have w176 : Xi T19 876 7 = Xi T17 876 7 := (show Xi T19 876 7 = Xi U18 876 7 from w173.x _ _ rfl).trans ((show Xi U18 876 7 = Xi T17 876 7 from by rw [eU18]; exact Xi_ne (by omega)))
    have w177 : Xi T19 890 2 = Xi U18 890 2 := (show Xi T19 890 2 = Xi U18 890 2 from w173.x _ _ rfl)
    have w178 : Xi T19 890 3 = Xi T17 890 3 := (show Xi T19 890 3 = Xi U18 890 3 from w173.x _ _ rfl).trans ((show Xi U18 890 3 = Xi T17 890 3 from by rw [eU18]; exact Xi_ne (by omega)))
    exact ⟨hHT19, hFT19, _, rfl, ⟨by omega, by omega⟩, (by  first | (have t := k25; rw [ckO_7 k25]; simp only [gS_1, gS_0, o_1, o_0, i10, i00, n10, n00, if_true, if_false, gp486]) | (have t := k125; rw [ckO_8 k125]; simp only [gS_1, gS_0, o_1, o_0, i10, i00, n10, n00, if_true, if_false, gp486]) | (have t := k260; rw [ckO_b n260.o m260.o k260]; exact gp261) | (have t := k265; rw [ckO_17 n265.o m265.o k265]; simp only [gS_1, gS_0, o_1, o_0, i10, i00, n10, n00, if_true, if_false, gp486]) | (have t := k332; rw [ckO_18 n332.o m332.o k332]; simp only [gS_1, gS_0, o_1, o_0, i10, i00, n10, n00, if_true, if_false, gp486]) | (have t := k401; rw [ckO_19 n401.o m401.o k401]; simp only [gS_1, gS_0, o_1, o_0, i10, i00, n10, n00, if_true, if_false, gp486]) | (have t := k475; rw [ckO_20 n475.o m475.o k475.o]; simp only [gS_1, gS_0, o_1, o_0, i10, i00, n10, n00, if_true, if_false, gp486])), (by omega), (by first | (have t := k25; exact (fun _ => ots_7 k25 (by omega))) | (have t := k125; exact (fun _ => ots_8 k125 (by omega))) | (have t := k260; exact (fun q => ots_b n260.o m260.o (by omega) k260 (s261.o q))) | (have t := k265; exact (fun _ => ots_s n265.o m265.o (by omega) (Or.inl ⟨k265, by omega⟩))) | (have t := k332; exact (fun _ => ots_s n332.o m332.o (by omega) (Or.inr (Or.inl ⟨k332, by omega⟩)))) | (have t := k401; exact (fun _ => ots_s n401.o m401.o (by omega) (Or.inr (Or.inr ⟨k401, by omega⟩)))) | (have t := k475; exact (fun _ => ots_20 n475.o m475.o (by omega) k475.o (by omega))))⟩
  · rw [show z172 = 1 by omega] at gp486
    refine y_aload_n rfl rfl ?_
    refine y_bipush rfl rfl ?_
    have w179 : Xi T19 876 7 = Xi T17 876 7 := (show Xi T19 876 7 = Xi U18 876 7 from w173.x _ _ rfl).trans ((show Xi U18 876 7 = Xi T17 876 7 from by rw [eU18]; exact Xi_ne (by omega)))
    refine y_callV rfl rfl rfl (t_gr_take__p hHT19 103 ⟨by omega, by omega⟩ (by first | assumption | exact (NFR_FR hFT19 rfl rfl (by assumption : NFR S))) (by first | assumption | omega) (by first | assumption | omega) _) ?_
    rintro _ T20 ⟨hHT20, w185, z184, rfl, w184, w182, w183⟩
    have hFT20 : FR md_gr_checkOthers__p S T20 := FR.tr hFT19 w185 rfl
    show Pl _ _ _ _ _ _ [iv z184] _ _
    have gp495 := w182
    rw [FRT hFT19 rfl rfl] at gp495
    clear w182
    refine y_if_eq rfl rfl (by unfold rg; omega) (fun w186 => ?_) (fun w187 => ?_)
    · rw [show z184 = 0 by omega] at gp495
      refine y_iconst rfl ?_
      refine y_ireturn rfl rfl ?_
      have w188 : Xi T20 876 7 = Xi T17 876 7 := (show Xi T20 876 7 = Xi T19 876 7 from w185.x _ _ rfl).trans ( (show Xi T19 876 7 = Xi U18 876 7 from w173.x _ _ rfl).trans ((show Xi U18 876 7 = Xi T17 876 7 from by rw [eU18]; exact Xi_ne (by omega))))
      have w189 : Xi T20 890 2 = Xi U18 890 2 := (show Xi T20 890 2 = Xi T19 890 2 from w185.x _ _ rfl).trans ((show Xi T19 890 2 = Xi U18 890 2 from w173.x _ _ rfl))
      have w190 : Xi T20 890 3 = Xi T17 890 3 := (show Xi T20 890 3 = Xi T19 890 3 from w185.x _ _ rfl).trans ( (show Xi T19 890 3 = Xi U18 890 3 from w173.x _ _ rfl).trans ((show Xi U18 890 3 = Xi T17 890 3 from by rw [eU18]; exact Xi_ne (by omega))))
      exact ⟨hHT20, hFT20, _, rfl, ⟨by omega, by omega⟩, (by  first | (have t := k25; rw [ckO_7 k25]; simp only [gS_1, gS_0, o_1, o_0, i10, i00, n10, n00, if_true, if_false, gp486, gp495]) | (have t := k125; rw [ckO_8 k125]; simp only [gS_1, gS_0, o_1, o_0, i10, i00, n10, n00, if_true, if_false, gp486, gp495]) | (have t := k260; rw [ckO_b n260.o m260.o k260]; exact gp261) | (have t := k265; rw [ckO_17 n265.o m265.o k265]; simp only [gS_1, gS_0, o_1, o_0, i10, i00, n10, n00, if_true, if_false, gp486, gp495]) | (have t := k332; rw [ckO_18 n332.o m332.o k332]; simp only [gS_1, gS_0, o_1, o_0, i10, i00, n10, n00, if_true, if_false, gp486, gp495]) | (have t := k401; rw [ckO_19 n401.o m401.o k401]; simp only [gS_1, gS_0, o_1, o_0, i10, i00, n10, n00, if_true, if_false, gp486, gp495]) | (have t := k475; rw [ckO_20 n475.o m475.o k475.o]; simp only [gS_1, gS_0, o_1, o_0, i10, i00, n10, n00, if_true, if_false, gp486, gp495])), (by omega), (by first | (have t := k25; exact (fun _ => ots_7 k25 (by omega))) | (have t := k125; exact (fun _ => ots_8 k125 (by omega))) | (have t := k260; exact (fun q => ots_b n260.o m260.o (by omega) k260 (s261.o q))) | (have t := k265; exact (fun _ => ots_s n265.o m265.o (by omega) (Or.inl ⟨k265, by omega⟩))) | (have t := k332; exact (fun _ => ots_s n332.o m332.o (by omega) (Or.inr (Or.inl ⟨k332, by omega⟩)))) | (have t := k401; exact (fun _ => ots_s n401.o m401.o (by omega) (Or.inr (Or.inr ⟨k401, by omega⟩)))) | (have t := k475; exact (fun _ => ots_20 n475.o m475.o (by omega) k475.o (by omega))))⟩
    · rw [show z184 = 1 by omega] at gp495
      refine y_iconst rfl ?_
      refine y_goto rfl rfl ?_
      refine y_ireturn rfl rfl ?_
      have w191 : Xi T20 876 7 = Xi T17 876 7 := (show Xi T20 876 7 = Xi T19 876 7 from w185.x _ _ rfl).trans ( (show Xi T19 876 7 = Xi U18 876 7 from w173.x _ _ rfl).trans ((show Xi U18 876 7 = Xi T17 876 7 from by rw [eU18]; exact Xi_ne (by omega))))
      have w192 : Xi T20 890 2 = Xi U18 890 2 := (show Xi T20 890 2 = Xi T19 890 2 from w185.x _ _ rfl).trans ((show Xi T19 890 2 = Xi U18 890 2 from w173.x _ _ rfl))
      have w193 : Xi T20 890 3 = Xi T17 890 3 := (show Xi T20 890 3 = Xi T19 890 3 from w185.x _ _ rfl).trans ( (show Xi T19 890 3 = Xi U18 890 3 from w173.x _ _ rfl).trans ((show Xi U18 890 3 = Xi T17 890 3 from by rw [eU18]; exact Xi_ne (by omega))))
      exact ⟨hHT20, hFT20, _, rfl, ⟨by omega, by omega⟩, (by  first | (have t := k25; rw [ckO_7 k25]; simp only [gS_1, gS_0, o_1, o_0, i10, i00, n10, n00, if_true, if_false, gp486, gp495]) | (have t := k125; rw [ckO_8 k125]; simp only [gS_1, gS_0, o_1, o_0, i10, i00, n10, n00, if_true, if_false, gp486, gp495]) | (have t := k260; rw [ckO_b n260.o m260.o k260]; exact gp261) | (have t := k265; rw [ckO_17 n265.o m265.o k265]; simp only [gS_1, gS_0, o_1, o_0, i10, i00, n10, n00, if_true, if_false, gp486, gp495]) | (have t := k332; rw [ckO_18 n332.o m332.o k332]; simp only [gS_1, gS_0, o_1, o_0, i10, i00, n10, n00, if_true, if_false, gp486, gp495]) | (have t := k401; rw [ckO_19 n401.o m401.o k401]; simp only [gS_1, gS_0, o_1, o_0, i10, i00, n10, n00, if_true, if_false, gp486, gp495]) | (have t := k475; rw [ckO_20 n475.o m475.o k475.o]; simp only [gS_1, gS_0, o_1, o_0, i10, i00, n10, n00, if_true, if_false, gp486, gp495])), (by omega), (by first | (have t := k25; exact (fun _ => ots_7 k25 (by omega))) | (have t := k125; exact (fun _ => ots_8 k125 (by omega))) | (have t := k260; exact (fun q => ots_b n260.o m260.o (by omega) k260 (s261.o q))) | (have t := k265; exact (fun _ => ots_s n265.o m265.o (by omega) (Or.inl ⟨k265, by omega⟩))) | (have t := k332; exact (fun _ => ots_s n332.o m332.o (by omega) (Or.inr (Or.inl ⟨k332, by omega⟩)))) | (have t := k401; exact (fun _ => ots_s n401.o m401.o (by omega) (Or.inr (Or.inr ⟨k401, by omega⟩)))) | (have t := k475; exact (fun _ => ots_20 n475.o m475.o (by omega) k475.o (by omega))))⟩
set_option maxRecDepth 100000 in
theorem c260_gr_checkOthers__p {S : sS} (hH : RI S) (hfr : NFR S) (hr : Xi S 876 7 ≤ 5130) (hls : LST S) (h1 : 1 ≤ Xi S 876 7) (d : Nat) (fu : Nat) : ∀  (T21 : sS) (_ : RI T21) (_ : FR md_gr_checkOthers__p S T21), (Hid (¬ (ty7 S 0 = 2 ∧ ty7 S 1 = 25))) → (Hid (¬ (ty7 S 0 = 2 ∧ ty7 S 1 = 19))) → (Xi T21 890 1 = 0) → (Xi T21 890 3 = tk7 (ty7 S)) → (kt7 (ty7 S) = 4 ∨ kt7 (ty7 S) = 5) → Pl fu lay0 (d + 5) m_gr_checkOthers 260 [(0, .ref 890)] [] T21 (Q_gr_checkOthers__p S) := by
  have hF : FR md_gr_checkOthers__p S S := FR.rf
  have w1 : -2147483648 ≤ Xi S 876 7 ∧ Xi S 876 7 ≤ 2147483647 := Xi_rgI
  have w2 : -2147483648 ≤ Xi S 890 1 ∧ Xi S 890 1 ≤ 2147483647 := Xi_rgI
  have w3 : -2147483648 ≤ Xi S 890 2 ∧ Xi S 890 2 ≤ 2147483647 := Xi_rgI
  have w4 : -2147483648 ≤ Xi S 890 3 ∧ Xi S 890 3 ≤ 2147483647 := Xi_rgI
  intro T21 hHT21 hFT21 n260 m260 w194 w195 k260
  have w196 : Xi T21 876 7 = Xi S 876 7 := hFT21.x _ _ rfl
  have w197 : -2147483648 ≤ Xi T21 876 7 ∧ Xi T21 876 7 ≤ 2147483647 := Xi_rgI
  have w198 : -2147483648 ≤ Xi T21 890 1 ∧ Xi T21 890 1 ≤ 2147483647 := Xi_rgI
  have w199 : -2147483648 ≤ Xi T21 890 2 ∧ Xi T21 890 2 ≤ 2147483647 := Xi_rgI
  have w200 : -2147483648 ≤ Xi T21 890 3 ∧ Xi T21 890 3 ≤ 2147483647 := Xi_rgI
  refine y_aload_n rfl rfl ?_
  refine y_callV rfl rfl rfl (t_gr_checkBe__p hHT21 (by first | assumption | exact (NFR_FR hFT21 rfl rfl (by assumption : NFR S))) (by first | assumption | omega) (by first | assumption | omega) (by first | assumption | exact (LST_FR hFT21 rfl rfl (by assumption : LST S))) (by first | assumption | omega) _) ?_
  rintro _ T22 ⟨hHT22, w204, z203, rfl, w203, w201, w202, so261⟩
  have hFT22 : FR md_gr_checkOthers__p S T22 := FR.tr hFT21 w204 rfl
  show Pl _ _ _ _ _ _ [iv z203] _ _
  have gp261 := w201
  rw [FRT hFT21 rfl rfl] at gp261
  clear w201
  have s261 : Hid (z203 = 1 → BES T22 (ty7 S)) := fun q => by have t := so261 q; rw [FRT hFT21 rfl rfl] at t; exact t
  clear so261
  refine y_ireturn rfl (retI_z (by omega)) ?_
  have w205 : Xi T22 876 7 = Xi T21 876 7 := (show Xi T22 876 7 = Xi T21 876 7 from w204.x _ _ rfl)
  have w206 : Xi T22 890 3 = Xi T21 890 3 := (show Xi T22 890 3 = Xi T21 890 3 from w204.x _ _ rfl)
  exact ⟨hHT22, hFT22, _, rfl, ⟨by omega, by omega⟩, (by (first | rw [show z203 = 1 by omega] at gp261 | rw [show z203 = 0 by omega] at gp261 | skip);  first | (have t := k25; rw [ckO_7 k25]; simp only [gS_1, gS_0, o_1, o_0, i10, i00, n10, n00, if_true, if_false, gp261]) | (have t := k125; rw [ckO_8 k125]; simp only [gS_1, gS_0, o_1, o_0, i10, i00, n10, n00, if_true, if_false, gp261]) | (have t := k260; rw [ckO_b n260.o m260.o k260]; exact gp261) | (have t := k265; rw [ckO_17 n265.o m265.o k265]; simp only [gS_1, gS_0, o_1, o_0, i10, i00, n10, n00, if_true, if_false, gp261]) | (have t := k332; rw [ckO_18 n332.o m332.o k332]; simp only [gS_1, gS_0, o_1, o_0, i10, i00, n10, n00, if_true, if_false, gp261]) | (have t := k401; rw [ckO_19 n401.o m401.o k401]; simp only [gS_1, gS_0, o_1, o_0, i10, i00, n10, n00, if_true, if_false, gp261]) | (have t := k475; rw [ckO_20 n475.o m475.o k475.o]; simp only [gS_1, gS_0, o_1, o_0, i10, i00, n10, n00, if_true, if_false, gp261])), (by omega), (by first | (have t := k25; exact (fun _ => ots_7 k25 (by omega))) | (have t := k125; exact (fun _ => ots_8 k125 (by omega))) | (have t := k260; exact (fun q => ots_b n260.o m260.o (by omega) k260 (s261.o q))) | (have t := k265; exact (fun _ => ots_s n265.o m265.o (by omega) (Or.inl ⟨k265, by omega⟩))) | (have t := k332; exact (fun _ => ots_s n332.o m332.o (by omega) (Or.inr (Or.inl ⟨k332, by omega⟩)))) | (have t := k401; exact (fun _ => ots_s n401.o m401.o (by omega) (Or.inr (Or.inr ⟨k401, by omega⟩)))) | (have t := k475; exact (fun _ => ots_20 n475.o m475.o (by omega) k475.o (by omega))))⟩
set_option maxRecDepth 100000 in
theorem c265_gr_checkOthers__p {S : sS} (hH : RI S) (hfr : NFR S) (hr : Xi S 876 7 ≤ 5130) (hls : LST S) (h1 : 1 ≤ Xi S 876 7) (d : Nat) (fu : Nat) : ∀  (T23 : sS) (_ : RI T23) (_ : FR md_gr_checkOthers__p S T23), (Hid (¬ (ty7 S 0 = 2 ∧ ty7 S 1 = 25))) → (Hid (¬ (ty7 S 0 = 2 ∧ ty7 S 1 = 19))) → (Xi T23 890 1 = 0) → (Xi T23 890 3 = tk7 (ty7 S)) → (kt7 (ty7 S) = 12) → Pl fu lay0 (d + 5) m_gr_checkOthers 265 [(0, .ref 890)] [] T23 (Q_gr_checkOthers__p S) := by
  have hF : FR md_gr_checkOthers__p S S := FR.rf
  have w1 : -2147483648 ≤ Xi S 876 7 ∧ Xi S 876 7 ≤ 2147483647 := Xi_rgI
  have w2 : -2147483648 ≤ Xi S 890 1 ∧ Xi S 890 1 ≤ 2147483647 := Xi_rgI
  have w3 : -2147483648 ≤ Xi S 890 2 ∧ Xi S 890 2 ≤ 2147483647 := Xi_rgI
  have w4 : -2147483648 ≤ Xi S 890 3 ∧ Xi S 890 3 ≤ 2147483647 := Xi_rgI
  intro T23 hHT23 hFT23 n265 m265 w207 w208 k265
  have w209 : Xi T23 876 7 = Xi S 876 7 := hFT23.x _ _ rfl
  have w210 : -2147483648 ≤ Xi T23 876 7 ∧ Xi T23 876 7 ≤ 2147483647 := Xi_rgI
  have w211 : -2147483648 ≤ Xi T23 890 1 ∧ Xi T23 890 1 ≤ 2147483647 := Xi_rgI
  have w212 : -2147483648 ≤ Xi T23 890 2 ∧ Xi T23 890 2 ≤ 2147483647 := Xi_rgI
  have w213 : -2147483648 ≤ Xi T23 890 3 ∧ Xi T23 890 3 ≤ 2147483647 := Xi_rgI
  refine y_aload_n rfl rfl ?_
  refine y_bipush rfl rfl ?_
  refine y_pfi rfl rfl rfl rfl ?_
  obtain ⟨U24, eU24⟩ : ∃ T : sS, T = uI T23 890 2 (Int32.ofInt 17) := ⟨_, rfl⟩
  rw [← eU24]
  have hHU24 : RI U24 := by rw [eU24]; exact RI_w hHT23
  have hFU24 : FR md_gr_checkOthers__p S U24 := by rw [eU24]; exact FR.wI hFT23 (mdf_i (r := (890, 891, 2, 3)) (List.mem_of_getElem? (i := 1) rfl) (inR_i (by omega) (by omega) (by omega) (by omega)))
  have w214 : Xi U24 890 2 = 17 := by rw [eU24]; exact Xi_same (by unfold rg; omega)
  refine y_aload_n rfl rfl ?_
  have w215 : Xi U24 876 7 = Xi T23 876 7 := (show Xi U24 876 7 = Xi T23 876 7 from by rw [eU24]; exact Xi_ne (by omega))
  have w216 : Xi U24 890 1 = Xi T23 890 1 := (show Xi U24 890 1 = Xi T23 890 1 from by rw [eU24]; exact Xi_ne (by omega))
  refine y_callV rfl rfl rfl (t_gr_takeName__p hHU24 (by first | assumption | exact (NFR_FR hFU24 rfl rfl (by assumption : NFR S))) (by first | assumption | omega) (by first | assumption | omega) _) ?_
  rintro _ T25 ⟨hHT25, w221, z220, rfl, w220, w218, w219⟩
  have hFT25 : FR md_gr_checkOthers__p S T25 := FR.tr hFU24 w221 rfl
  show Pl _ _ _ _ _ _ [iv z220] _ _
  have gp272 := w218
  rw [FRT hFU24 rfl rfl] at gp272
  try rw [show Xi U24 890 1 = Xi T23 890 1 by omega] at gp272
  clear w218
  rw [show Xi T23 890 1 = 0 by omega] at gp272
  refine y_if_eq rfl rfl (by unfold rg; omega) (fun w222 => ?_) (fun w223 => ?_)
  · rw [show z220 = 0 by omega] at gp272
    refine y_iconst rfl ?_
    refine y_ireturn rfl rfl ?_
    have w224 : Xi T25 876 7 = Xi T23 876 7 := (show Xi T25 876 7 = Xi U24 876 7 from w221.x _ _ rfl).trans ((show Xi U24 876 7 = Xi T23 876 7 from by rw [eU24]; exact Xi_ne (by omega)))
    have w225 : Xi T25 890 2 = Xi U24 890 2 := (show Xi T25 890 2 = Xi U24 890 2 from w221.x _ _ rfl)
    have w226 : Xi T25 890 3 = Xi T23 890 3 := (show Xi T25 890 3 = Xi U24 890 3 from w221.x _ _ rfl).trans ((show Xi U24 890 3 = Xi T23 890 3 from by rw [eU24]; exact Xi_ne (by omega)))
    exact ⟨hHT25, hFT25, _, rfl, ⟨by omega, by omega⟩, (by  first | (have t := k25; rw [ckO_7 k25]; simp only [gS_1, gS_0, o_1, o_0, i10, i00, n10, n00, if_true, if_false, gp272]) | (have t := k125; rw [ckO_8 k125]; simp only [gS_1, gS_0, o_1, o_0, i10, i00, n10, n00, if_true, if_false, gp272]) | (have t := k260; rw [ckO_b n260.o m260.o k260]; exact gp261) | (have t := k265; rw [ckO_17 n265.o m265.o k265]; simp only [gS_1, gS_0, o_1, o_0, i10, i00, n10, n00, if_true, if_false, gp272]) | (have t := k332; rw [ckO_18 n332.o m332.o k332]; simp only [gS_1, gS_0, o_1, o_0, i10, i00, n10, n00, if_true, if_false, gp272]) | (have t := k401; rw [ckO_19 n401.o m401.o k401]; simp only [gS_1, gS_0, o_1, o_0, i10, i00, n10, n00, if_true, if_false, gp272]) | (have t := k475; rw [ckO_20 n475.o m475.o k475.o]; simp only [gS_1, gS_0, o_1, o_0, i10, i00, n10, n00, if_true, if_false, gp272])), (by omega), (by first | (have t := k25; exact (fun _ => ots_7 k25 (by omega))) | (have t := k125; exact (fun _ => ots_8 k125 (by omega))) | (have t := k260; exact (fun q => ots_b n260.o m260.o (by omega) k260 (s261.o q))) | (have t := k265; exact (fun _ => ots_s n265.o m265.o (by omega) (Or.inl ⟨k265, by omega⟩))) | (have t := k332; exact (fun _ => ots_s n332.o m332.o (by omega) (Or.inr (Or.inl ⟨k332, by omega⟩)))) | (have t := k401; exact (fun _ => ots_s n401.o m401.o (by omega) (Or.inr (Or.inr ⟨k401, by omega⟩)))) | (have t := k475; exact (fun _ => ots_20 n475.o m475.o (by omega) k475.o (by omega))))⟩
  · rw [show z220 = 1 by omega] at gp272
    refine y_aload_n rfl rfl ?_
    refine y_bipush rfl rfl ?_
    have w227 : Xi T25 876 7 = Xi T23 876 7 := (show Xi T25 876 7 = Xi U24 876 7 from w221.x _ _ rfl).trans ((show Xi U24 876 7 = Xi T23 876 7 from by rw [eU24]; exact Xi_ne (by omega)))
    refine y_callV rfl rfl rfl (t_gr_take__p hHT25 12 ⟨by omega, by omega⟩ (by first | assumption | exact (NFR_FR hFT25 rfl rfl (by assumption : NFR S))) (by first | assumption | omega) (by first | assumption | omega) _) ?_
    rintro _ T26 ⟨hHT26, w233, z232, rfl, w232, w230, w231⟩
    have hFT26 : FR md_gr_checkOthers__p S T26 := FR.tr hFT25 w233 rfl
    show Pl _ _ _ _ _ _ [iv z232] _ _
    have gp281 := w230
    rw [FRT hFT25 rfl rfl] at gp281
    clear w230
    refine y_if_eq rfl rfl (by unfold rg; omega) (fun w234 => ?_) (fun w235 => ?_)
    · rw [show z232 = 0 by omega] at gp281
      refine y_iconst rfl ?_
      refine y_ireturn rfl rfl ?_
      have w236 : Xi T26 876 7 = Xi T23 876 7 := (show Xi T26 876 7 = Xi T25 876 7 from w233.x _ _ rfl).trans ( (show Xi T25 876 7 = Xi U24 876 7 from w221.x _ _ rfl).trans ((show Xi U24 876 7 = Xi T23 876 7 from by rw [eU24]; exact Xi_ne (by omega))))
      have w237 : Xi T26 890 2 = Xi U24 890 2 := (show Xi T26 890 2 = Xi T25 890 2 from w233.x _ _ rfl).trans ((show Xi T25 890 2 = Xi U24 890 2 from w221.x _ _ rfl))
      have w238 : Xi T26 890 3 = Xi T23 890 3 := (show Xi T26 890 3 = Xi T25 890 3 from w233.x _ _ rfl).trans ( (show Xi T25 890 3 = Xi U24 890 3 from w221.x _ _ rfl).trans ((show Xi U24 890 3 = Xi T23 890 3 from by rw [eU24]; exact Xi_ne (by omega))))
      exact ⟨hHT26, hFT26, _, rfl, ⟨by omega, by omega⟩, (by  first | (have t := k25; rw [ckO_7 k25]; simp only [gS_1, gS_0, o_1, o_0, i10, i00, n10, n00, if_true, if_false, gp272, gp281]) | (have t := k125; rw [ckO_8 k125]; simp only [gS_1, gS_0, o_1, o_0, i10, i00, n10, n00, if_true, if_false, gp272, gp281]) | (have t := k260; rw [ckO_b n260.o m260.o k260]; exact gp261) | (have t := k265; rw [ckO_17 n265.o m265.o k265]; simp only [gS_1, gS_0, o_1, o_0, i10, i00, n10, n00, if_true, if_false, gp272, gp281]) | (have t := k332; rw [ckO_18 n332.o m332.o k332]; simp only [gS_1, gS_0, o_1, o_0, i10, i00, n10, n00, if_true, if_false, gp272, gp281]) | (have t := k401; rw [ckO_19 n401.o m401.o k401]; simp only [gS_1, gS_0, o_1, o_0, i10, i00, n10, n00, if_true, if_false, gp272, gp281]) | (have t := k475; rw [ckO_20 n475.o m475.o k475.o]; simp only [gS_1, gS_0, o_1, o_0, i10, i00, n10, n00, if_true, if_false, gp272, gp281])), (by omega), (by first | (have t := k25; exact (fun _ => ots_7 k25 (by omega))) | (have t := k125; exact (fun _ => ots_8 k125 (by omega))) | (have t := k260; exact (fun q => ots_b n260.o m260.o (by omega) k260 (s261.o q))) | (have t := k265; exact (fun _ => ots_s n265.o m265.o (by omega) (Or.inl ⟨k265, by omega⟩))) | (have t := k332; exact (fun _ => ots_s n332.o m332.o (by omega) (Or.inr (Or.inl ⟨k332, by omega⟩)))) | (have t := k401; exact (fun _ => ots_s n401.o m401.o (by omega) (Or.inr (Or.inr ⟨k401, by omega⟩)))) | (have t := k475; exact (fun _ => ots_20 n475.o m475.o (by omega) k475.o (by omega))))⟩
    · rw [show z232 = 1 by omega] at gp281
      refine y_aload_n rfl rfl ?_
      have w239 : Xi T26 876 7 = Xi T23 876 7 := (show Xi T26 876 7 = Xi T25 876 7 from w233.x _ _ rfl).trans ( (show Xi T25 876 7 = Xi U24 876 7 from w221.x _ _ rfl).trans ((show Xi U24 876 7 = Xi T23 876 7 from by rw [eU24]; exact Xi_ne (by omega))))
      refine y_callV rfl rfl rfl (t_gr_takeArt__p hHT26 (by first | assumption | exact (NFR_FR hFT26 rfl rfl (by assumption : NFR S))) (by first | assumption | omega) (by first | assumption | omega) _) ?_
      rintro _ T27 ⟨hHT27, w245, z244, rfl, w244, w242, w243⟩
      have hFT27 : FR md_gr_checkOthers__p S T27 := FR.tr hFT26 w245 rfl
      show Pl _ _ _ _ _ _ [iv z244] _ _
      have gp288 := w242
      rw [FRT hFT26 rfl rfl] at gp288
      clear w242
      refine y_if_eq rfl rfl (by unfold rg; omega) (fun w246 => ?_) (fun w247 => ?_)
      · rw [show z244 = 0 by omega] at gp288
        refine y_iconst rfl ?_
        refine y_ireturn rfl rfl ?_
        have w248 : Xi T27 876 7 = Xi T23 876 7 := (show Xi T27 876 7 = Xi T26 876 7 from w245.x _ _ rfl).trans ( (show Xi T26 876 7 = Xi T25 876 7 from w233.x _ _ rfl).trans ( (show Xi T25 876 7 = Xi U24 876 7 from w221.x _ _ rfl).trans ((show Xi U24 876 7 = Xi T23 876 7 from by rw [eU24]; exact Xi_ne (by omega)))))
        have w249 : Xi T27 890 2 = Xi U24 890 2 := (show Xi T27 890 2 = Xi T26 890 2 from w245.x _ _ rfl).trans ( (show Xi T26 890 2 = Xi T25 890 2 from w233.x _ _ rfl).trans ((show Xi T25 890 2 = Xi U24 890 2 from w221.x _ _ rfl)))
        have w250 : Xi T27 890 3 = Xi T23 890 3 := (show Xi T27 890 3 = Xi T26 890 3 from w245.x _ _ rfl).trans ( (show Xi T26 890 3 = Xi T25 890 3 from w233.x _ _ rfl).trans ( (show Xi T25 890 3 = Xi U24 890 3 from w221.x _ _ rfl).trans ((show Xi U24 890 3 = Xi T23 890 3 from by rw [eU24]; exact Xi_ne (by omega)))))
        exact ⟨hHT27, hFT27, _, rfl, ⟨by omega, by omega⟩, (by  first | (have t := k25; rw [ckO_7 k25]; simp only [gS_1, gS_0, o_1, o_0, i10, i00, n10, n00, if_true, if_false, gp272, gp281, gp288]) | (have t := k125; rw [ckO_8 k125]; simp only [gS_1, gS_0, o_1, o_0, i10, i00, n10, n00, if_true, if_false, gp272, gp281, gp288]) | (have t := k260; rw [ckO_b n260.o m260.o k260]; exact gp261) | (have t := k265; rw [ckO_17 n265.o m265.o k265]; simp only [gS_1, gS_0, o_1, o_0, i10, i00, n10, n00, if_true, if_false, gp272, gp281, gp288]) | (have t := k332; rw [ckO_18 n332.o m332.o k332]; simp only [gS_1, gS_0, o_1, o_0, i10, i00, n10, n00, if_true, if_false, gp272, gp281, gp288]) | (have t := k401; rw [ckO_19 n401.o m401.o k401]; simp only [gS_1, gS_0, o_1, o_0, i10, i00, n10, n00, if_true, if_false, gp272, gp281, gp288]) | (have t := k475; rw [ckO_20 n475.o m475.o k475.o]; simp only [gS_1, gS_0, o_1, o_0, i10, i00, n10, n00, if_true, if_false, gp272, gp281, gp288])), (by omega), (by first | (have t := k25; exact (fun _ => ots_7 k25 (by omega))) | (have t := k125; exact (fun _ => ots_8 k125 (by omega))) | (have t := k260; exact (fun q => ots_b n260.o m260.o (by omega) k260 (s261.o q))) | (have t := k265; exact (fun _ => ots_s n265.o m265.o (by omega) (Or.inl ⟨k265, by omega⟩))) | (have t := k332; exact (fun _ => ots_s n332.o m332.o (by omega) (Or.inr (Or.inl ⟨k332, by omega⟩)))) | (have t := k401; exact (fun _ => ots_s n401.o m401.o (by omega) (Or.inr (Or.inr ⟨k401, by omega⟩)))) | (have t := k475; exact (fun _ => ots_20 n475.o m475.o (by omega) k475.o (by omega))))⟩
      · rw [show z244 = 1 by omega] at gp288
        refine y_aload_n rfl rfl ?_
        have w251 : Xi T27 876 7 = Xi T23 876 7 := (show Xi T27 876 7 = Xi T26 876 7 from w245.x _ _ rfl).trans ( (show Xi T26 876 7 = Xi T25 876 7 from w233.x _ _ rfl).trans ( (show Xi T25 876 7 = Xi U24 876 7 from w221.x _ _ rfl).trans ((show Xi U24 876 7 = Xi T23 876 7 from by rw [eU24]; exact Xi_ne (by omega)))))
        refine y_callV rfl rfl rfl (t_gr_takeRun__p hHT27 (by first | assumption | exact (NFR_FR hFT27 rfl rfl (by assumption : NFR S))) (by first | assumption | omega) (by first | assumption | omega) _) ?_
        rintro _ T28 ⟨hHT28, w257, z256, rfl, w256, w254, w255⟩
        have hFT28 : FR md_gr_checkOthers__p S T28 := FR.tr hFT27 w257 rfl
        show Pl _ _ _ _ _ _ [iv z256] _ _
        have gp295 := w254
        rw [FRT hFT27 rfl rfl] at gp295
        clear w254
        refine y_if_eq rfl rfl (by unfold rg; omega) (fun w258 => ?_) (fun w259 => ?_)
        · rw [show z256 = 0 by omega] at gp295
          refine y_iconst rfl ?_
          refine y_ireturn rfl rfl ?_
          have w260 : Xi T28 876 7 = Xi T23 876 7 := (show Xi T28 876 7 = Xi T27 876 7 from w257.x _ _ rfl).trans ( (show Xi T27 876 7 = Xi T26 876 7 from w245.x _ _ rfl).trans ( (show Xi T26 876 7 = Xi T25 876 7 from w233.x _ _ rfl).trans ( (show Xi T25 876 7 = Xi U24 876 7 from w221.x _ _ rfl).trans ((show Xi U24 876 7 = Xi T23 876 7 from by rw [eU24]; exact Xi_ne (by omega))))))
          have w261 : Xi T28 890 2 = Xi U24 890 2 := (show Xi T28 890 2 = Xi T27 890 2 from w257.x _ _ rfl).trans ( (show Xi T27 890 2 = Xi T26 890 2 from w245.x _ _ rfl).trans ( (show Xi T26 890 2 = Xi T25 890 2 from w233.x _ _ rfl).trans ((show Xi T25 890 2 = Xi U24 890 2 from w221.x _ _ rfl))))
          have w262 : Xi T28 890 3 = Xi T23 890 3 := (show Xi T28 890 3 = Xi T27 890 3 from w257.x _ _ rfl).trans ( (show Xi T27 890 3 = Xi T26 890 3 from w245.x _ _ rfl).trans ( (show Xi T26 890 3 = Xi T25 890 3 from w233.x _ _ rfl).trans ( (show Xi T25 890 3 = Xi U24 890 3 from w221.x _ _ rfl).trans ((show Xi U24 890 3 = Xi T23 890 3 from by rw [eU24]; exact Xi_ne (by omega))))))
          exact ⟨hHT28, hFT28, _, rfl, ⟨by omega, by omega⟩, (by  first | (have t := k25; rw [ckO_7 k25]; simp only [gS_1, gS_0, o_1, o_0, i10, i00, n10, n00, if_true, if_false, gp272, gp281, gp288, gp295]) | (have t := k125; rw [ckO_8 k125]; simp only [gS_1, gS_0, o_1, o_0, i10, i00, n10, n00, if_true, if_false, gp272, gp281, gp288, gp295]) | (have t := k260; rw [ckO_b n260.o m260.o k260]; exact gp261) | (have t := k265; rw [ckO_17 n265.o m265.o k265]; simp only [gS_1, gS_0, o_1, o_0, i10, i00, n10, n00, if_true, if_false, gp272, gp281, gp288, gp295]) | (have t := k332; rw [ckO_18 n332.o m332.o k332]; simp only [gS_1, gS_0, o_1, o_0, i10, i00, n10, n00, if_true, if_false, gp272, gp281, gp288, gp295]) | (have t := k401; rw [ckO_19 n401.o m401.o k401]; simp only [gS_1, gS_0, o_1, o_0, i10, i00, n10, n00, if_true, if_false, gp272, gp281, gp288, gp295]) | (have t := k475; rw [ckO_20 n475.o m475.o k475.o]; simp only [gS_1, gS_0, o_1, o_0, i10, i00, n10, n00, if_true, if_false, gp272, gp281, gp288, gp295])), (by omega), (by first | (have t := k25; exact (fun _ => ots_7 k25 (by omega))) | (have t := k125; exact (fun _ => ots_8 k125 (by omega))) | (have t := k260; exact (fun q => ots_b n260.o m260.o (by omega) k260 (s261.o q))) | (have t := k265; exact (fun _ => ots_s n265.o m265.o (by omega) (Or.inl ⟨k265, by omega⟩))) | (have t := k332; exact (fun _ => ots_s n332.o m332.o (by omega) (Or.inr (Or.inl ⟨k332, by omega⟩)))) | (have t := k401; exact (fun _ => ots_s n401.o m401.o (by omega) (Or.inr (Or.inr ⟨k401, by omega⟩)))) | (have t := k475; exact (fun _ => ots_20 n475.o m475.o (by omega) k475.o (by omega))))⟩
        · rw [show z256 = 1 by omega] at gp295
          refine y_aload_n rfl rfl ?_
          refine y_bipush rfl rfl ?_
          have w263 : Xi T28 876 7 = Xi T23 876 7 := (show Xi T28 876 7 = Xi T27 876 7 from w257.x _ _ rfl).trans ( (show Xi T27 876 7 = Xi T26 876 7 from w245.x _ _ rfl).trans ( (show Xi T26 876 7 = Xi T25 876 7 from w233.x _ _ rfl).trans ( (show Xi T25 876 7 = Xi U24 876 7 from w221.x _ _ rfl).trans ((show Xi U24 876 7 = Xi T23 876 7 from by rw [eU24]; exact Xi_ne (by omega))))))
          refine y_callV rfl rfl rfl (t_gr_take__p hHT28 17 ⟨by omega, by omega⟩ (by first | assumption | exact (NFR_FR hFT28 rfl rfl (by assumption : NFR S))) (by first | assumption | omega) (by first | assumption | omega) _) ?_
          rintro _ T29 ⟨hHT29, w269, z268, rfl, w268, w266, w267⟩
          have hFT29 : FR md_gr_checkOthers__p S T29 := FR.tr hFT28 w269 rfl
          show Pl _ _ _ _ _ _ [iv z268] _ _
          have gp304 := w266
          rw [FRT hFT28 rfl rfl] at gp304
          clear w266
          refine y_if_eq rfl rfl (by unfold rg; omega) (fun w270 => ?_) (fun w271 => ?_)
          · rw [show z268 = 0 by omega] at gp304
            refine y_iconst rfl ?_
            refine y_ireturn rfl rfl ?_
            have w272 : Xi T29 876 7 = Xi T23 876 7 := (show Xi T29 876 7 = Xi T28 876 7 from w269.x _ _ rfl).trans ( (show Xi T28 876 7 = Xi T27 876 7 from w257.x _ _ rfl).trans ( (show Xi T27 876 7 = Xi T26 876 7 from w245.x _ _ rfl).trans ( (show Xi T26 876 7 = Xi T25 876 7 from w233.x _ _ rfl).trans ( (show Xi T25 876 7 = Xi U24 876 7 from w221.x _ _ rfl).trans ((show Xi U24 876 7 = Xi T23 876 7 from by rw [eU24]; exact Xi_ne (by omega)))))))
            have w273 : Xi T29 890 2 = Xi U24 890 2 := (show Xi T29 890 2 = Xi T28 890 2 from w269.x _ _ rfl).trans ( (show Xi T28 890 2 = Xi T27 890 2 from w257.x _ _ rfl).trans ( (show Xi T27 890 2 = Xi T26 890 2 from w245.x _ _ rfl).trans ( (show Xi T26 890 2 = Xi T25 890 2 from w233.x _ _ rfl).trans ((show Xi T25 890 2 = Xi U24 890 2 from w221.x _ _ rfl)))))
            have w274 : Xi T29 890 3 = Xi T23 890 3 := (show Xi T29 890 3 = Xi T28 890 3 from w269.x _ _ rfl).trans ( (show Xi T28 890 3 = Xi T27 890 3 from w257.x _ _ rfl).trans ( (show Xi T27 890 3 = Xi T26 890 3 from w245.x _ _ rfl).trans ( (show Xi T26 890 3 = Xi T25 890 3 from w233.x _ _ rfl).trans ( (show Xi T25 890 3 = Xi U24 890 3 from w221.x _ _ rfl).trans ((show Xi U24 890 3 = Xi T23 890 3 from by rw [eU24]; exact Xi_ne (by omega)))))))
            exact ⟨hHT29, hFT29, _, rfl, ⟨by omega, by omega⟩, (by  first | (have t := k25; rw [ckO_7 k25]; simp only [gS_1, gS_0, o_1, o_0, i10, i00, n10, n00, if_true, if_false, gp272, gp281, gp288, gp295, gp304]) | (have t := k125; rw [ckO_8 k125]; simp only [gS_1, gS_0, o_1, o_0, i10, i00, n10, n00, if_true, if_false, gp272, gp281, gp288, gp295, gp304]) | (have t := k260; rw [ckO_b n260.o m260.o k260]; exact gp261) | (have t := k265; rw [ckO_17 n265.o m265.o k265]; simp only [gS_1, gS_0, o_1, o_0, i10, i00, n10, n00, if_true, if_false, gp272, gp281, gp288, gp295, gp304]) | (have t := k332; rw [ckO_18 n332.o m332.o k332]; simp only [gS_1, gS_0, o_1, o_0, i10, i00, n10, n00, if_true, if_false, gp272, gp281, gp288, gp295, gp304]) | (have t := k401; rw [ckO_19 n401.o m401.o k401]; simp only [gS_1, gS_0, o_1, o_0, i10, i00, n10, n00, if_true, if_false, gp272, gp281, gp288, gp295, gp304]) | (have t := k475; rw [ckO_20 n475.o m475.o k475.o]; simp only [gS_1, gS_0, o_1, o_0, i10, i00, n10, n00, if_true, if_false, gp272, gp281, gp288, gp295, gp304])), (by omega), (by first | (have t := k25; exact (fun _ => ots_7 k25 (by omega))) | (have t := k125; exact (fun _ => ots_8 k125 (by omega))) | (have t := k260; exact (fun q => ots_b n260.o m260.o (by omega) k260 (s261.o q))) | (have t := k265; exact (fun _ => ots_s n265.o m265.o (by omega) (Or.inl ⟨k265, by omega⟩))) | (have t := k332; exact (fun _ => ots_s n332.o m332.o (by omega) (Or.inr (Or.inl ⟨k332, by omega⟩)))) | (have t := k401; exact (fun _ => ots_s n401.o m401.o (by omega) (Or.inr (Or.inr ⟨k401, by omega⟩)))) | (have t := k475; exact (fun _ => ots_20 n475.o m475.o (by omega) k475.o (by omega))))⟩
          · rw [show z268 = 1 by omega] at gp304
            refine y_aload_n rfl rfl ?_
            have w275 : Xi T29 876 7 = Xi T23 876 7 := (show Xi T29 876 7 = Xi T28 876 7 from w269.x _ _ rfl).trans ( (show Xi T28 876 7 = Xi T27 876 7 from w257.x _ _ rfl).trans ( (show Xi T27 876 7 = Xi T26 876 7 from w245.x _ _ rfl).trans ( (show Xi T26 876 7 = Xi T25 876 7 from w233.x _ _ rfl).trans ( (show Xi T25 876 7 = Xi U24 876 7 from w221.x _ _ rfl).trans ((show Xi U24 876 7 = Xi T23 876 7 from by rw [eU24]; exact Xi_ne (by omega)))))))
            refine y_callV rfl rfl rfl (t_gr_takeRun__p hHT29 (by first | assumption | exact (NFR_FR hFT29 rfl rfl (by assumption : NFR S))) (by first | assumption | omega) (by first | assumption | omega) _) ?_
            rintro _ T30 ⟨hHT30, w281, z280, rfl, w280, w278, w279⟩
            have hFT30 : FR md_gr_checkOthers__p S T30 := FR.tr hFT29 w281 rfl
            show Pl _ _ _ _ _ _ [iv z280] _ _
            have gp311 := w278
            rw [FRT hFT29 rfl rfl] at gp311
            clear w278
            refine y_if_eq rfl rfl (by unfold rg; omega) (fun w282 => ?_) (fun w283 => ?_)
            · rw [show z280 = 0 by omega] at gp311
              refine y_iconst rfl ?_
              refine y_ireturn rfl rfl ?_
              have w284 : Xi T30 876 7 = Xi T23 876 7 := (show Xi T30 876 7 = Xi T29 876 7 from w281.x _ _ rfl).trans ( (show Xi T29 876 7 = Xi T28 876 7 from w269.x _ _ rfl).trans ( (show Xi T28 876 7 = Xi T27 876 7 from w257.x _ _ rfl).trans ( (show Xi T27 876 7 = Xi T26 876 7 from w245.x _ _ rfl).trans ( (show Xi T26 876 7 = Xi T25 876 7 from w233.x _ _ rfl).trans ( (show Xi T25 876 7 = Xi U24 876 7 from w221.x _ _ rfl).trans ((show Xi U24 876 7 = Xi T23 876 7 from by rw [eU24]; exact Xi_ne (by omega))))))))
              have w285 : Xi T30 890 2 = Xi U24 890 2 := (show Xi T30 890 2 = Xi T29 890 2 from w281.x _ _ rfl).trans ( (show Xi T29 890 2 = Xi T28 890 2 from w269.x _ _ rfl).trans ( (show Xi T28 890 2 = Xi T27 890 2 from w257.x _ _ rfl).trans ( (show Xi T27 890 2 = Xi T26 890 2 from w245.x _ _ rfl).trans ( (show Xi T26 890 2 = Xi T25 890 2 from w233.x _ _ rfl).trans ((show Xi T25 890 2 = Xi U24 890 2 from w221.x _ _ rfl))))))
              have w286 : Xi T30 890 3 = Xi T23 890 3 := (show Xi T30 890 3 = Xi T29 890 3 from w281.x _ _ rfl).trans ( (show Xi T29 890 3 = Xi T28 890 3 from w269.x _ _ rfl).trans ( (show Xi T28 890 3 = Xi T27 890 3 from w257.x _ _ rfl).trans ( (show Xi T27 890 3 = Xi T26 890 3 from w245.x _ _ rfl).trans ( (show Xi T26 890 3 = Xi T25 890 3 from w233.x _ _ rfl).trans ( (show Xi T25 890 3 = Xi U24 890 3 from w221.x _ _ rfl).trans ((show Xi U24 890 3 = Xi T23 890 3 from by rw [eU24]; exact Xi_ne (by omega))))))))
              exact ⟨hHT30, hFT30, _, rfl, ⟨by omega, by omega⟩, (by  first | (have t := k25; rw [ckO_7 k25]; simp only [gS_1, gS_0, o_1, o_0, i10, i00, n10, n00, if_true, if_false, gp272, gp281, gp288, gp295, gp304, gp311]) | (have t := k125; rw [ckO_8 k125]; simp only [gS_1, gS_0, o_1, o_0, i10, i00, n10, n00, if_true, if_false, gp272, gp281, gp288, gp295, gp304, gp311]) | (have t := k260; rw [ckO_b n260.o m260.o k260]; exact gp261) | (have t := k265; rw [ckO_17 n265.o m265.o k265]; simp only [gS_1, gS_0, o_1, o_0, i10, i00, n10, n00, if_true, if_false, gp272, gp281, gp288, gp295, gp304, gp311]) | (have t := k332; rw [ckO_18 n332.o m332.o k332]; simp only [gS_1, gS_0, o_1, o_0, i10, i00, n10, n00, if_true, if_false, gp272, gp281, gp288, gp295, gp304, gp311]) | (have t := k401; rw [ckO_19 n401.o m401.o k401]; simp only [gS_1, gS_0, o_1, o_0, i10, i00, n10, n00, if_true, if_false, gp272, gp281, gp288, gp295, gp304, gp311]) | (have t := k475; rw [ckO_20 n475.o m475.o k475.o]; simp only [gS_1, gS_0, o_1, o_0, i10, i00, n10, n00, if_true, if_false, gp272, gp281, gp288, gp295, gp304, gp311])), (by omega), (by first | (have t := k25; exact (fun _ => ots_7 k25 (by omega))) | (have t := k125; exact (fun _ => ots_8 k125 (by omega))) | (have t := k260; exact (fun q => ots_b n260.o m260.o (by omega) k260 (s261.o q))) | (have t := k265; exact (fun _ => ots_s n265.o m265.o (by omega) (Or.inl ⟨k265, by omega⟩))) | (have t := k332; exact (fun _ => ots_s n332.o m332.o (by omega) (Or.inr (Or.inl ⟨k332, by omega⟩)))) | (have t := k401; exact (fun _ => ots_s n401.o m401.o (by omega) (Or.inr (Or.inr ⟨k401, by omega⟩)))) | (have t := k475; exact (fun _ => ots_20 n475.o m475.o (by omega) k475.o (by omega))))⟩
            · rw [show z280 = 1 by omega] at gp311
              refine y_aload_n rfl rfl ?_
              refine y_bipush rfl rfl ?_
              have w287 : Xi T30 876 7 = Xi T23 876 7 := (show Xi T30 876 7 = Xi T29 876 7 from w281.x _ _ rfl).trans ( (show Xi T29 876 7 = Xi T28 876 7 from w269.x _ _ rfl).trans ( (show Xi T28 876 7 = Xi T27 876 7 from w257.x _ _ rfl).trans ( (show Xi T27 876 7 = Xi T26 876 7 from w245.x _ _ rfl).trans ( (show Xi T26 876 7 = Xi T25 876 7 from w233.x _ _ rfl).trans ( (show Xi T25 876 7 = Xi U24 876 7 from w221.x _ _ rfl).trans ((show Xi U24 876 7 = Xi T23 876 7 from by rw [eU24]; exact Xi_ne (by omega))))))))
              refine y_callV rfl rfl rfl (t_gr_take__p hHT30 103 ⟨by omega, by omega⟩ (by first | assumption | exact (NFR_FR hFT30 rfl rfl (by assumption : NFR S))) (by first | assumption | omega) (by first | assumption | omega) _) ?_
              rintro _ T31 ⟨hHT31, w293, z292, rfl, w292, w290, w291⟩
              have hFT31 : FR md_gr_checkOthers__p S T31 := FR.tr hFT30 w293 rfl
              show Pl _ _ _ _ _ _ [iv z292] _ _
              have gp320 := w290
              rw [FRT hFT30 rfl rfl] at gp320
              clear w290
              refine y_if_eq rfl rfl (by unfold rg; omega) (fun w294 => ?_) (fun w295 => ?_)
              · rw [show z292 = 0 by omega] at gp320
                refine y_iconst rfl ?_
                refine y_ireturn rfl rfl ?_
                have w296 : Xi T31 876 7 = Xi T23 876 7 := (show Xi T31 876 7 = Xi T30 876 7 from w293.x _ _ rfl).trans ( (show Xi T30 876 7 = Xi T29 876 7 from w281.x _ _ rfl).trans ( (show Xi T29 876 7 = Xi T28 876 7 from w269.x _ _ rfl).trans ( (show Xi T28 876 7 = Xi T27 876 7 from w257.x _ _ rfl).trans ( (show Xi T27 876 7 = Xi T26 876 7 from w245.x _ _ rfl).trans ( (show Xi T26 876 7 = Xi T25 876 7 from w233.x _ _ rfl).trans ( (show Xi T25 876 7 = Xi U24 876 7 from w221.x _ _ rfl).trans ((show Xi U24 876 7 = Xi T23 876 7 from by rw [eU24]; exact Xi_ne (by omega)))))))))
                have w297 : Xi T31 890 2 = Xi U24 890 2 := (show Xi T31 890 2 = Xi T30 890 2 from w293.x _ _ rfl).trans ( (show Xi T30 890 2 = Xi T29 890 2 from w281.x _ _ rfl).trans ( (show Xi T29 890 2 = Xi T28 890 2 from w269.x _ _ rfl).trans ( (show Xi T28 890 2 = Xi T27 890 2 from w257.x _ _ rfl).trans ( (show Xi T27 890 2 = Xi T26 890 2 from w245.x _ _ rfl).trans ( (show Xi T26 890 2 = Xi T25 890 2 from w233.x _ _ rfl).trans ((show Xi T25 890 2 = Xi U24 890 2 from w221.x _ _ rfl)))))))
                have w298 : Xi T31 890 3 = Xi T23 890 3 := (show Xi T31 890 3 = Xi T30 890 3 from w293.x _ _ rfl).trans ( (show Xi T30 890 3 = Xi T29 890 3 from w281.x _ _ rfl).trans ( (show Xi T29 890 3 = Xi T28 890 3 from w269.x _ _ rfl).trans ( (show Xi T28 890 3 = Xi T27 890 3 from w257.x _ _ rfl).trans ( (show Xi T27 890 3 = Xi T26 890 3 from w245.x _ _ rfl).trans ( (show Xi T26 890 3 = Xi T25 890 3 from w233.x _ _ rfl).trans ( (show Xi T25 890 3 = Xi U24 890 3 from w221.x _ _ rfl).trans ((show Xi U24 890 3 = Xi T23 890 3 from by rw [eU24]; exact Xi_ne (by omega)))))))))
                exact ⟨hHT31, hFT31, _, rfl, ⟨by omega, by omega⟩, (by  first | (have t := k25; rw [ckO_7 k25]; simp only [gS_1, gS_0, o_1, o_0, i10, i00, n10, n00, if_true, if_false, gp272, gp281, gp288, gp295, gp304, gp311, gp320]) | (have t := k125; rw [ckO_8 k125]; simp only [gS_1, gS_0, o_1, o_0, i10, i00, n10, n00, if_true, if_false, gp272, gp281, gp288, gp295, gp304, gp311, gp320]) | (have t := k260; rw [ckO_b n260.o m260.o k260]; exact gp261) | (have t := k265; rw [ckO_17 n265.o m265.o k265]; simp only [gS_1, gS_0, o_1, o_0, i10, i00, n10, n00, if_true, if_false, gp272, gp281, gp288, gp295, gp304, gp311, gp320]) | (have t := k332; rw [ckO_18 n332.o m332.o k332]; simp only [gS_1, gS_0, o_1, o_0, i10, i00, n10, n00, if_true, if_false, gp272, gp281, gp288, gp295, gp304, gp311, gp320]) | (have t := k401; rw [ckO_19 n401.o m401.o k401]; simp only [gS_1, gS_0, o_1, o_0, i10, i00, n10, n00, if_true, if_false, gp272, gp281, gp288, gp295, gp304, gp311, gp320]) | (have t := k475; rw [ckO_20 n475.o m475.o k475.o]; simp only [gS_1, gS_0, o_1, o_0, i10, i00, n10, n00, if_true, if_false, gp272, gp281, gp288, gp295, gp304, gp311, gp320])), (by omega), (by first | (have t := k25; exact (fun _ => ots_7 k25 (by omega))) | (have t := k125; exact (fun _ => ots_8 k125 (by omega))) | (have t := k260; exact (fun q => ots_b n260.o m260.o (by omega) k260 (s261.o q))) | (have t := k265; exact (fun _ => ots_s n265.o m265.o (by omega) (Or.inl ⟨k265, by omega⟩))) | (have t := k332; exact (fun _ => ots_s n332.o m332.o (by omega) (Or.inr (Or.inl ⟨k332, by omega⟩)))) | (have t := k401; exact (fun _ => ots_s n401.o m401.o (by omega) (Or.inr (Or.inr ⟨k401, by omega⟩)))) | (have t := k475; exact (fun _ => ots_20 n475.o m475.o (by omega) k475.o (by omega))))⟩
              · rw [show z292 = 1 by omega] at gp320
                refine y_iconst rfl ?_
                refine y_goto rfl rfl ?_
                refine y_ireturn rfl rfl ?_
                have w299 : Xi T31 876 7 = Xi T23 876 7 := (show Xi T31 876 7 = Xi T30 876 7 from w293.x _ _ rfl).trans ( (show Xi T30 876 7 = Xi T29 876 7 from w281.x _ _ rfl).trans ( (show Xi T29 876 7 = Xi T28 876 7 from w269.x _ _ rfl).trans ( (show Xi T28 876 7 = Xi T27 876 7 from w257.x _ _ rfl).trans ( (show Xi T27 876 7 = Xi T26 876 7 from w245.x _ _ rfl).trans ( (show Xi T26 876 7 = Xi T25 876 7 from w233.x _ _ rfl).trans ( (show Xi T25 876 7 = Xi U24 876 7 from w221.x _ _ rfl).trans ((show Xi U24 876 7 = Xi T23 876 7 from by rw [eU24]; exact Xi_ne (by omega)))))))))
                have w300 : Xi T31 890 2 = Xi U24 890 2 := (show Xi T31 890 2 = Xi T30 890 2 from w293.x _ _ rfl).trans ( (show Xi T30 890 2 = Xi T29 890 2 from w281.x _ _ rfl).trans ( (show Xi T29 890 2 = Xi T28 890 2 from w269.x _ _ rfl).trans ( (show Xi T28 890 2 = Xi T27 890 2 from w257.x _ _ rfl).trans ( (show Xi T27 890 2 = Xi T26 890 2 from w245.x _ _ rfl).trans ( (show Xi T26 890 2 = Xi T25 890 2 from w233.x _ _ rfl).trans ((show Xi T25 890 2 = Xi U24 890 2 from w221.x _ _ rfl)))))))
                have w301 : Xi T31 890 3 = Xi T23 890 3 := (show Xi T31 890 3 = Xi T30 890 3 from w293.x _ _ rfl).trans ( (show Xi T30 890 3 = Xi T29 890 3 from w281.x _ _ rfl).trans ( (show Xi T29 890 3 = Xi T28 890 3 from w269.x _ _ rfl).trans ( (show Xi T28 890 3 = Xi T27 890 3 from w257.x _ _ rfl).trans ( (show Xi T27 890 3 = Xi T26 890 3 from w245.x _ _ rfl).trans ( (show Xi T26 890 3 = Xi T25 890 3 from w233.x _ _ rfl).trans ( (show Xi T25 890 3 = Xi U24 890 3 from w221.x _ _ rfl).trans ((show Xi U24 890 3 = Xi T23 890 3 from by rw [eU24]; exact Xi_ne (by omega)))))))))
                exact ⟨hHT31, hFT31, _, rfl, ⟨by omega, by omega⟩, (by  first | (have t := k25; rw [ckO_7 k25]; simp only [gS_1, gS_0, o_1, o_0, i10, i00, n10, n00, if_true, if_false, gp272, gp281, gp288, gp295, gp304, gp311, gp320]) | (have t := k125; rw [ckO_8 k125]; simp only [gS_1, gS_0, o_1, o_0, i10, i00, n10, n00, if_true, if_false, gp272, gp281, gp288, gp295, gp304, gp311, gp320]) | (have t := k260; rw [ckO_b n260.o m260.o k260]; exact gp261) | (have t := k265; rw [ckO_17 n265.o m265.o k265]; simp only [gS_1, gS_0, o_1, o_0, i10, i00, n10, n00, if_true, if_false, gp272, gp281, gp288, gp295, gp304, gp311, gp320]) | (have t := k332; rw [ckO_18 n332.o m332.o k332]; simp only [gS_1, gS_0, o_1, o_0, i10, i00, n10, n00, if_true, if_false, gp272, gp281, gp288, gp295, gp304, gp311, gp320]) | (have t := k401; rw [ckO_19 n401.o m401.o k401]; simp only [gS_1, gS_0, o_1, o_0, i10, i00, n10, n00, if_true, if_false, gp272, gp281, gp288, gp295, gp304, gp311, gp320]) | (have t := k475; rw [ckO_20 n475.o m475.o k475.o]; simp only [gS_1, gS_0, o_1, o_0, i10, i00, n10, n00, if_true, if_false, gp272, gp281, gp288, gp295, gp304, gp311, gp320])), (by omega), (by first | (have t := k25; exact (fun _ => ots_7 k25 (by omega))) | (have t := k125; exact (fun _ => ots_8 k125 (by omega))) | (have t := k260; exact (fun q => ots_b n260.o m260.o (by omega) k260 (s261.o q))) | (have t := k265; exact (fun _ => ots_s n265.o m265.o (by omega) (Or.inl ⟨k265, by omega⟩))) | (have t := k332; exact (fun _ => ots_s n332.o m332.o (by omega) (Or.inr (Or.inl ⟨k332, by omega⟩)))) | (have t := k401; exact (fun _ => ots_s n401.o m401.o (by omega) (Or.inr (Or.inr ⟨k401, by omega⟩)))) | (have t := k475; exact (fun _ => ots_20 n475.o m475.o (by omega) k475.o (by omega))))⟩
set_option maxRecDepth 100000 in
theorem c332_gr_checkOthers__p {S : sS} (hH : RI S) (hfr : NFR S) (hr : Xi S 876 7 ≤ 5130) (hls : LST S) (h1 : 1 ≤ Xi S 876 7) (d : Nat) (fu : Nat) : ∀  (T32 : sS) (_ : RI T32) (_ : FR md_gr_checkOthers__p S T32), (Hid (¬ (ty7 S 0 = 2 ∧ ty7 S 1 = 25))) → (Hid (¬ (ty7 S 0 = 2 ∧ ty7 S 1 = 19))) → (Xi T32 890 1 = 0) → (Xi T32 890 3 = tk7 (ty7 S)) → (kt7 (ty7 S) = 13) → Pl fu lay0 (d + 5) m_gr_checkOthers 332 [(0, .ref 890)] [] T32 (Q_gr_checkOthers__p S) := by
  have hF : FR md_gr_checkOthers__p S S := FR.rf
  have w1 : -2147483648 ≤ Xi S 876 7 ∧ Xi S 876 7 ≤ 2147483647 := Xi_rgI
  have w2 : -2147483648 ≤ Xi S 890 1 ∧ Xi S 890 1 ≤ 2147483647 := Xi_rgI
  have w3 : -2147483648 ≤ Xi S 890 2 ∧ Xi S 890 2 ≤ 2147483647 := Xi_rgI
  have w4 : -2147483648 ≤ Xi S 890 3 ∧ Xi S 890 3 ≤ 2147483647 := Xi_rgI
  intro T32 hHT32 hFT32 n332 m332 w302 w303 k332
  have w304 : Xi T32 876 7 = Xi S 876 7 := hFT32.x _ _ rfl
  have w305 : -2147483648 ≤ Xi T32 876 7 ∧ Xi T32 876 7 ≤ 2147483647 := Xi_rgI
  have w306 : -2147483648 ≤ Xi T32 890 1 ∧ Xi T32 890 1 ≤ 2147483647 := Xi_rgI
  have w307 : -2147483648 ≤ Xi T32 890 2 ∧ Xi T32 890 2 ≤ 2147483647 := Xi_rgI
  have w308 : -2147483648 ≤ Xi T32 890 3 ∧ Xi T32 890 3 ≤ 2147483647 := Xi_rgI
  refine y_aload_n rfl rfl ?_
  refine y_bipush rfl rfl ?_
  refine y_pfi rfl rfl rfl rfl ?_
  obtain ⟨U33, eU33⟩ : ∃ T : sS, T = uI T32 890 2 (Int32.ofInt 18) := ⟨_, rfl⟩
  rw [← eU33]
  have hHU33 : RI U33 := by rw [eU33]; exact RI_w hHT32
  have hFU33 : FR md_gr_checkOthers__p S U33 := by rw [eU33]; exact FR.wI hFT32 (mdf_i (r := (890, 891, 2, 3)) (List.mem_of_getElem? (i := 1) rfl) (inR_i (by omega) (by omega) (by omega) (by omega)))
  have w309 : Xi U33 890 2 = 18 := by rw [eU33]; exact Xi_same (by unfold rg; omega)
  refine y_aload_n rfl rfl ?_
  have w310 : Xi U33 876 7 = Xi T32 876 7 := (show Xi U33 876 7 = Xi T32 876 7 from by rw [eU33]; exact Xi_ne (by omega))
  have w311 : Xi U33 890 1 = Xi T32 890 1 := (show Xi U33 890 1 = Xi T32 890 1 from by rw [eU33]; exact Xi_ne (by omega))
  refine y_callV rfl rfl rfl (t_gr_takeName__p hHU33 (by first | assumption | exact (NFR_FR hFU33 rfl rfl (by assumption : NFR S))) (by first | assumption | omega) (by first | assumption | omega) _) ?_
  rintro _ T34 ⟨hHT34, w316, z315, rfl, w315, w313, w314⟩
  have hFT34 : FR md_gr_checkOthers__p S T34 := FR.tr hFU33 w316 rfl
  show Pl _ _ _ _ _ _ [iv z315] _ _
  have gp339 := w313
  rw [FRT hFU33 rfl rfl] at gp339
  try rw [show Xi U33 890 1 = Xi T32 890 1 by omega] at gp339
  clear w313
  rw [show Xi T32 890 1 = 0 by omega] at gp339
  refine y_if_eq rfl rfl (by unfold rg; omega) (fun w317 => ?_) (fun w318 => ?_)
  · rw [show z315 = 0 by omega] at gp339
    refine y_iconst rfl ?_
    refine y_ireturn rfl rfl ?_
    have w319 : Xi T34 876 7 = Xi T32 876 7 := (show Xi T34 876 7 = Xi U33 876 7 from w316.x _ _ rfl).trans ((show Xi U33 876 7 = Xi T32 876 7 from by rw [eU33]; exact Xi_ne (by omega)))
    have w320 : Xi T34 890 2 = Xi U33 890 2 := (show Xi T34 890 2 = Xi U33 890 2 from w316.x _ _ rfl)
    have w321 : Xi T34 890 3 = Xi T32 890 3 := (show Xi T34 890 3 = Xi U33 890 3 from w316.x _ _ rfl).trans ((show Xi U33 890 3 = Xi T32 890 3 from by rw [eU33]; exact Xi_ne (by omega)))
    exact ⟨hHT34, hFT34, _, rfl, ⟨by omega, by omega⟩, (by  first | (have t := k25; rw [ckO_7 k25]; simp only [gS_1, gS_0, o_1, o_0, i10, i00, n10, n00, if_true, if_false, gp339]) | (have t := k125; rw [ckO_8 k125]; simp only [gS_1, gS_0, o_1, o_0, i10, i00, n10, n00, if_true, if_false, gp339]) | (have t := k260; rw [ckO_b n260.o m260.o k260]; exact gp261) | (have t := k265; rw [ckO_17 n265.o m265.o k265]; simp only [gS_1, gS_0, o_1, o_0, i10, i00, n10, n00, if_true, if_false, gp339]) | (have t := k332; rw [ckO_18 n332.o m332.o k332]; simp only [gS_1, gS_0, o_1, o_0, i10, i00, n10, n00, if_true, if_false, gp339]) | (have t := k401; rw [ckO_19 n401.o m401.o k401]; simp only [gS_1, gS_0, o_1, o_0, i10, i00, n10, n00, if_true, if_false, gp339]) | (have t := k475; rw [ckO_20 n475.o m475.o k475.o]; simp only [gS_1, gS_0, o_1, o_0, i10, i00, n10, n00, if_true, if_false, gp339])), (by omega), (by first | (have t := k25; exact (fun _ => ots_7 k25 (by omega))) | (have t := k125; exact (fun _ => ots_8 k125 (by omega))) | (have t := k260; exact (fun q => ots_b n260.o m260.o (by omega) k260 (s261.o q))) | (have t := k265; exact (fun _ => ots_s n265.o m265.o (by omega) (Or.inl ⟨k265, by omega⟩))) | (have t := k332; exact (fun _ => ots_s n332.o m332.o (by omega) (Or.inr (Or.inl ⟨k332, by omega⟩)))) | (have t := k401; exact (fun _ => ots_s n401.o m401.o (by omega) (Or.inr (Or.inr ⟨k401, by omega⟩)))) | (have t := k475; exact (fun _ => ots_20 n475.o m475.o (by omega) k475.o (by omega))))⟩
  · rw [show z315 = 1 by omega] at gp339
    refine y_aload_n rfl rfl ?_
    refine y_bipush rfl rfl ?_
    have w322 : Xi T34 876 7 = Xi T32 876 7 := (show Xi T34 876 7 = Xi U33 876 7 from w316.x _ _ rfl).trans ((show Xi U33 876 7 = Xi T32 876 7 from by rw [eU33]; exact Xi_ne (by omega)))
    refine y_callV rfl rfl rfl (t_gr_take__p hHT34 13 ⟨by omega, by omega⟩ (by first | assumption | exact (NFR_FR hFT34 rfl rfl (by assumption : NFR S))) (by first | assumption | omega) (by first | assumption | omega) _) ?_
    rintro _ T35 ⟨hHT35, w328, z327, rfl, w327, w325, w326⟩
    have hFT35 : FR md_gr_checkOthers__p S T35 := FR.tr hFT34 w328 rfl
    show Pl _ _ _ _ _ _ [iv z327] _ _
    have gp348 := w325
    rw [FRT hFT34 rfl rfl] at gp348
    clear w325
    refine y_if_eq rfl rfl (by unfold rg; omega) (fun w329 => ?_) (fun w330 => ?_)
    · rw [show z327 = 0 by omega] at gp348
      refine y_iconst rfl ?_
      refine y_ireturn rfl rfl ?_
      have w331 : Xi T35 876 7 = Xi T32 876 7 := (show Xi T35 876 7 = Xi T34 876 7 from w328.x _ _ rfl).trans ( (show Xi T34 876 7 = Xi U33 876 7 from w316.x _ _ rfl).trans ((show Xi U33 876 7 = Xi T32 876 7 from by rw [eU33]; exact Xi_ne (by omega))))
      have w332 : Xi T35 890 2 = Xi U33 890 2 := (show Xi T35 890 2 = Xi T34 890 2 from w328.x _ _ rfl).trans ((show Xi T34 890 2 = Xi U33 890 2 from w316.x _ _ rfl))
      have w333 : Xi T35 890 3 = Xi T32 890 3 := (show Xi T35 890 3 = Xi T34 890 3 from w328.x _ _ rfl).trans ( (show Xi T34 890 3 = Xi U33 890 3 from w316.x _ _ rfl).trans ((show Xi U33 890 3 = Xi T32 890 3 from by rw [eU33]; exact Xi_ne (by omega))))
      exact ⟨hHT35, hFT35, _, rfl, ⟨by omega, by omega⟩, (by  first | (have t := k25; rw [ckO_7 k25]; simp only [gS_1, gS_0, o_1, o_0, i10, i00, n10, n00, if_true, if_false, gp339, gp348]) | (have t := k125; rw [ckO_8 k125]; simp only [gS_1, gS_0, o_1, o_0, i10, i00, n10, n00, if_true, if_false, gp339, gp348]) | (have t := k260; rw [ckO_b n260.o m260.o k260]; exact gp261) | (have t := k265; rw [ckO_17 n265.o m265.o k265]; simp only [gS_1, gS_0, o_1, o_0, i10, i00, n10, n00, if_true, if_false, gp339, gp348]) | (have t := k332; rw [ckO_18 n332.o m332.o k332]; simp only [gS_1, gS_0, o_1, o_0, i10, i00, n10, n00, if_true, if_false, gp339, gp348]) | (have t := k401; rw [ckO_19 n401.o m401.o k401]; simp only [gS_1, gS_0, o_1, o_0, i10, i00, n10, n00, if_true, if_false, gp339, gp348]) | (have t := k475; rw [ckO_20 n475.o m475.o k475.o]; simp only [gS_1, gS_0, o_1, o_0, i10, i00, n10, n00, if_true, if_false, gp339, gp348])), (by omega), (by first | (have t := k25; exact (fun _ => ots_7 k25 (by omega))) | (have t := k125; exact (fun _ => ots_8 k125 (by omega))) | (have t := k260; exact (fun q => ots_b n260.o m260.o (by omega) k260 (s261.o q))) | (have t := k265; exact (fun _ => ots_s n265.o m265.o (by omega) (Or.inl ⟨k265, by omega⟩))) | (have t := k332; exact (fun _ => ots_s n332.o m332.o (by omega) (Or.inr (Or.inl ⟨k332, by omega⟩)))) | (have t := k401; exact (fun _ => ots_s n401.o m401.o (by omega) (Or.inr (Or.inr ⟨k401, by omega⟩)))) | (have t := k475; exact (fun _ => ots_20 n475.o m475.o (by omega) k475.o (by omega))))⟩
    · rw [show z327 = 1 by omega] at gp348
      refine y_aload_n rfl rfl ?_
      refine y_bipush rfl rfl ?_
      have w334 : Xi T35 876 7 = Xi T32 876 7 := (show Xi T35 876 7 = Xi T34 876 7 from w328.x _ _ rfl).trans ( (show Xi T34 876 7 = Xi U33 876 7 from w316.x _ _ rfl).trans ((show Xi U33 876 7 = Xi T32 876 7 from by rw [eU33]; exact Xi_ne (by omega))))
      refine y_callV rfl rfl rfl (t_gr_take__p hHT35 14 ⟨by omega, by omega⟩ (by first | assumption | exact (NFR_FR hFT35 rfl rfl (by assumption : NFR S))) (by first | assumption | omega) (by first | assumption | omega) _) ?_
      rintro _ T36 ⟨hHT36, w340, z339, rfl, w339, w337, w338⟩
      have hFT36 : FR md_gr_checkOthers__p S T36 := FR.tr hFT35 w340 rfl
      show Pl _ _ _ _ _ _ [iv z339] _ _
      have gp357 := w337
      rw [FRT hFT35 rfl rfl] at gp357
      clear w337
      refine y_if_eq rfl rfl (by unfold rg; omega) (fun w341 => ?_) (fun w342 => ?_)
      · rw [show z339 = 0 by omega] at gp357
        refine y_iconst rfl ?_
        refine y_ireturn rfl rfl ?_
        have w343 : Xi T36 876 7 = Xi T32 876 7 := (show Xi T36 876 7 = Xi T35 876 7 from w340.x _ _ rfl).trans ( (show Xi T35 876 7 = Xi T34 876 7 from w328.x _ _ rfl).trans ( (show Xi T34 876 7 = Xi U33 876 7 from w316.x _ _ rfl).trans ((show Xi U33 876 7 = Xi T32 876 7 from by rw [eU33]; exact Xi_ne (by omega)))))
        have w344 : Xi T36 890 2 = Xi U33 890 2 := (show Xi T36 890 2 = Xi T35 890 2 from w340.x _ _ rfl).trans ( (show Xi T35 890 2 = Xi T34 890 2 from w328.x _ _ rfl).trans ((show Xi T34 890 2 = Xi U33 890 2 from w316.x _ _ rfl)))
        have w345 : Xi T36 890 3 = Xi T32 890 3 := (show Xi T36 890 3 = Xi T35 890 3 from w340.x _ _ rfl).trans ( (show Xi T35 890 3 = Xi T34 890 3 from w328.x _ _ rfl).trans ( (show Xi T34 890 3 = Xi U33 890 3 from w316.x _ _ rfl).trans ((show Xi U33 890 3 = Xi T32 890 3 from by rw [eU33]; exact Xi_ne (by omega)))))
        exact ⟨hHT36, hFT36, _, rfl, ⟨by omega, by omega⟩, (by  first | (have t := k25; rw [ckO_7 k25]; simp only [gS_1, gS_0, o_1, o_0, i10, i00, n10, n00, if_true, if_false, gp339, gp348, gp357]) | (have t := k125; rw [ckO_8 k125]; simp only [gS_1, gS_0, o_1, o_0, i10, i00, n10, n00, if_true, if_false, gp339, gp348, gp357]) | (have t := k260; rw [ckO_b n260.o m260.o k260]; exact gp261) | (have t := k265; rw [ckO_17 n265.o m265.o k265]; simp only [gS_1, gS_0, o_1, o_0, i10, i00, n10, n00, if_true, if_false, gp339, gp348, gp357]) | (have t := k332; rw [ckO_18 n332.o m332.o k332]; simp only [gS_1, gS_0, o_1, o_0, i10, i00, n10, n00, if_true, if_false, gp339, gp348, gp357]) | (have t := k401; rw [ckO_19 n401.o m401.o k401]; simp only [gS_1, gS_0, o_1, o_0, i10, i00, n10, n00, if_true, if_false, gp339, gp348, gp357]) | (have t := k475; rw [ckO_20 n475.o m475.o k475.o]; simp only [gS_1, gS_0, o_1, o_0, i10, i00, n10, n00, if_true, if_false, gp339, gp348, gp357])), (by omega), (by first | (have t := k25; exact (fun _ => ots_7 k25 (by omega))) | (have t := k125; exact (fun _ => ots_8 k125 (by omega))) | (have t := k260; exact (fun q => ots_b n260.o m260.o (by omega) k260 (s261.o q))) | (have t := k265; exact (fun _ => ots_s n265.o m265.o (by omega) (Or.inl ⟨k265, by omega⟩))) | (have t := k332; exact (fun _ => ots_s n332.o m332.o (by omega) (Or.inr (Or.inl ⟨k332, by omega⟩)))) | (have t := k401; exact (fun _ => ots_s n401.o m401.o (by omega) (Or.inr (Or.inr ⟨k401, by omega⟩)))) | (have t := k475; exact (fun _ => ots_20 n475.o m475.o (by omega) k475.o (by omega))))⟩
      · rw [show z339 = 1 by omega] at gp357
        refine y_aload_n rfl rfl ?_
        have w346 : Xi T36 876 7 = Xi T32 876 7 := (show Xi T36 876 7 = Xi T35 876 7 from w340.x _ _ rfl).trans ( (show Xi T35 876 7 = Xi T34 876 7 from w328.x _ _ rfl).trans ( (show Xi T34 876 7 = Xi U33 876 7 from w316.x _ _ rfl).trans ((show Xi U33 876 7 = Xi T32 876 7 from by rw [eU33]; exact Xi_ne (by omega)))))
        refine y_callV rfl rfl rfl (t_gr_takeRun__p hHT36 (by first | assumption | exact (NFR_FR hFT36 rfl rfl (by assumption : NFR S))) (by first | assumption | omega) (by first | assumption | omega) _) ?_
        rintro _ T37 ⟨hHT37, w352, z351, rfl, w351, w349, w350⟩
        have hFT37 : FR md_gr_checkOthers__p S T37 := FR.tr hFT36 w352 rfl
        show Pl _ _ _ _ _ _ [iv z351] _ _
        have gp364 := w349
        rw [FRT hFT36 rfl rfl] at gp364
        clear w349
        refine y_if_eq rfl rfl (by unfold rg; omega) (fun w353 => ?_) (fun w354 => ?_)
        · rw [show z351 = 0 by omega] at gp364
          refine y_iconst rfl ?_
          refine y_ireturn rfl rfl ?_
          have w355 : Xi T37 876 7 = Xi T32 876 7 := (show Xi T37 876 7 = Xi T36 876 7 from w352.x _ _ rfl).trans ( (show Xi T36 876 7 = Xi T35 876 7 from w340.x _ _ rfl).trans ( (show Xi T35 876 7 = Xi T34 876 7 from w328.x _ _ rfl).trans ( (show Xi T34 876 7 = Xi U33 876 7 from w316.x _ _ rfl).trans ((show Xi U33 876 7 = Xi T32 876 7 from by rw [eU33]; exact Xi_ne (by omega))))))
          have w356 : Xi T37 890 2 = Xi U33 890 2 := (show Xi T37 890 2 = Xi T36 890 2 from w352.x _ _ rfl).trans ( (show Xi T36 890 2 = Xi T35 890 2 from w340.x _ _ rfl).trans ( (show Xi T35 890 2 = Xi T34 890 2 from w328.x _ _ rfl).trans ((show Xi T34 890 2 = Xi U33 890 2 from w316.x _ _ rfl))))
          have w357 : Xi T37 890 3 = Xi T32 890 3 := (show Xi T37 890 3 = Xi T36 890 3 from w352.x _ _ rfl).trans ( (show Xi T36 890 3 = Xi T35 890 3 from w340.x _ _ rfl).trans ( (show Xi T35 890 3 = Xi T34 890 3 from w328.x _ _ rfl).trans ( (show Xi T34 890 3 = Xi U33 890 3 from w316.x _ _ rfl).trans ((show Xi U33 890 3 = Xi T32 890 3 from by rw [eU33]; exact Xi_ne (by omega))))))
          exact ⟨hHT37, hFT37, _, rfl, ⟨by omega, by omega⟩, (by  first | (have t := k25; rw [ckO_7 k25]; simp only [gS_1, gS_0, o_1, o_0, i10, i00, n10, n00, if_true, if_false, gp339, gp348, gp357, gp364]) | (have t := k125; rw [ckO_8 k125]; simp only [gS_1, gS_0, o_1, o_0, i10, i00, n10, n00, if_true, if_false, gp339, gp348, gp357, gp364]) | (have t := k260; rw [ckO_b n260.o m260.o k260]; exact gp261) | (have t := k265; rw [ckO_17 n265.o m265.o k265]; simp only [gS_1, gS_0, o_1, o_0, i10, i00, n10, n00, if_true, if_false, gp339, gp348, gp357, gp364]) | (have t := k332; rw [ckO_18 n332.o m332.o k332]; simp only [gS_1, gS_0, o_1, o_0, i10, i00, n10, n00, if_true, if_false, gp339, gp348, gp357, gp364]) | (have t := k401; rw [ckO_19 n401.o m401.o k401]; simp only [gS_1, gS_0, o_1, o_0, i10, i00, n10, n00, if_true, if_false, gp339, gp348, gp357, gp364]) | (have t := k475; rw [ckO_20 n475.o m475.o k475.o]; simp only [gS_1, gS_0, o_1, o_0, i10, i00, n10, n00, if_true, if_false, gp339, gp348, gp357, gp364])), (by omega), (by first | (have t := k25; exact (fun _ => ots_7 k25 (by omega))) | (have t := k125; exact (fun _ => ots_8 k125 (by omega))) | (have t := k260; exact (fun q => ots_b n260.o m260.o (by omega) k260 (s261.o q))) | (have t := k265; exact (fun _ => ots_s n265.o m265.o (by omega) (Or.inl ⟨k265, by omega⟩))) | (have t := k332; exact (fun _ => ots_s n332.o m332.o (by omega) (Or.inr (Or.inl ⟨k332, by omega⟩)))) | (have t := k401; exact (fun _ => ots_s n401.o m401.o (by omega) (Or.inr (Or.inr ⟨k401, by omega⟩)))) | (have t := k475; exact (fun _ => ots_20 n475.o m475.o (by omega) k475.o (by omega))))⟩
        · rw [show z351 = 1 by omega] at gp364
          refine y_aload_n rfl rfl ?_
          refine y_bipush rfl rfl ?_
          have w358 : Xi T37 876 7 = Xi T32 876 7 := (show Xi T37 876 7 = Xi T36 876 7 from w352.x _ _ rfl).trans ( (show Xi T36 876 7 = Xi T35 876 7 from w340.x _ _ rfl).trans ( (show Xi T35 876 7 = Xi T34 876 7 from w328.x _ _ rfl).trans ( (show Xi T34 876 7 = Xi U33 876 7 from w316.x _ _ rfl).trans ((show Xi U33 876 7 = Xi T32 876 7 from by rw [eU33]; exact Xi_ne (by omega))))))
          refine y_callV rfl rfl rfl (t_gr_take__p hHT37 15 ⟨by omega, by omega⟩ (by first | assumption | exact (NFR_FR hFT37 rfl rfl (by assumption : NFR S))) (by first | assumption | omega) (by first | assumption | omega) _) ?_
          rintro _ T38 ⟨hHT38, w364, z363, rfl, w363, w361, w362⟩
          have hFT38 : FR md_gr_checkOthers__p S T38 := FR.tr hFT37 w364 rfl
          show Pl _ _ _ _ _ _ [iv z363] _ _
          have gp373 := w361
          rw [FRT hFT37 rfl rfl] at gp373
          clear w361
          refine y_if_eq rfl rfl (by unfold rg; omega) (fun w365 => ?_) (fun w366 => ?_)
          · rw [show z363 = 0 by omega] at gp373
            refine y_iconst rfl ?_
            refine y_ireturn rfl rfl ?_
            have w367 : Xi T38 876 7 = Xi T32 876 7 := (show Xi T38 876 7 = Xi T37 876 7 from w364.x _ _ rfl).trans ( (show Xi T37 876 7 = Xi T36 876 7 from w352.x _ _ rfl).trans ( (show Xi T36 876 7 = Xi T35 876 7 from w340.x _ _ rfl).trans ( (show Xi T35 876 7 = Xi T34 876 7 from w328.x _ _ rfl).trans ( (show Xi T34 876 7 = Xi U33 876 7 from w316.x _ _ rfl).trans ((show Xi U33 876 7 = Xi T32 876 7 from by rw [eU33]; exact Xi_ne (by omega)))))))
            have w368 : Xi T38 890 2 = Xi U33 890 2 := (show Xi T38 890 2 = Xi T37 890 2 from w364.x _ _ rfl).trans ( (show Xi T37 890 2 = Xi T36 890 2 from w352.x _ _ rfl).trans ( (show Xi T36 890 2 = Xi T35 890 2 from w340.x _ _ rfl).trans ( (show Xi T35 890 2 = Xi T34 890 2 from w328.x _ _ rfl).trans ((show Xi T34 890 2 = Xi U33 890 2 from w316.x _ _ rfl)))))
            have w369 : Xi T38 890 3 = Xi T32 890 3 := (show Xi T38 890 3 = Xi T37 890 3 from w364.x _ _ rfl).trans ( (show Xi T37 890 3 = Xi T36 890 3 from w352.x _ _ rfl).trans ( (show Xi T36 890 3 = Xi T35 890 3 from w340.x _ _ rfl).trans ( (show Xi T35 890 3 = Xi T34 890 3 from w328.x _ _ rfl).trans ( (show Xi T34 890 3 = Xi U33 890 3 from w316.x _ _ rfl).trans ((show Xi U33 890 3 = Xi T32 890 3 from by rw [eU33]; exact Xi_ne (by omega)))))))
            exact ⟨hHT38, hFT38, _, rfl, ⟨by omega, by omega⟩, (by  first | (have t := k25; rw [ckO_7 k25]; simp only [gS_1, gS_0, o_1, o_0, i10, i00, n10, n00, if_true, if_false, gp339, gp348, gp357, gp364, gp373]) | (have t := k125; rw [ckO_8 k125]; simp only [gS_1, gS_0, o_1, o_0, i10, i00, n10, n00, if_true, if_false, gp339, gp348, gp357, gp364, gp373]) | (have t := k260; rw [ckO_b n260.o m260.o k260]; exact gp261) | (have t := k265; rw [ckO_17 n265.o m265.o k265]; simp only [gS_1, gS_0, o_1, o_0, i10, i00, n10, n00, if_true, if_false, gp339, gp348, gp357, gp364, gp373]) | (have t := k332; rw [ckO_18 n332.o m332.o k332]; simp only [gS_1, gS_0, o_1, o_0, i10, i00, n10, n00, if_true, if_false, gp339, gp348, gp357, gp364, gp373]) | (have t := k401; rw [ckO_19 n401.o m401.o k401]; simp only [gS_1, gS_0, o_1, o_0, i10, i00, n10, n00, if_true, if_false, gp339, gp348, gp357, gp364, gp373]) | (have t := k475; rw [ckO_20 n475.o m475.o k475.o]; simp only [gS_1, gS_0, o_1, o_0, i10, i00, n10, n00, if_true, if_false, gp339, gp348, gp357, gp364, gp373])), (by omega), (by first | (have t := k25; exact (fun _ => ots_7 k25 (by omega))) | (have t := k125; exact (fun _ => ots_8 k125 (by omega))) | (have t := k260; exact (fun q => ots_b n260.o m260.o (by omega) k260 (s261.o q))) | (have t := k265; exact (fun _ => ots_s n265.o m265.o (by omega) (Or.inl ⟨k265, by omega⟩))) | (have t := k332; exact (fun _ => ots_s n332.o m332.o (by omega) (Or.inr (Or.inl ⟨k332, by omega⟩)))) | (have t := k401; exact (fun _ => ots_s n401.o m401.o (by omega) (Or.inr (Or.inr ⟨k401, by omega⟩)))) | (have t := k475; exact (fun _ => ots_20 n475.o m475.o (by omega) k475.o (by omega))))⟩
          · rw [show z363 = 1 by omega] at gp373
            refine y_aload_n rfl rfl ?_
            have w370 : Xi T38 876 7 = Xi T32 876 7 := (show Xi T38 876 7 = Xi T37 876 7 from w364.x _ _ rfl).trans ( (show Xi T37 876 7 = Xi T36 876 7 from w352.x _ _ rfl).trans ( (show Xi T36 876 7 = Xi T35 876 7 from w340.x _ _ rfl).trans ( (show Xi T35 876 7 = Xi T34 876 7 from w328.x _ _ rfl).trans ( (show Xi T34 876 7 = Xi U33 876 7 from w316.x _ _ rfl).trans ((show Xi U33 876 7 = Xi T32 876 7 from by rw [eU33]; exact Xi_ne (by omega)))))))
            refine y_callV rfl rfl rfl (t_gr_takeRun__p hHT38 (by first | assumption | exact (NFR_FR hFT38 rfl rfl (by assumption : NFR S))) (by first | assumption | omega) (by first | assumption | omega) _) ?_
            rintro _ T39 ⟨hHT39, w376, z375, rfl, w375, w373, w374⟩
            have hFT39 : FR md_gr_checkOthers__p S T39 := FR.tr hFT38 w376 rfl
            show Pl _ _ _ _ _ _ [iv z375] _ _
            have gp380 := w373
            rw [FRT hFT38 rfl rfl] at gp380
            clear w373
            refine y_if_eq rfl rfl (by unfold rg; omega) (fun w377 => ?_) (fun w378 => ?_)
            · rw [show z375 = 0 by omega] at gp380
              refine y_iconst rfl ?_
              refine y_ireturn rfl rfl ?_
              have w379 : Xi T39 876 7 = Xi T32 876 7 := (show Xi T39 876 7 = Xi T38 876 7 from w376.x _ _ rfl).trans ( (show Xi T38 876 7 = Xi T37 876 7 from w364.x _ _ rfl).trans ( (show Xi T37 876 7 = Xi T36 876 7 from w352.x _ _ rfl).trans ( (show Xi T36 876 7 = Xi T35 876 7 from w340.x _ _ rfl).trans ( (show Xi T35 876 7 = Xi T34 876 7 from w328.x _ _ rfl).trans ( (show Xi T34 876 7 = Xi U33 876 7 from w316.x _ _ rfl).trans ((show Xi U33 876 7 = Xi T32 876 7 from by rw [eU33]; exact Xi_ne (by omega))))))))
              have w380 : Xi T39 890 2 = Xi U33 890 2 := (show Xi T39 890 2 = Xi T38 890 2 from w376.x _ _ rfl).trans ( (show Xi T38 890 2 = Xi T37 890 2 from w364.x _ _ rfl).trans ( (show Xi T37 890 2 = Xi T36 890 2 from w352.x _ _ rfl).trans ( (show Xi T36 890 2 = Xi T35 890 2 from w340.x _ _ rfl).trans ( (show Xi T35 890 2 = Xi T34 890 2 from w328.x _ _ rfl).trans ((show Xi T34 890 2 = Xi U33 890 2 from w316.x _ _ rfl))))))
              have w381 : Xi T39 890 3 = Xi T32 890 3 := (show Xi T39 890 3 = Xi T38 890 3 from w376.x _ _ rfl).trans ( (show Xi T38 890 3 = Xi T37 890 3 from w364.x _ _ rfl).trans ( (show Xi T37 890 3 = Xi T36 890 3 from w352.x _ _ rfl).trans ( (show Xi T36 890 3 = Xi T35 890 3 from w340.x _ _ rfl).trans ( (show Xi T35 890 3 = Xi T34 890 3 from w328.x _ _ rfl).trans ( (show Xi T34 890 3 = Xi U33 890 3 from w316.x _ _ rfl).trans ((show Xi U33 890 3 = Xi T32 890 3 from by rw [eU33]; exact Xi_ne (by omega))))))))
              exact ⟨hHT39, hFT39, _, rfl, ⟨by omega, by omega⟩, (by  first | (have t := k25; rw [ckO_7 k25]; simp only [gS_1, gS_0, o_1, o_0, i10, i00, n10, n00, if_true, if_false, gp339, gp348, gp357, gp364, gp373, gp380]) | (have t := k125; rw [ckO_8 k125]; simp only [gS_1, gS_0, o_1, o_0, i10, i00, n10, n00, if_true, if_false, gp339, gp348, gp357, gp364, gp373, gp380]) | (have t := k260; rw [ckO_b n260.o m260.o k260]; exact gp261) | (have t := k265; rw [ckO_17 n265.o m265.o k265]; simp only [gS_1, gS_0, o_1, o_0, i10, i00, n10, n00, if_true, if_false, gp339, gp348, gp357, gp364, gp373, gp380]) | (have t := k332; rw [ckO_18 n332.o m332.o k332]; simp only [gS_1, gS_0, o_1, o_0, i10, i00, n10, n00, if_true, if_false, gp339, gp348, gp357, gp364, gp373, gp380]) | (have t := k401; rw [ckO_19 n401.o m401.o k401]; simp only [gS_1, gS_0, o_1, o_0, i10, i00, n10, n00, if_true, if_false, gp339, gp348, gp357, gp364, gp373, gp380]) | (have t := k475; rw [ckO_20 n475.o m475.o k475.o]; simp only [gS_1, gS_0, o_1, o_0, i10, i00, n10, n00, if_true, if_false, gp339, gp348, gp357, gp364, gp373, gp380])), (by omega), (by first | (have t := k25; exact (fun _ => ots_7 k25 (by omega))) | (have t := k125; exact (fun _ => ots_8 k125 (by omega))) | (have t := k260; exact (fun q => ots_b n260.o m260.o (by omega) k260 (s261.o q))) | (have t := k265; exact (fun _ => ots_s n265.o m265.o (by omega) (Or.inl ⟨k265, by omega⟩))) | (have t := k332; exact (fun _ => ots_s n332.o m332.o (by omega) (Or.inr (Or.inl ⟨k332, by omega⟩)))) | (have t := k401; exact (fun _ => ots_s n401.o m401.o (by omega) (Or.inr (Or.inr ⟨k401, by omega⟩)))) | (have t := k475; exact (fun _ => ots_20 n475.o m475.o (by omega) k475.o (by omega))))⟩
            · rw [show z375 = 1 by omega] at gp380
              refine y_aload_n rfl rfl ?_
              refine y_bipush rfl rfl ?_
              have w382 : Xi T39 876 7 = Xi T32 876 7 := (show Xi T39 876 7 = Xi T38 876 7 from w376.x _ _ rfl).trans ( (show Xi T38 876 7 = Xi T37 876 7 from w364.x _ _ rfl).trans ( (show Xi T37 876 7 = Xi T36 876 7 from w352.x _ _ rfl).trans ( (show Xi T36 876 7 = Xi T35 876 7 from w340.x _ _ rfl).trans ( (show Xi T35 876 7 = Xi T34 876 7 from w328.x _ _ rfl).trans ( (show Xi T34 876 7 = Xi U33 876 7 from w316.x _ _ rfl).trans ((show Xi U33 876 7 = Xi T32 876 7 from by rw [eU33]; exact Xi_ne (by omega))))))))
              refine y_callV rfl rfl rfl (t_gr_take__p hHT39 103 ⟨by omega, by omega⟩ (by first | assumption | exact (NFR_FR hFT39 rfl rfl (by assumption : NFR S))) (by first | assumption | omega) (by first | assumption | omega) _) ?_
              rintro _ T40 ⟨hHT40, w388, z387, rfl, w387, w385, w386⟩
              have hFT40 : FR md_gr_checkOthers__p S T40 := FR.tr hFT39 w388 rfl
              show Pl _ _ _ _ _ _ [iv z387] _ _
              have gp389 := w385
              rw [FRT hFT39 rfl rfl] at gp389
              clear w385
              refine y_if_eq rfl rfl (by unfold rg; omega) (fun w389 => ?_) (fun w390 => ?_)
              · rw [show z387 = 0 by omega] at gp389
                refine y_iconst rfl ?_
                refine y_ireturn rfl rfl ?_
                have w391 : Xi T40 876 7 = Xi T32 876 7 := (show Xi T40 876 7 = Xi T39 876 7 from w388.x _ _ rfl).trans ( (show Xi T39 876 7 = Xi T38 876 7 from w376.x _ _ rfl).trans ( (show Xi T38 876 7 = Xi T37 876 7 from w364.x _ _ rfl).trans ( (show Xi T37 876 7 = Xi T36 876 7 from w352.x _ _ rfl).trans ( (show Xi T36 876 7 = Xi T35 876 7 from w340.x _ _ rfl).trans ( (show Xi T35 876 7 = Xi T34 876 7 from w328.x _ _ rfl).trans ( (show Xi T34 876 7 = Xi U33 876 7 from w316.x _ _ rfl).trans ((show Xi U33 876 7 = Xi T32 876 7 from by rw [eU33]; exact Xi_ne (by omega)))))))))
                have w392 : Xi T40 890 2 = Xi U33 890 2 := (show Xi T40 890 2 = Xi T39 890 2 from w388.x _ _ rfl).trans ( (show Xi T39 890 2 = Xi T38 890 2 from w376.x _ _ rfl).trans ( (show Xi T38 890 2 = Xi T37 890 2 from w364.x _ _ rfl).trans ( (show Xi T37 890 2 = Xi T36 890 2 from w352.x _ _ rfl).trans ( (show Xi T36 890 2 = Xi T35 890 2 from w340.x _ _ rfl).trans ( (show Xi T35 890 2 = Xi T34 890 2 from w328.x _ _ rfl).trans ((show Xi T34 890 2 = Xi U33 890 2 from w316.x _ _ rfl)))))))
                have w393 : Xi T40 890 3 = Xi T32 890 3 := (show Xi T40 890 3 = Xi T39 890 3 from w388.x _ _ rfl).trans ( (show Xi T39 890 3 = Xi T38 890 3 from w376.x _ _ rfl).trans ( (show Xi T38 890 3 = Xi T37 890 3 from w364.x _ _ rfl).trans ( (show Xi T37 890 3 = Xi T36 890 3 from w352.x _ _ rfl).trans ( (show Xi T36 890 3 = Xi T35 890 3 from w340.x _ _ rfl).trans ( (show Xi T35 890 3 = Xi T34 890 3 from w328.x _ _ rfl).trans ( (show Xi T34 890 3 = Xi U33 890 3 from w316.x _ _ rfl).trans ((show Xi U33 890 3 = Xi T32 890 3 from by rw [eU33]; exact Xi_ne (by omega)))))))))
                exact ⟨hHT40, hFT40, _, rfl, ⟨by omega, by omega⟩, (by  first | (have t := k25; rw [ckO_7 k25]; simp only [gS_1, gS_0, o_1, o_0, i10, i00, n10, n00, if_true, if_false, gp339, gp348, gp357, gp364, gp373, gp380, gp389]) | (have t := k125; rw [ckO_8 k125]; simp only [gS_1, gS_0, o_1, o_0, i10, i00, n10, n00, if_true, if_false, gp339, gp348, gp357, gp364, gp373, gp380, gp389]) | (have t := k260; rw [ckO_b n260.o m260.o k260]; exact gp261) | (have t := k265; rw [ckO_17 n265.o m265.o k265]; simp only [gS_1, gS_0, o_1, o_0, i10, i00, n10, n00, if_true, if_false, gp339, gp348, gp357, gp364, gp373, gp380, gp389]) | (have t := k332; rw [ckO_18 n332.o m332.o k332]; simp only [gS_1, gS_0, o_1, o_0, i10, i00, n10, n00, if_true, if_false, gp339, gp348, gp357, gp364, gp373, gp380, gp389]) | (have t := k401; rw [ckO_19 n401.o m401.o k401]; simp only [gS_1, gS_0, o_1, o_0, i10, i00, n10, n00, if_true, if_false, gp339, gp348, gp357, gp364, gp373, gp380, gp389]) | (have t := k475; rw [ckO_20 n475.o m475.o k475.o]; simp only [gS_1, gS_0, o_1, o_0, i10, i00, n10, n00, if_true, if_false, gp339, gp348, gp357, gp364, gp373, gp380, gp389])), (by omega), (by first | (have t := k25; exact (fun _ => ots_7 k25 (by omega))) | (have t := k125; exact (fun _ => ots_8 k125 (by omega))) | (have t := k260; exact (fun q => ots_b n260.o m260.o (by omega) k260 (s261.o q))) | (have t := k265; exact (fun _ => ots_s n265.o m265.o (by omega) (Or.inl ⟨k265, by omega⟩))) | (have t := k332; exact (fun _ => ots_s n332.o m332.o (by omega) (Or.inr (Or.inl ⟨k332, by omega⟩)))) | (have t := k401; exact (fun _ => ots_s n401.o m401.o (by omega) (Or.inr (Or.inr ⟨k401, by omega⟩)))) | (have t := k475; exact (fun _ => ots_20 n475.o m475.o (by omega) k475.o (by omega))))⟩
              · rw [show z387 = 1 by omega] at gp389
                refine y_iconst rfl ?_
                refine y_goto rfl rfl ?_
                refine y_ireturn rfl rfl ?_
                have w394 : Xi T40 876 7 = Xi T32 876 7 := (show Xi T40 876 7 = Xi T39 876 7 from w388.x _ _ rfl).trans ( (show Xi T39 876 7 = Xi T38 876 7 from w376.x _ _ rfl).trans ( (show Xi T38 876 7 = Xi T37 876 7 from w364.x _ _ rfl).trans ( (show Xi T37 876 7 = Xi T36 876 7 from w352.x _ _ rfl).trans ( (show Xi T36 876 7 = Xi T35 876 7 from w340.x _ _ rfl).trans ( (show Xi T35 876 7 = Xi T34 876 7 from w328.x _ _ rfl).trans ( (show Xi T34 876 7 = Xi U33 876 7 from w316.x _ _ rfl).trans ((show Xi U33 876 7 = Xi T32 876 7 from by rw [eU33]; exact Xi_ne (by omega)))))))))
                have w395 : Xi T40 890 2 = Xi U33 890 2 := (show Xi T40 890 2 = Xi T39 890 2 from w388.x _ _ rfl).trans ( (show Xi T39 890 2 = Xi T38 890 2 from w376.x _ _ rfl).trans ( (show Xi T38 890 2 = Xi T37 890 2 from w364.x _ _ rfl).trans ( (show Xi T37 890 2 = Xi T36 890 2 from w352.x _ _ rfl).trans ( (show Xi T36 890 2 = Xi T35 890 2 from w340.x _ _ rfl).trans ( (show Xi T35 890 2 = Xi T34 890 2 from w328.x _ _ rfl).trans ((show Xi T34 890 2 = Xi U33 890 2 from w316.x _ _ rfl)))))))
                have w396 : Xi T40 890 3 = Xi T32 890 3 := (show Xi T40 890 3 = Xi T39 890 3 from w388.x _ _ rfl).trans ( (show Xi T39 890 3 = Xi T38 890 3 from w376.x _ _ rfl).trans ( (show Xi T38 890 3 = Xi T37 890 3 from w364.x _ _ rfl).trans ( (show Xi T37 890 3 = Xi T36 890 3 from w352.x _ _ rfl).trans ( (show Xi T36 890 3 = Xi T35 890 3 from w340.x _ _ rfl).trans ( (show Xi T35 890 3 = Xi T34 890 3 from w328.x _ _ rfl).trans ( (show Xi T34 890 3 = Xi U33 890 3 from w316.x _ _ rfl).trans ((show Xi U33 890 3 = Xi T32 890 3 from by rw [eU33]; exact Xi_ne (by omega)))))))))
                exact ⟨hHT40, hFT40, _, rfl, ⟨by omega, by omega⟩, (by  first | (have t := k25; rw [ckO_7 k25]; simp only [gS_1, gS_0, o_1, o_0, i10, i00, n10, n00, if_true, if_false, gp339, gp348, gp357, gp364, gp373, gp380, gp389]) | (have t := k125; rw [ckO_8 k125]; simp only [gS_1, gS_0, o_1, o_0, i10, i00, n10, n00, if_true, if_false, gp339, gp348, gp357, gp364, gp373, gp380, gp389]) | (have t := k260; rw [ckO_b n260.o m260.o k260]; exact gp261) | (have t := k265; rw [ckO_17 n265.o m265.o k265]; simp only [gS_1, gS_0, o_1, o_0, i10, i00, n10, n00, if_true, if_false, gp339, gp348, gp357, gp364, gp373, gp380, gp389]) | (have t := k332; rw [ckO_18 n332.o m332.o k332]; simp only [gS_1, gS_0, o_1, o_0, i10, i00, n10, n00, if_true, if_false, gp339, gp348, gp357, gp364, gp373, gp380, gp389]) | (have t := k401; rw [ckO_19 n401.o m401.o k401]; simp only [gS_1, gS_0, o_1, o_0, i10, i00, n10, n00, if_true, if_false, gp339, gp348, gp357, gp364, gp373, gp380, gp389]) | (have t := k475; rw [ckO_20 n475.o m475.o k475.o]; simp only [gS_1, gS_0, o_1, o_0, i10, i00, n10, n00, if_true, if_false, gp339, gp348, gp357, gp364, gp373, gp380, gp389])), (by omega), (by first | (have t := k25; exact (fun _ => ots_7 k25 (by omega))) | (have t := k125; exact (fun _ => ots_8 k125 (by omega))) | (have t := k260; exact (fun q => ots_b n260.o m260.o (by omega) k260 (s261.o q))) | (have t := k265; exact (fun _ => ots_s n265.o m265.o (by omega) (Or.inl ⟨k265, by omega⟩))) | (have t := k332; exact (fun _ => ots_s n332.o m332.o (by omega) (Or.inr (Or.inl ⟨k332, by omega⟩)))) | (have t := k401; exact (fun _ => ots_s n401.o m401.o (by omega) (Or.inr (Or.inr ⟨k401, by omega⟩)))) | (have t := k475; exact (fun _ => ots_20 n475.o m475.o (by omega) k475.o (by omega))))⟩
set_option maxRecDepth 100000 in
theorem c401_gr_checkOthers__p {S : sS} (hH : RI S) (hfr : NFR S) (hr : Xi S 876 7 ≤ 5130) (hls : LST S) (h1 : 1 ≤ Xi S 876 7) (d : Nat) (fu : Nat) : ∀  (T41 : sS) (_ : RI T41) (_ : FR md_gr_checkOthers__p S T41), (Hid (¬ (ty7 S 0 = 2 ∧ ty7 S 1 = 25))) → (Hid (¬ (ty7 S 0 = 2 ∧ ty7 S 1 = 19))) → (Xi T41 890 1 = 0) → (Xi T41 890 3 = tk7 (ty7 S)) → (kt7 (ty7 S) = 21) → Pl fu lay0 (d + 5) m_gr_checkOthers 401 [(0, .ref 890)] [] T41 (Q_gr_checkOthers__p S) := by
  have hF : FR md_gr_checkOthers__p S S := FR.rf
  have w1 : -2147483648 ≤ Xi S 876 7 ∧ Xi S 876 7 ≤ 2147483647 := Xi_rgI
  have w2 : -2147483648 ≤ Xi S 890 1 ∧ Xi S 890 1 ≤ 2147483647 := Xi_rgI
  have w3 : -2147483648 ≤ Xi S 890 2 ∧ Xi S 890 2 ≤ 2147483647 := Xi_rgI
  have w4 : -2147483648 ≤ Xi S 890 3 ∧ Xi S 890 3 ≤ 2147483647 := Xi_rgI
  intro T41 hHT41 hFT41 n401 m401 w397 w398 k401
  have w399 : Xi T41 876 7 = Xi S 876 7 := hFT41.x _ _ rfl
  have w400 : -2147483648 ≤ Xi T41 876 7 ∧ Xi T41 876 7 ≤ 2147483647 := Xi_rgI
  have w401 : -2147483648 ≤ Xi T41 890 1 ∧ Xi T41 890 1 ≤ 2147483647 := Xi_rgI
  have w402 : -2147483648 ≤ Xi T41 890 2 ∧ Xi T41 890 2 ≤ 2147483647 := Xi_rgI
  have w403 : -2147483648 ≤ Xi T41 890 3 ∧ Xi T41 890 3 ≤ 2147483647 := Xi_rgI
  refine y_aload_n rfl rfl ?_
  refine y_bipush rfl rfl ?_
  refine y_pfi rfl rfl rfl rfl ?_
  obtain ⟨U42, eU42⟩ : ∃ T : sS, T = uI T41 890 2 (Int32.ofInt 19) := ⟨_, rfl⟩
  rw [← eU42]
  have hHU42 : RI U42 := by rw [eU42]; exact RI_w hHT41
  have hFU42 : FR md_gr_checkOthers__p S U42 := by rw [eU42]; exact FR.wI hFT41 (mdf_i (r := (890, 891, 2, 3)) (List.mem_of_getElem? (i := 1) rfl) (inR_i (by omega) (by omega) (by omega) (by omega)))
  have w404 : Xi U42 890 2 = 19 := by rw [eU42]; exact Xi_same (by unfold rg; omega)
  refine y_aload_n rfl rfl ?_
  have w405 : Xi U42 876 7 = Xi T41 876 7 := (show Xi U42 876 7 = Xi T41 876 7 from by rw [eU42]; exact Xi_ne (by omega))
  have w406 : Xi U42 890 1 = Xi T41 890 1 := (show Xi U42 890 1 = Xi T41 890 1 from by rw [eU42]; exact Xi_ne (by omega))
  refine y_callV rfl rfl rfl (t_gr_takeName__p hHU42 (by first | assumption | exact (NFR_FR hFU42 rfl rfl (by assumption : NFR S))) (by first | assumption | omega) (by first | assumption | omega) _) ?_
  rintro _ T43 ⟨hHT43, w411, z410, rfl, w410, w408, w409⟩
  have hFT43 : FR md_gr_checkOthers__p S T43 := FR.tr hFU42 w411 rfl
  show Pl _ _ _ _ _ _ [iv z410] _ _
  have gp408 := w408
  rw [FRT hFU42 rfl rfl] at gp408
  try rw [show Xi U42 890 1 = Xi T41 890 1 by omega] at gp408
  clear w408
  rw [show Xi T41 890 1 = 0 by omega] at gp408
  refine y_if_eq rfl rfl (by unfold rg; omega) (fun w412 => ?_) (fun w413 => ?_)
  · rw [show z410 = 0 by omega] at gp408
    refine y_iconst rfl ?_
    refine y_ireturn rfl rfl ?_
    have w414 : Xi T43 876 7 = Xi T41 876 7 := (show Xi T43 876 7 = Xi U42 876 7 from w411.x _ _ rfl).trans ((show Xi U42 876 7 = Xi T41 876 7 from by rw [eU42]; exact Xi_ne (by omega)))
    have w415 : Xi T43 890 2 = Xi U42 890 2 := (show Xi T43 890 2 = Xi U42 890 2 from w411.x _ _ rfl)
    have w416 : Xi T43 890 3 = Xi T41 890 3 := (show Xi T43 890 3 = Xi U42 890 3 from w411.x _ _ rfl).trans ((show Xi U42 890 3 = Xi T41 890 3 from by rw [eU42]; exact Xi_ne (by omega)))
    exact ⟨hHT43, hFT43, _, rfl, ⟨by omega, by omega⟩, (by  first | (have t := k25; rw [ckO_7 k25]; simp only [gS_1, gS_0, o_1, o_0, i10, i00, n10, n00, if_true, if_false, gp408]) | (have t := k125; rw [ckO_8 k125]; simp only [gS_1, gS_0, o_1, o_0, i10, i00, n10, n00, if_true, if_false, gp408]) | (have t := k260; rw [ckO_b n260.o m260.o k260]; exact gp261) | (have t := k265; rw [ckO_17 n265.o m265.o k265]; simp only [gS_1, gS_0, o_1, o_0, i10, i00, n10, n00, if_true, if_false, gp408]) | (have t := k332; rw [ckO_18 n332.o m332.o k332]; simp only [gS_1, gS_0, o_1, o_0, i10, i00, n10, n00, if_true, if_false, gp408]) | (have t := k401; rw [ckO_19 n401.o m401.o k401]; simp only [gS_1, gS_0, o_1, o_0, i10, i00, n10, n00, if_true, if_false, gp408]) | (have t := k475; rw [ckO_20 n475.o m475.o k475.o]; simp only [gS_1, gS_0, o_1, o_0, i10, i00, n10, n00, if_true, if_false, gp408])), (by omega), (by first | (have t := k25; exact (fun _ => ots_7 k25 (by omega))) | (have t := k125; exact (fun _ => ots_8 k125 (by omega))) | (have t := k260; exact (fun q => ots_b n260.o m260.o (by omega) k260 (s261.o q))) | (have t := k265; exact (fun _ => ots_s n265.o m265.o (by omega) (Or.inl ⟨k265, by omega⟩))) | (have t := k332; exact (fun _ => ots_s n332.o m332.o (by omega) (Or.inr (Or.inl ⟨k332, by omega⟩)))) | (have t := k401; exact (fun _ => ots_s n401.o m401.o (by omega) (Or.inr (Or.inr ⟨k401, by omega⟩)))) | (have t := k475; exact (fun _ => ots_20 n475.o m475.o (by omega) k475.o (by omega))))⟩
  · rw [show z410 = 1 by omega] at gp408
    refine y_aload_n rfl rfl ?_
    refine y_bipush rfl rfl ?_
    have w417 : Xi T43 876 7 = Xi T41 876 7 := (show Xi T43 876 7 = Xi U42 876 7 from w411.x _ _ rfl).trans ((show Xi U42 876 7 = Xi T41 876 7 from by rw [eU42]; exact Xi_ne (by omega)))
    refine y_callV rfl rfl rfl (t_gr_take__p hHT43 21 ⟨by omega, by omega⟩ (by first | assumption | exact (NFR_FR hFT43 rfl rfl (by assumption : NFR S))) (by first | assumption | omega) (by first | assumption | omega) _) ?_
    rintro _ T44 ⟨hHT44, w423, z422, rfl, w422, w420, w421⟩
    have hFT44 : FR md_gr_checkOthers__p S T44 := FR.tr hFT43 w423 rfl
    show Pl _ _ _ _ _ _ [iv z422] _ _
    have gp417 := w420
    rw [FRT hFT43 rfl rfl] at gp417
    clear w420
    refine y_if_eq rfl rfl (by unfold rg; omega) (fun w424 => ?_) (fun w425 => ?_)
    · rw [show z422 = 0 by omega] at gp417
      refine y_iconst rfl ?_
      refine y_ireturn rfl rfl ?_
      have w426 : Xi T44 876 7 = Xi T41 876 7 := (show Xi T44 876 7 = Xi T43 876 7 from w423.x _ _ rfl).trans ( (show Xi T43 876 7 = Xi U42 876 7 from w411.x _ _ rfl).trans ((show Xi U42 876 7 = Xi T41 876 7 from by rw [eU42]; exact Xi_ne (by omega))))
      have w427 : Xi T44 890 2 = Xi U42 890 2 := (show Xi T44 890 2 = Xi T43 890 2 from w423.x _ _ rfl).trans ((show Xi T43 890 2 = Xi U42 890 2 from w411.x _ _ rfl))
      have w428 : Xi T44 890 3 = Xi T41 890 3 := (show Xi T44 890 3 = Xi T43 890 3 from w423.x _ _ rfl).trans ( (show Xi T43 890 3 = Xi U42 890 3 from w411.x _ _ rfl).trans ((show Xi U42 890 3 = Xi T41 890 3 from by rw [eU42]; exact Xi_ne (by omega))))
      exact ⟨hHT44, hFT44, _, rfl, ⟨by omega, by omega⟩, (by  first | (have t := k25; rw [ckO_7 k25]; simp only [gS_1, gS_0, o_1, o_0, i10, i00, n10, n00, if_true, if_false, gp408, gp417]) | (have t := k125; rw [ckO_8 k125]; simp only [gS_1, gS_0, o_1, o_0, i10, i00, n10, n00, if_true, if_false, gp408, gp417]) | (have t := k260; rw [ckO_b n260.o m260.o k260]; exact gp261) | (have t := k265; rw [ckO_17 n265.o m265.o k265]; simp only [gS_1, gS_0, o_1, o_0, i10, i00, n10, n00, if_true, if_false, gp408, gp417]) | (have t := k332; rw [ckO_18 n332.o m332.o k332]; simp only [gS_1, gS_0, o_1, o_0, i10, i00, n10, n00, if_true, if_false, gp408, gp417]) | (have t := k401; rw [ckO_19 n401.o m401.o k401]; simp only [gS_1, gS_0, o_1, o_0, i10, i00, n10, n00, if_true, if_false, gp408, gp417]) | (have t := k475; rw [ckO_20 n475.o m475.o k475.o]; simp only [gS_1, gS_0, o_1, o_0, i10, i00, n10, n00, if_true, if_false, gp408, gp417])), (by omega), (by first | (have t := k25; exact (fun _ => ots_7 k25 (by omega))) | (have t := k125; exact (fun _ => ots_8 k125 (by omega))) | (have t := k260; exact (fun q => ots_b n260.o m260.o (by omega) k260 (s261.o q))) | (have t := k265; exact (fun _ => ots_s n265.o m265.o (by omega) (Or.inl ⟨k265, by omega⟩))) | (have t := k332; exact (fun _ => ots_s n332.o m332.o (by omega) (Or.inr (Or.inl ⟨k332, by omega⟩)))) | (have t := k401; exact (fun _ => ots_s n401.o m401.o (by omega) (Or.inr (Or.inr ⟨k401, by omega⟩)))) | (have t := k475; exact (fun _ => ots_20 n475.o m475.o (by omega) k475.o (by omega))))⟩
    · rw [show z422 = 1 by omega] at gp417
      refine y_aload_n rfl rfl ?_
      have w429 : Xi T44 876 7 = Xi T41 876 7 := (show Xi T44 876 7 = Xi T43 876 7 from w423.x _ _ rfl).trans ( (show Xi T43 876 7 = Xi U42 876 7 from w411.x _ _ rfl).trans ((show Xi U42 876 7 = Xi T41 876 7 from by rw [eU42]; exact Xi_ne (by omega))))
      refine y_callV rfl rfl rfl (t_gr_takeHowMany__p hHT44 (by first | assumption | exact (NFR_FR hFT44 rfl rfl (by assumption : NFR S))) (by first | assumption | omega) (by first | assumption | omega) _) ?_
      rintro _ T45 ⟨hHT45, w435, z434, rfl, w434, w432, w433⟩
      have hFT45 : FR md_gr_checkOthers__p S T45 := FR.tr hFT44 w435 rfl
      show Pl _ _ _ _ _ _ [iv z434] _ _
      have gp424 := w432
      rw [FRT hFT44 rfl rfl] at gp424
      clear w432
      refine y_if_eq rfl rfl (by unfold rg; omega) (fun w436 => ?_) (fun w437 => ?_)
      · rw [show z434 = 0 by omega] at gp424
        refine y_iconst rfl ?_
        refine y_ireturn rfl rfl ?_
        have w438 : Xi T45 876 7 = Xi T41 876 7 := (show Xi T45 876 7 = Xi T44 876 7 from w435.x _ _ rfl).trans ( (show Xi T44 876 7 = Xi T43 876 7 from w423.x _ _ rfl).trans ( (show Xi T43 876 7 = Xi U42 876 7 from w411.x _ _ rfl).trans ((show Xi U42 876 7 = Xi T41 876 7 from by rw [eU42]; exact Xi_ne (by omega)))))
        have w439 : Xi T45 890 2 = Xi U42 890 2 := (show Xi T45 890 2 = Xi T44 890 2 from w435.x _ _ rfl).trans ( (show Xi T44 890 2 = Xi T43 890 2 from w423.x _ _ rfl).trans ((show Xi T43 890 2 = Xi U42 890 2 from w411.x _ _ rfl)))
        have w440 : Xi T45 890 3 = Xi T41 890 3 := (show Xi T45 890 3 = Xi T44 890 3 from w435.x _ _ rfl).trans ( (show Xi T44 890 3 = Xi T43 890 3 from w423.x _ _ rfl).trans ( (show Xi T43 890 3 = Xi U42 890 3 from w411.x _ _ rfl).trans ((show Xi U42 890 3 = Xi T41 890 3 from by rw [eU42]; exact Xi_ne (by omega)))))
        exact ⟨hHT45, hFT45, _, rfl, ⟨by omega, by omega⟩, (by  first | (have t := k25; rw [ckO_7 k25]; simp only [gS_1, gS_0, o_1, o_0, i10, i00, n10, n00, if_true, if_false, gp408, gp417, gp424]) | (have t := k125; rw [ckO_8 k125]; simp only [gS_1, gS_0, o_1, o_0, i10, i00, n10, n00, if_true, if_false, gp408, gp417, gp424]) | (have t := k260; rw [ckO_b n260.o m260.o k260]; exact gp261) | (have t := k265; rw [ckO_17 n265.o m265.o k265]; simp only [gS_1, gS_0, o_1, o_0, i10, i00, n10, n00, if_true, if_false, gp408, gp417, gp424]) | (have t := k332; rw [ckO_18 n332.o m332.o k332]; simp only [gS_1, gS_0, o_1, o_0, i10, i00, n10, n00, if_true, if_false, gp408, gp417, gp424]) | (have t := k401; rw [ckO_19 n401.o m401.o k401]; simp only [gS_1, gS_0, o_1, o_0, i10, i00, n10, n00, if_true, if_false, gp408, gp417, gp424]) | (have t := k475; rw [ckO_20 n475.o m475.o k475.o]; simp only [gS_1, gS_0, o_1, o_0, i10, i00, n10, n00, if_true, if_false, gp408, gp417, gp424])), (by omega), (by first | (have t := k25; exact (fun _ => ots_7 k25 (by omega))) | (have t := k125; exact (fun _ => ots_8 k125 (by omega))) | (have t := k260; exact (fun q => ots_b n260.o m260.o (by omega) k260 (s261.o q))) | (have t := k265; exact (fun _ => ots_s n265.o m265.o (by omega) (Or.inl ⟨k265, by omega⟩))) | (have t := k332; exact (fun _ => ots_s n332.o m332.o (by omega) (Or.inr (Or.inl ⟨k332, by omega⟩)))) | (have t := k401; exact (fun _ => ots_s n401.o m401.o (by omega) (Or.inr (Or.inr ⟨k401, by omega⟩)))) | (have t := k475; exact (fun _ => ots_20 n475.o m475.o (by omega) k475.o (by omega))))⟩
      · rw [show z434 = 1 by omega] at gp424
        refine y_aload_n rfl rfl ?_
        have w441 : Xi T45 876 7 = Xi T41 876 7 := (show Xi T45 876 7 = Xi T44 876 7 from w435.x _ _ rfl).trans ( (show Xi T44 876 7 = Xi T43 876 7 from w423.x _ _ rfl).trans ( (show Xi T43 876 7 = Xi U42 876 7 from w411.x _ _ rfl).trans ((show Xi U42 876 7 = Xi T41 876 7 from by rw [eU42]; exact Xi_ne (by omega)))))
        refine y_callV rfl rfl rfl (t_gr_takeRun__p hHT45 (by first | assumption | exact (NFR_FR hFT45 rfl rfl (by assumption : NFR S))) (by first | assumption | omega) (by first | assumption | omega) _) ?_
        rintro _ T46 ⟨hHT46, w447, z446, rfl, w446, w444, w445⟩
        have hFT46 : FR md_gr_checkOthers__p S T46 := FR.tr hFT45 w447 rfl
        show Pl _ _ _ _ _ _ [iv z446] _ _
        have gp431 := w444
        rw [FRT hFT45 rfl rfl] at gp431
        clear w444
        refine y_if_eq rfl rfl (by unfold rg; omega) (fun w448 => ?_) (fun w449 => ?_)
        · rw [show z446 = 0 by omega] at gp431
          refine y_iconst rfl ?_
          refine y_ireturn rfl rfl ?_
          have w450 : Xi T46 876 7 = Xi T41 876 7 := (show Xi T46 876 7 = Xi T45 876 7 from w447.x _ _ rfl).trans ( (show Xi T45 876 7 = Xi T44 876 7 from w435.x _ _ rfl).trans ( (show Xi T44 876 7 = Xi T43 876 7 from w423.x _ _ rfl).trans ( (show Xi T43 876 7 = Xi U42 876 7 from w411.x _ _ rfl).trans ((show Xi U42 876 7 = Xi T41 876 7 from by rw [eU42]; exact Xi_ne (by omega))))))
          have w451 : Xi T46 890 2 = Xi U42 890 2 := (show Xi T46 890 2 = Xi T45 890 2 from w447.x _ _ rfl).trans ( (show Xi T45 890 2 = Xi T44 890 2 from w435.x _ _ rfl).trans ( (show Xi T44 890 2 = Xi T43 890 2 from w423.x _ _ rfl).trans ((show Xi T43 890 2 = Xi U42 890 2 from w411.x _ _ rfl))))
          have w452 : Xi T46 890 3 = Xi T41 890 3 := (show Xi T46 890 3 = Xi T45 890 3 from w447.x _ _ rfl).trans ( (show Xi T45 890 3 = Xi T44 890 3 from w435.x _ _ rfl).trans ( (show Xi T44 890 3 = Xi T43 890 3 from w423.x _ _ rfl).trans ( (show Xi T43 890 3 = Xi U42 890 3 from w411.x _ _ rfl).trans ((show Xi U42 890 3 = Xi T41 890 3 from by rw [eU42]; exact Xi_ne (by omega))))))
          exact ⟨hHT46, hFT46, _, rfl, ⟨by omega, by omega⟩, (by  first | (have t := k25; rw [ckO_7 k25]; simp only [gS_1, gS_0, o_1, o_0, i10, i00, n10, n00, if_true, if_false, gp408, gp417, gp424, gp431]) | (have t := k125; rw [ckO_8 k125]; simp only [gS_1, gS_0, o_1, o_0, i10, i00, n10, n00, if_true, if_false, gp408, gp417, gp424, gp431]) | (have t := k260; rw [ckO_b n260.o m260.o k260]; exact gp261) | (have t := k265; rw [ckO_17 n265.o m265.o k265]; simp only [gS_1, gS_0, o_1, o_0, i10, i00, n10, n00, if_true, if_false, gp408, gp417, gp424, gp431]) | (have t := k332; rw [ckO_18 n332.o m332.o k332]; simp only [gS_1, gS_0, o_1, o_0, i10, i00, n10, n00, if_true, if_false, gp408, gp417, gp424, gp431]) | (have t := k401; rw [ckO_19 n401.o m401.o k401]; simp only [gS_1, gS_0, o_1, o_0, i10, i00, n10, n00, if_true, if_false, gp408, gp417, gp424, gp431]) | (have t := k475; rw [ckO_20 n475.o m475.o k475.o]; simp only [gS_1, gS_0, o_1, o_0, i10, i00, n10, n00, if_true, if_false, gp408, gp417, gp424, gp431])), (by omega), (by first | (have t := k25; exact (fun _ => ots_7 k25 (by omega))) | (have t := k125; exact (fun _ => ots_8 k125 (by omega))) | (have t := k260; exact (fun q => ots_b n260.o m260.o (by omega) k260 (s261.o q))) | (have t := k265; exact (fun _ => ots_s n265.o m265.o (by omega) (Or.inl ⟨k265, by omega⟩))) | (have t := k332; exact (fun _ => ots_s n332.o m332.o (by omega) (Or.inr (Or.inl ⟨k332, by omega⟩)))) | (have t := k401; exact (fun _ => ots_s n401.o m401.o (by omega) (Or.inr (Or.inr ⟨k401, by omega⟩)))) | (have t := k475; exact (fun _ => ots_20 n475.o m475.o (by omega) k475.o (by omega))))⟩
        · rw [show z446 = 1 by omega] at gp431
          refine y_aload_n rfl rfl ?_
          refine y_bipush rfl rfl ?_
          have w453 : Xi T46 876 7 = Xi T41 876 7 := (show Xi T46 876 7 = Xi T45 876 7 from w447.x _ _ rfl).trans ( (show Xi T45 876 7 = Xi T44 876 7 from w435.x _ _ rfl).trans ( (show Xi T44 876 7 = Xi T43 876 7 from w423.x _ _ rfl).trans ( (show Xi T43 876 7 = Xi U42 876 7 from w411.x _ _ rfl).trans ((show Xi U42 876 7 = Xi T41 876 7 from by rw [eU42]; exact Xi_ne (by omega))))))
          refine y_callV rfl rfl rfl (t_gr_take__p hHT46 11 ⟨by omega, by omega⟩ (by first | assumption | exact (NFR_FR hFT46 rfl rfl (by assumption : NFR S))) (by first | assumption | omega) (by first | assumption | omega) _) ?_
          rintro _ T47 ⟨hHT47, w459, z458, rfl, w458, w456, w457⟩
          have hFT47 : FR md_gr_checkOthers__p S T47 := FR.tr hFT46 w459 rfl
          show Pl _ _ _ _ _ _ [iv z458] _ _
          have gp440 := w456
          rw [FRT hFT46 rfl rfl] at gp440
          clear w456
          refine y_if_eq rfl rfl (by unfold rg; omega) (fun w460 => ?_) (fun w461 => ?_)
          · rw [show z458 = 0 by omega] at gp440
            refine y_iconst rfl ?_
            refine y_ireturn rfl rfl ?_
            have w462 : Xi T47 876 7 = Xi T41 876 7 := (show Xi T47 876 7 = Xi T46 876 7 from w459.x _ _ rfl).trans ( (show Xi T46 876 7 = Xi T45 876 7 from w447.x _ _ rfl).trans ( (show Xi T45 876 7 = Xi T44 876 7 from w435.x _ _ rfl).trans ( (show Xi T44 876 7 = Xi T43 876 7 from w423.x _ _ rfl).trans ( (show Xi T43 876 7 = Xi U42 876 7 from w411.x _ _ rfl).trans ((show Xi U42 876 7 = Xi T41 876 7 from by rw [eU42]; exact Xi_ne (by omega)))))))
            have w463 : Xi T47 890 2 = Xi U42 890 2 := (show Xi T47 890 2 = Xi T46 890 2 from w459.x _ _ rfl).trans ( (show Xi T46 890 2 = Xi T45 890 2 from w447.x _ _ rfl).trans ( (show Xi T45 890 2 = Xi T44 890 2 from w435.x _ _ rfl).trans ( (show Xi T44 890 2 = Xi T43 890 2 from w423.x _ _ rfl).trans ((show Xi T43 890 2 = Xi U42 890 2 from w411.x _ _ rfl)))))
            have w464 : Xi T47 890 3 = Xi T41 890 3 := (show Xi T47 890 3 = Xi T46 890 3 from w459.x _ _ rfl).trans ( (show Xi T46 890 3 = Xi T45 890 3 from w447.x _ _ rfl).trans ( (show Xi T45 890 3 = Xi T44 890 3 from w435.x _ _ rfl).trans ( (show Xi T44 890 3 = Xi T43 890 3 from w423.x _ _ rfl).trans ( (show Xi T43 890 3 = Xi U42 890 3 from w411.x _ _ rfl).trans ((show Xi U42 890 3 = Xi T41 890 3 from by rw [eU42]; exact Xi_ne (by omega)))))))
            exact ⟨hHT47, hFT47, _, rfl, ⟨by omega, by omega⟩, (by  first | (have t := k25; rw [ckO_7 k25]; simp only [gS_1, gS_0, o_1, o_0, i10, i00, n10, n00, if_true, if_false, gp408, gp417, gp424, gp431, gp440]) | (have t := k125; rw [ckO_8 k125]; simp only [gS_1, gS_0, o_1, o_0, i10, i00, n10, n00, if_true, if_false, gp408, gp417, gp424, gp431, gp440]) | (have t := k260; rw [ckO_b n260.o m260.o k260]; exact gp261) | (have t := k265; rw [ckO_17 n265.o m265.o k265]; simp only [gS_1, gS_0, o_1, o_0, i10, i00, n10, n00, if_true, if_false, gp408, gp417, gp424, gp431, gp440]) | (have t := k332; rw [ckO_18 n332.o m332.o k332]; simp only [gS_1, gS_0, o_1, o_0, i10, i00, n10, n00, if_true, if_false, gp408, gp417, gp424, gp431, gp440]) | (have t := k401; rw [ckO_19 n401.o m401.o k401]; simp only [gS_1, gS_0, o_1, o_0, i10, i00, n10, n00, if_true, if_false, gp408, gp417, gp424, gp431, gp440]) | (have t := k475; rw [ckO_20 n475.o m475.o k475.o]; simp only [gS_1, gS_0, o_1, o_0, i10, i00, n10, n00, if_true, if_false, gp408, gp417, gp424, gp431, gp440])), (by omega), (by first | (have t := k25; exact (fun _ => ots_7 k25 (by omega))) | (have t := k125; exact (fun _ => ots_8 k125 (by omega))) | (have t := k260; exact (fun q => ots_b n260.o m260.o (by omega) k260 (s261.o q))) | (have t := k265; exact (fun _ => ots_s n265.o m265.o (by omega) (Or.inl ⟨k265, by omega⟩))) | (have t := k332; exact (fun _ => ots_s n332.o m332.o (by omega) (Or.inr (Or.inl ⟨k332, by omega⟩)))) | (have t := k401; exact (fun _ => ots_s n401.o m401.o (by omega) (Or.inr (Or.inr ⟨k401, by omega⟩)))) | (have t := k475; exact (fun _ => ots_20 n475.o m475.o (by omega) k475.o (by omega))))⟩
          · rw [show z458 = 1 by omega] at gp440
            refine y_aload_n rfl rfl ?_
            have w465 : Xi T47 876 7 = Xi T41 876 7 := (show Xi T47 876 7 = Xi T46 876 7 from w459.x _ _ rfl).trans ( (show Xi T46 876 7 = Xi T45 876 7 from w447.x _ _ rfl).trans ( (show Xi T45 876 7 = Xi T44 876 7 from w435.x _ _ rfl).trans ( (show Xi T44 876 7 = Xi T43 876 7 from w423.x _ _ rfl).trans ( (show Xi T43 876 7 = Xi U42 876 7 from w411.x _ _ rfl).trans ((show Xi U42 876 7 = Xi T41 876 7 from by rw [eU42]; exact Xi_ne (by omega)))))))
            refine y_callV rfl rfl rfl (t_gr_takeHowMany__p hHT47 (by first | assumption | exact (NFR_FR hFT47 rfl rfl (by assumption : NFR S))) (by first | assumption | omega) (by first | assumption | omega) _) ?_
            rintro _ T48 ⟨hHT48, w471, z470, rfl, w470, w468, w469⟩
            have hFT48 : FR md_gr_checkOthers__p S T48 := FR.tr hFT47 w471 rfl
            show Pl _ _ _ _ _ _ [iv z470] _ _
            have gp447 := w468
            rw [FRT hFT47 rfl rfl] at gp447
            clear w468
            refine y_if_eq rfl rfl (by unfold rg; omega) (fun w472 => ?_) (fun w473 => ?_)
            · rw [show z470 = 0 by omega] at gp447
              refine y_iconst rfl ?_
              refine y_ireturn rfl rfl ?_
              have w474 : Xi T48 876 7 = Xi T41 876 7 := (show Xi T48 876 7 = Xi T47 876 7 from w471.x _ _ rfl).trans ( (show Xi T47 876 7 = Xi T46 876 7 from w459.x _ _ rfl).trans ( (show Xi T46 876 7 = Xi T45 876 7 from w447.x _ _ rfl).trans ( (show Xi T45 876 7 = Xi T44 876 7 from w435.x _ _ rfl).trans ( (show Xi T44 876 7 = Xi T43 876 7 from w423.x _ _ rfl).trans ( (show Xi T43 876 7 = Xi U42 876 7 from w411.x _ _ rfl).trans ((show Xi U42 876 7 = Xi T41 876 7 from by rw [eU42]; exact Xi_ne (by omega))))))))
              have w475 : Xi T48 890 2 = Xi U42 890 2 := (show Xi T48 890 2 = Xi T47 890 2 from w471.x _ _ rfl).trans ( (show Xi T47 890 2 = Xi T46 890 2 from w459.x _ _ rfl).trans ( (show Xi T46 890 2 = Xi T45 890 2 from w447.x _ _ rfl).trans ( (show Xi T45 890 2 = Xi T44 890 2 from w435.x _ _ rfl).trans ( (show Xi T44 890 2 = Xi T43 890 2 from w423.x _ _ rfl).trans ((show Xi T43 890 2 = Xi U42 890 2 from w411.x _ _ rfl))))))
              have w476 : Xi T48 890 3 = Xi T41 890 3 := (show Xi T48 890 3 = Xi T47 890 3 from w471.x _ _ rfl).trans ( (show Xi T47 890 3 = Xi T46 890 3 from w459.x _ _ rfl).trans ( (show Xi T46 890 3 = Xi T45 890 3 from w447.x _ _ rfl).trans ( (show Xi T45 890 3 = Xi T44 890 3 from w435.x _ _ rfl).trans ( (show Xi T44 890 3 = Xi T43 890 3 from w423.x _ _ rfl).trans ( (show Xi T43 890 3 = Xi U42 890 3 from w411.x _ _ rfl).trans ((show Xi U42 890 3 = Xi T41 890 3 from by rw [eU42]; exact Xi_ne (by omega))))))))
              exact ⟨hHT48, hFT48, _, rfl, ⟨by omega, by omega⟩, (by  first | (have t := k25; rw [ckO_7 k25]; simp only [gS_1, gS_0, o_1, o_0, i10, i00, n10, n00, if_true, if_false, gp408, gp417, gp424, gp431, gp440, gp447]) | (have t := k125; rw [ckO_8 k125]; simp only [gS_1, gS_0, o_1, o_0, i10, i00, n10, n00, if_true, if_false, gp408, gp417, gp424, gp431, gp440, gp447]) | (have t := k260; rw [ckO_b n260.o m260.o k260]; exact gp261) | (have t := k265; rw [ckO_17 n265.o m265.o k265]; simp only [gS_1, gS_0, o_1, o_0, i10, i00, n10, n00, if_true, if_false, gp408, gp417, gp424, gp431, gp440, gp447]) | (have t := k332; rw [ckO_18 n332.o m332.o k332]; simp only [gS_1, gS_0, o_1, o_0, i10, i00, n10, n00, if_true, if_false, gp408, gp417, gp424, gp431, gp440, gp447]) | (have t := k401; rw [ckO_19 n401.o m401.o k401]; simp only [gS_1, gS_0, o_1, o_0, i10, i00, n10, n00, if_true, if_false, gp408, gp417, gp424, gp431, gp440, gp447]) | (have t := k475; rw [ckO_20 n475.o m475.o k475.o]; simp only [gS_1, gS_0, o_1, o_0, i10, i00, n10, n00, if_true, if_false, gp408, gp417, gp424, gp431, gp440, gp447])), (by omega), (by first | (have t := k25; exact (fun _ => ots_7 k25 (by omega))) | (have t := k125; exact (fun _ => ots_8 k125 (by omega))) | (have t := k260; exact (fun q => ots_b n260.o m260.o (by omega) k260 (s261.o q))) | (have t := k265; exact (fun _ => ots_s n265.o m265.o (by omega) (Or.inl ⟨k265, by omega⟩))) | (have t := k332; exact (fun _ => ots_s n332.o m332.o (by omega) (Or.inr (Or.inl ⟨k332, by omega⟩)))) | (have t := k401; exact (fun _ => ots_s n401.o m401.o (by omega) (Or.inr (Or.inr ⟨k401, by omega⟩)))) | (have t := k475; exact (fun _ => ots_20 n475.o m475.o (by omega) k475.o (by omega))))⟩
            · rw [show z470 = 1 by omega] at gp447
              refine y_aload_n rfl rfl ?_
              have w477 : Xi T48 876 7 = Xi T41 876 7 := (show Xi T48 876 7 = Xi T47 876 7 from w471.x _ _ rfl).trans ( (show Xi T47 876 7 = Xi T46 876 7 from w459.x _ _ rfl).trans ( (show Xi T46 876 7 = Xi T45 876 7 from w447.x _ _ rfl).trans ( (show Xi T45 876 7 = Xi T44 876 7 from w435.x _ _ rfl).trans ( (show Xi T44 876 7 = Xi T43 876 7 from w423.x _ _ rfl).trans ( (show Xi T43 876 7 = Xi U42 876 7 from w411.x _ _ rfl).trans ((show Xi U42 876 7 = Xi T41 876 7 from by rw [eU42]; exact Xi_ne (by omega))))))))
              refine y_callV rfl rfl rfl (t_gr_takeRun__p hHT48 (by first | assumption | exact (NFR_FR hFT48 rfl rfl (by assumption : NFR S))) (by first | assumption | omega) (by first | assumption | omega) _) ?_
              rintro _ T49 ⟨hHT49, w483, z482, rfl, w482, w480, w481⟩
              have hFT49 : FR md_gr_checkOthers__p S T49 := FR.tr hFT48 w483 rfl
              show Pl _ _ _ _ _ _ [iv z482] _ _
              have gp454 := w480
              rw [FRT hFT48 rfl rfl] at gp454
              clear w480
              refine y_if_eq rfl rfl (by unfold rg; omega) (fun w484 => ?_) (fun w485 => ?_)
              · rw [show z482 = 0 by omega] at gp454
                refine y_iconst rfl ?_
                refine y_ireturn rfl rfl ?_
                have w486 : Xi T49 876 7 = Xi T41 876 7 := (show Xi T49 876 7 = Xi T48 876 7 from w483.x _ _ rfl).trans ( (show Xi T48 876 7 = Xi T47 876 7 from w471.x _ _ rfl).trans ( (show Xi T47 876 7 = Xi T46 876 7 from w459.x _ _ rfl).trans ( (show Xi T46 876 7 = Xi T45 876 7 from w447.x _ _ rfl).trans ( (show Xi T45 876 7 = Xi T44 876 7 from w435.x _ _ rfl).trans ( (show Xi T44 876 7 = Xi T43 876 7 from w423.x _ _ rfl).trans ( (show Xi T43 876 7 = Xi U42 876 7 from w411.x _ _ rfl).trans ((show Xi U42 876 7 = Xi T41 876 7 from by rw [eU42]; exact Xi_ne (by omega)))))))))
                have w487 : Xi T49 890 2 = Xi U42 890 2 := (show Xi T49 890 2 = Xi T48 890 2 from w483.x _ _ rfl).trans ( (show Xi T48 890 2 = Xi T47 890 2 from w471.x _ _ rfl).trans ( (show Xi T47 890 2 = Xi T46 890 2 from w459.x _ _ rfl).trans ( (show Xi T46 890 2 = Xi T45 890 2 from w447.x _ _ rfl).trans ( (show Xi T45 890 2 = Xi T44 890 2 from w435.x _ _ rfl).trans ( (show Xi T44 890 2 = Xi T43 890 2 from w423.x _ _ rfl).trans ((show Xi T43 890 2 = Xi U42 890 2 from w411.x _ _ rfl)))))))
                have w488 : Xi T49 890 3 = Xi T41 890 3 := (show Xi T49 890 3 = Xi T48 890 3 from w483.x _ _ rfl).trans ( (show Xi T48 890 3 = Xi T47 890 3 from w471.x _ _ rfl).trans ( (show Xi T47 890 3 = Xi T46 890 3 from w459.x _ _ rfl).trans ( (show Xi T46 890 3 = Xi T45 890 3 from w447.x _ _ rfl).trans ( (show Xi T45 890 3 = Xi T44 890 3 from w435.x _ _ rfl).trans ( (show Xi T44 890 3 = Xi T43 890 3 from w423.x _ _ rfl).trans ( (show Xi T43 890 3 = Xi U42 890 3 from w411.x _ _ rfl).trans ((show Xi U42 890 3 = Xi T41 890 3 from by rw [eU42]; exact Xi_ne (by omega)))))))))
                exact ⟨hHT49, hFT49, _, rfl, ⟨by omega, by omega⟩, (by  first | (have t := k25; rw [ckO_7 k25]; simp only [gS_1, gS_0, o_1, o_0, i10, i00, n10, n00, if_true, if_false, gp408, gp417, gp424, gp431, gp440, gp447, gp454]) | (have t := k125; rw [ckO_8 k125]; simp only [gS_1, gS_0, o_1, o_0, i10, i00, n10, n00, if_true, if_false, gp408, gp417, gp424, gp431, gp440, gp447, gp454]) | (have t := k260; rw [ckO_b n260.o m260.o k260]; exact gp261) | (have t := k265; rw [ckO_17 n265.o m265.o k265]; simp only [gS_1, gS_0, o_1, o_0, i10, i00, n10, n00, if_true, if_false, gp408, gp417, gp424, gp431, gp440, gp447, gp454]) | (have t := k332; rw [ckO_18 n332.o m332.o k332]; simp only [gS_1, gS_0, o_1, o_0, i10, i00, n10, n00, if_true, if_false, gp408, gp417, gp424, gp431, gp440, gp447, gp454]) | (have t := k401; rw [ckO_19 n401.o m401.o k401]; simp only [gS_1, gS_0, o_1, o_0, i10, i00, n10, n00, if_true, if_false, gp408, gp417, gp424, gp431, gp440, gp447, gp454]) | (have t := k475; rw [ckO_20 n475.o m475.o k475.o]; simp only [gS_1, gS_0, o_1, o_0, i10, i00, n10, n00, if_true, if_false, gp408, gp417, gp424, gp431, gp440, gp447, gp454])), (by omega), (by first | (have t := k25; exact (fun _ => ots_7 k25 (by omega))) | (have t := k125; exact (fun _ => ots_8 k125 (by omega))) | (have t := k260; exact (fun q => ots_b n260.o m260.o (by omega) k260 (s261.o q))) | (have t := k265; exact (fun _ => ots_s n265.o m265.o (by omega) (Or.inl ⟨k265, by omega⟩))) | (have t := k332; exact (fun _ => ots_s n332.o m332.o (by omega) (Or.inr (Or.inl ⟨k332, by omega⟩)))) | (have t := k401; exact (fun _ => ots_s n401.o m401.o (by omega) (Or.inr (Or.inr ⟨k401, by omega⟩)))) | (have t := k475; exact (fun _ => ots_20 n475.o m475.o (by omega) k475.o (by omega))))⟩
              · rw [show z482 = 1 by omega] at gp454
                refine y_aload_n rfl rfl ?_
                refine y_bipush rfl rfl ?_
                have w489 : Xi T49 876 7 = Xi T41 876 7 := (show Xi T49 876 7 = Xi T48 876 7 from w483.x _ _ rfl).trans ( (show Xi T48 876 7 = Xi T47 876 7 from w471.x _ _ rfl).trans ( (show Xi T47 876 7 = Xi T46 876 7 from w459.x _ _ rfl).trans ( (show Xi T46 876 7 = Xi T45 876 7 from w447.x _ _ rfl).trans ( (show Xi T45 876 7 = Xi T44 876 7 from w435.x _ _ rfl).trans ( (show Xi T44 876 7 = Xi T43 876 7 from w423.x _ _ rfl).trans ( (show Xi T43 876 7 = Xi U42 876 7 from w411.x _ _ rfl).trans ((show Xi U42 876 7 = Xi T41 876 7 from by rw [eU42]; exact Xi_ne (by omega)))))))))
                refine y_callV rfl rfl rfl (t_gr_take__p hHT49 103 ⟨by omega, by omega⟩ (by first | assumption | exact (NFR_FR hFT49 rfl rfl (by assumption : NFR S))) (by first | assumption | omega) (by first | assumption | omega) _) ?_
                rintro _ T50 ⟨hHT50, w495, z494, rfl, w494, w492, w493⟩
                have hFT50 : FR md_gr_checkOthers__p S T50 := FR.tr hFT49 w495 rfl
                show Pl _ _ _ _ _ _ [iv z494] _ _
                have gp463 := w492
                rw [FRT hFT49 rfl rfl] at gp463
                clear w492
                refine y_if_eq rfl rfl (by unfold rg; omega) (fun w496 => ?_) (fun w497 => ?_)
                · rw [show z494 = 0 by omega] at gp463
                  refine y_iconst rfl ?_
                  refine y_ireturn rfl rfl ?_
                  have w498 : Xi T50 876 7 = Xi T41 876 7 := (show Xi T50 876 7 = Xi T49 876 7 from w495.x _ _ rfl).trans ( (show Xi T49 876 7 = Xi T48 876 7 from w483.x _ _ rfl).trans ( (show Xi T48 876 7 = Xi T47 876 7 from w471.x _ _ rfl).trans ( (show Xi T47 876 7 = Xi T46 876 7 from w459.x _ _ rfl).trans ( (show Xi T46 876 7 = Xi T45 876 7 from w447.x _ _ rfl).trans ( (show Xi T45 876 7 = Xi T44 876 7 from w435.x _ _ rfl).trans ( (show Xi T44 876 7 = Xi T43 876 7 from w423.x _ _ rfl).trans ( (show Xi T43 876 7 = Xi U42 876 7 from w411.x _ _ rfl).trans ((show Xi U42 876 7 = Xi T41 876 7 from by rw [eU42]; exact Xi_ne (by omega))))))))))
                  have w499 : Xi T50 890 2 = Xi U42 890 2 := (show Xi T50 890 2 = Xi T49 890 2 from w495.x _ _ rfl).trans ( (show Xi T49 890 2 = Xi T48 890 2 from w483.x _ _ rfl).trans ( (show Xi T48 890 2 = Xi T47 890 2 from w471.x _ _ rfl).trans ( (show Xi T47 890 2 = Xi T46 890 2 from w459.x _ _ rfl).trans ( (show Xi T46 890 2 = Xi T45 890 2 from w447.x _ _ rfl).trans ( (show Xi T45 890 2 = Xi T44 890 2 from w435.x _ _ rfl).trans ( (show Xi T44 890 2 = Xi T43 890 2 from w423.x _ _ rfl).trans ((show Xi T43 890 2 = Xi U42 890 2 from w411.x _ _ rfl))))))))
                  have w500 : Xi T50 890 3 = Xi T41 890 3 := (show Xi T50 890 3 = Xi T49 890 3 from w495.x _ _ rfl).trans ( (show Xi T49 890 3 = Xi T48 890 3 from w483.x _ _ rfl).trans ( (show Xi T48 890 3 = Xi T47 890 3 from w471.x _ _ rfl).trans ( (show Xi T47 890 3 = Xi T46 890 3 from w459.x _ _ rfl).trans ( (show Xi T46 890 3 = Xi T45 890 3 from w447.x _ _ rfl).trans ( (show Xi T45 890 3 = Xi T44 890 3 from w435.x _ _ rfl).trans ( (show Xi T44 890 3 = Xi T43 890 3 from w423.x _ _ rfl).trans ( (show Xi T43 890 3 = Xi U42 890 3 from w411.x _ _ rfl).trans ((show Xi U42 890 3 = Xi T41 890 3 from by rw [eU42]; exact Xi_ne (by omega))))))))))
                  exact ⟨hHT50, hFT50, _, rfl, ⟨by omega, by omega⟩, (by  first | (have t := k25; rw [ckO_7 k25]; simp only [gS_1, gS_0, o_1, o_0, i10, i00, n10, n00, if_true, if_false, gp408, gp417, gp424, gp431, gp440, gp447, gp454, gp463]) | (have t := k125; rw [ckO_8 k125]; simp only [gS_1, gS_0, o_1, o_0, i10, i00, n10, n00, if_true, if_false, gp408, gp417, gp424, gp431, gp440, gp447, gp454, gp463]) | (have t := k260; rw [ckO_b n260.o m260.o k260]; exact gp261) | (have t := k265; rw [ckO_17 n265.o m265.o k265]; simp only [gS_1, gS_0, o_1, o_0, i10, i00, n10, n00, if_true, if_false, gp408, gp417, gp424, gp431, gp440, gp447, gp454, gp463]) | (have t := k332; rw [ckO_18 n332.o m332.o k332]; simp only [gS_1, gS_0, o_1, o_0, i10, i00, n10, n00, if_true, if_false, gp408, gp417, gp424, gp431, gp440, gp447, gp454, gp463]) | (have t := k401; rw [ckO_19 n401.o m401.o k401]; simp only [gS_1, gS_0, o_1, o_0, i10, i00, n10, n00, if_true, if_false, gp408, gp417, gp424, gp431, gp440, gp447, gp454, gp463]) | (have t := k475; rw [ckO_20 n475.o m475.o k475.o]; simp only [gS_1, gS_0, o_1, o_0, i10, i00, n10, n00, if_true, if_false, gp408, gp417, gp424, gp431, gp440, gp447, gp454, gp463])), (by omega), (by first | (have t := k25; exact (fun _ => ots_7 k25 (by omega))) | (have t := k125; exact (fun _ => ots_8 k125 (by omega))) | (have t := k260; exact (fun q => ots_b n260.o m260.o (by omega) k260 (s261.o q))) | (have t := k265; exact (fun _ => ots_s n265.o m265.o (by omega) (Or.inl ⟨k265, by omega⟩))) | (have t := k332; exact (fun _ => ots_s n332.o m332.o (by omega) (Or.inr (Or.inl ⟨k332, by omega⟩)))) | (have t := k401; exact (fun _ => ots_s n401.o m401.o (by omega) (Or.inr (Or.inr ⟨k401, by omega⟩)))) | (have t := k475; exact (fun _ => ots_20 n475.o m475.o (by omega) k475.o (by omega))))⟩
                · rw [show z494 = 1 by omega] at gp463
                  refine y_iconst rfl ?_
                  refine y_goto rfl rfl ?_
                  refine y_ireturn rfl rfl ?_
                  have w501 : Xi T50 876 7 = Xi T41 876 7 := (show Xi T50 876 7 = Xi T49 876 7 from w495.x _ _ rfl).trans ( (show Xi T49 876 7 = Xi T48 876 7 from w483.x _ _ rfl).trans ( (show Xi T48 876 7 = Xi T47 876 7 from w471.x _ _ rfl).trans ( (show Xi T47 876 7 = Xi T46 876 7 from w459.x _ _ rfl).trans ( (show Xi T46 876 7 = Xi T45 876 7 from w447.x _ _ rfl).trans ( (show Xi T45 876 7 = Xi T44 876 7 from w435.x _ _ rfl).trans ( (show Xi T44 876 7 = Xi T43 876 7 from w423.x _ _ rfl).trans ( (show Xi T43 876 7 = Xi U42 876 7 from w411.x _ _ rfl).trans ((show Xi U42 876 7 = Xi T41 876 7 from by rw [eU42]; exact Xi_ne (by omega))))))))))
                  have w502 : Xi T50 890 2 = Xi U42 890 2 := (show Xi T50 890 2 = Xi T49 890 2 from w495.x _ _ rfl).trans ( (show Xi T49 890 2 = Xi T48 890 2 from w483.x _ _ rfl).trans ( (show Xi T48 890 2 = Xi T47 890 2 from w471.x _ _ rfl).trans ( (show Xi T47 890 2 = Xi T46 890 2 from w459.x _ _ rfl).trans ( (show Xi T46 890 2 = Xi T45 890 2 from w447.x _ _ rfl).trans ( (show Xi T45 890 2 = Xi T44 890 2 from w435.x _ _ rfl).trans ( (show Xi T44 890 2 = Xi T43 890 2 from w423.x _ _ rfl).trans ((show Xi T43 890 2 = Xi U42 890 2 from w411.x _ _ rfl))))))))
                  have w503 : Xi T50 890 3 = Xi T41 890 3 := (show Xi T50 890 3 = Xi T49 890 3 from w495.x _ _ rfl).trans ( (show Xi T49 890 3 = Xi T48 890 3 from w483.x _ _ rfl).trans ( (show Xi T48 890 3 = Xi T47 890 3 from w471.x _ _ rfl).trans ( (show Xi T47 890 3 = Xi T46 890 3 from w459.x _ _ rfl).trans ( (show Xi T46 890 3 = Xi T45 890 3 from w447.x _ _ rfl).trans ( (show Xi T45 890 3 = Xi T44 890 3 from w435.x _ _ rfl).trans ( (show Xi T44 890 3 = Xi T43 890 3 from w423.x _ _ rfl).trans ( (show Xi T43 890 3 = Xi U42 890 3 from w411.x _ _ rfl).trans ((show Xi U42 890 3 = Xi T41 890 3 from by rw [eU42]; exact Xi_ne (by omega))))))))))
                  exact ⟨hHT50, hFT50, _, rfl, ⟨by omega, by omega⟩, (by  first | (have t := k25; rw [ckO_7 k25]; simp only [gS_1, gS_0, o_1, o_0, i10, i00, n10, n00, if_true, if_false, gp408, gp417, gp424, gp431, gp440, gp447, gp454, gp463]) | (have t := k125; rw [ckO_8 k125]; simp only [gS_1, gS_0, o_1, o_0, i10, i00, n10, n00, if_true, if_false, gp408, gp417, gp424, gp431, gp440, gp447, gp454, gp463]) | (have t := k260; rw [ckO_b n260.o m260.o k260]; exact gp261) | (have t := k265; rw [ckO_17 n265.o m265.o k265]; simp only [gS_1, gS_0, o_1, o_0, i10, i00, n10, n00, if_true, if_false, gp408, gp417, gp424, gp431, gp440, gp447, gp454, gp463]) | (have t := k332; rw [ckO_18 n332.o m332.o k332]; simp only [gS_1, gS_0, o_1, o_0, i10, i00, n10, n00, if_true, if_false, gp408, gp417, gp424, gp431, gp440, gp447, gp454, gp463]) | (have t := k401; rw [ckO_19 n401.o m401.o k401]; simp only [gS_1, gS_0, o_1, o_0, i10, i00, n10, n00, if_true, if_false, gp408, gp417, gp424, gp431, gp440, gp447, gp454, gp463]) | (have t := k475; rw [ckO_20 n475.o m475.o k475.o]; simp only [gS_1, gS_0, o_1, o_0, i10, i00, n10, n00, if_true, if_false, gp408, gp417, gp424, gp431, gp440, gp447, gp454, gp463])), (by omega), (by first | (have t := k25; exact (fun _ => ots_7 k25 (by omega))) | (have t := k125; exact (fun _ => ots_8 k125 (by omega))) | (have t := k260; exact (fun q => ots_b n260.o m260.o (by omega) k260 (s261.o q))) | (have t := k265; exact (fun _ => ots_s n265.o m265.o (by omega) (Or.inl ⟨k265, by omega⟩))) | (have t := k332; exact (fun _ => ots_s n332.o m332.o (by omega) (Or.inr (Or.inl ⟨k332, by omega⟩)))) | (have t := k401; exact (fun _ => ots_s n401.o m401.o (by omega) (Or.inr (Or.inr ⟨k401, by omega⟩)))) | (have t := k475; exact (fun _ => ots_20 n475.o m475.o (by omega) k475.o (by omega))))⟩
set_option maxRecDepth 100000 in
theorem c181_gr_checkOthers__p {S : sS} (hH : RI S) (hfr : NFR S) (hr : Xi S 876 7 ≤ 5130) (hls : LST S) (h1 : 1 ≤ Xi S 876 7) (d : Nat) (fu : Nat) : (Hid (¬ (ty7 S 0 = 2 ∧ ty7 S 1 = 25))) → (Hid (¬ (ty7 S 0 = 2 ∧ ty7 S 1 = 19))) → Pl fu lay0 (d + 5) m_gr_checkOthers 181 [(0, .ref 890)] [] S (Q_gr_checkOthers__p S) := by
  have C475 := c475_gr_checkOthers__p hH hfr hr hls h1 d  fu
  have C260 := c260_gr_checkOthers__p hH hfr hr hls h1 d  fu
  have C265 := c265_gr_checkOthers__p hH hfr hr hls h1 d  fu
  have C332 := c332_gr_checkOthers__p hH hfr hr hls h1 d  fu
  have C401 := c401_gr_checkOthers__p hH hfr hr hls h1 d  fu
  have hF : FR md_gr_checkOthers__p S S := FR.rf
  have w1 : -2147483648 ≤ Xi S 876 7 ∧ Xi S 876 7 ≤ 2147483647 := Xi_rgI
  have w2 : -2147483648 ≤ Xi S 890 1 ∧ Xi S 890 1 ≤ 2147483647 := Xi_rgI
  have w3 : -2147483648 ≤ Xi S 890 2 ∧ Xi S 890 2 ≤ 2147483647 := Xi_rgI
  have w4 : -2147483648 ≤ Xi S 890 3 ∧ Xi S 890 3 ≤ 2147483647 := Xi_rgI
  intro n181 m181
  refine y_aload_n rfl rfl ?_
  refine y_iconst rfl ?_
  refine y_pfi rfl rfl rfl rfl ?_
  obtain ⟨U51, eU51⟩ : ∃ T : sS, T = uI S 890 1 (Int32.ofInt 0) := ⟨_, rfl⟩
  rw [← eU51]
  have hHU51 : RI U51 := by rw [eU51]; exact RI_w hH
  have hFU51 : FR md_gr_checkOthers__p S U51 := by rw [eU51]; exact FR.wI hF (mdf_i (r := (890, 891, 1, 2)) (List.mem_of_getElem? (i := 0) rfl) (inR_i (by omega) (by omega) (by omega) (by omega)))
  have w504 : Xi U51 890 1 = 0 := by rw [eU51]; exact Xi_same (by unfold rg; omega)
  refine y_aload_n rfl rfl ?_
  refine y_aload_n rfl rfl ?_
  refine y_gfr rfl rfl rfl rfl rfl (hHU51.r 890 0 876 rfl) ?_
  have w505 : Xi U51 876 7 = Xi S 876 7 := (show Xi U51 876 7 = Xi S 876 7 from by rw [eU51]; exact Xi_ne (by omega))
  refine y_callV rfl rfl rfl (t_to_tellingKey__p hHU51 (by first | assumption | exact (LST_FR hFU51 rfl rfl (by assumption : LST S))) (by first | assumption | omega) _) ?_
  rintro _ _ ⟨rfl, z509, rfl, w509, w508⟩
  show Pl _ _ _ _ _ _ [iv z509, .ref 890] _ _
  have gq191 := w508
  rw [FRT hFU51 rfl rfl] at gq191
  try rw [show Xi U51 890 1 = 0 by omega] at gq191
  clear w508
  refine y_pfi rfl rfl rfl rfl ?_
  obtain ⟨U52, eU52⟩ : ∃ T : sS, T = uI U51 890 3 (Int32.ofInt z509) := ⟨_, rfl⟩
  rw [← eU52]
  have hHU52 : RI U52 := by rw [eU52]; exact RI_w hHU51
  have hFU52 : FR md_gr_checkOthers__p S U52 := by rw [eU52]; exact FR.wI hFU51 (mdf_i (r := (890, 891, 3, 4)) (List.mem_of_getElem? (i := 2) rfl) (inR_i (by omega) (by omega) (by omega) (by omega)))
  have w510 : Xi U52 890 3 = z509 := by rw [eU52]; exact Xi_same (by unfold rg; omega)
  refine y_aload_n rfl rfl ?_
  refine y_gfr rfl rfl rfl rfl rfl (hHU52.r 890 0 876 rfl) ?_
  refine y_aload_n rfl rfl ?_
  refine y_gfi rfl rfl rfl rfl rfl ?_
  have w511 : Xi U52 876 7 = Xi S 876 7 := (show Xi U52 876 7 = Xi U51 876 7 from by rw [eU52]; exact Xi_ne (by omega)).trans ((show Xi U51 876 7 = Xi S 876 7 from by rw [eU51]; exact Xi_ne (by omega)))
  refine y_callV rfl rfl rfl (t_to_typeAt__p hHU52 (Xi U52 890 3) ⟨by omega, by omega⟩ _) ?_
  rintro _ _ ⟨rfl, z516, rfl, w516, w514, w515⟩
  show Pl _ _ _ _ _ _ [iv z516] _ _
  have gq205 := w514
  rw [FRT hFU52 rfl rfl] at gq205
  try rw [show Xi U52 890 1 = 0 by omega] at gq205
  try rw [show (Xi U52 890 3) = z509 by omega] at gq205
  clear w514
  have kt205 : kt7 (ty7 S) = z516 := kt_of gq191 gq205
  refine y_lsw rfl rfl (by unfold rg; omega) ?_
  refine And.intro (fun w517 => ⟨_, rfl, ?_⟩) (fun w518 => ?_)
  · have w519 : Xi U52 876 7 = Xi S 876 7 := (show Xi U52 876 7 = Xi U51 876 7 from by rw [eU52]; exact Xi_ne (by omega)).trans ((show Xi U51 876 7 = Xi S 876 7 from by rw [eU51]; exact Xi_ne (by omega)))
    have w520 : Xi U52 890 1 = Xi U51 890 1 := (show Xi U52 890 1 = Xi U51 890 1 from by rw [eU52]; exact Xi_ne (by omega))
    have w521 : Xi U52 890 2 = Xi S 890 2 := (show Xi U52 890 2 = Xi U51 890 2 from by rw [eU52]; exact Xi_ne (by omega)).trans ((show Xi U51 890 2 = Xi S 890 2 from by rw [eU51]; exact Xi_ne (by omega)))
    exact Pl_weak (C260 U52 hHU52 hFU52  (n181) (m181) (by omega) (by omega) (by omega)) (by omega) (And.intro rfl (True.intro))
  refine And.intro (fun w522 => ⟨_, rfl, ?_⟩) (fun w523 => ?_)
  · have w524 : Xi U52 876 7 = Xi S 876 7 := (show Xi U52 876 7 = Xi U51 876 7 from by rw [eU52]; exact Xi_ne (by omega)).trans ((show Xi U51 876 7 = Xi S 876 7 from by rw [eU51]; exact Xi_ne (by omega)))
    have w525 : Xi U52 890 1 = Xi U51 890 1 := (show Xi U52 890 1 = Xi U51 890 1 from by rw [eU52]; exact Xi_ne (by omega))
    have w526 : Xi U52 890 2 = Xi S 890 2 := (show Xi U52 890 2 = Xi U51 890 2 from by rw [eU52]; exact Xi_ne (by omega)).trans ((show Xi U51 890 2 = Xi S 890 2 from by rw [eU51]; exact Xi_ne (by omega)))
    exact Pl_weak (C260 U52 hHU52 hFU52  (n181) (m181) (by omega) (by omega) (by omega)) (by omega) (And.intro rfl (True.intro))
  refine And.intro (fun w527 => ⟨_, rfl, ?_⟩) (fun w528 => ?_)
  · have w529 : Xi U52 876 7 = Xi S 876 7 := (show Xi U52 876 7 = Xi U51 876 7 from by rw [eU52]; exact Xi_ne (by omega)).trans ((show Xi U51 876 7 = Xi S 876 7 from by rw [eU51]; exact Xi_ne (by omega)))
    have w530 : Xi U52 890 1 = Xi U51 890 1 := (show Xi U52 890 1 = Xi U51 890 1 from by rw [eU52]; exact Xi_ne (by omega))
    have w531 : Xi U52 890 2 = Xi S 890 2 := (show Xi U52 890 2 = Xi U51 890 2 from by rw [eU52]; exact Xi_ne (by omega)).trans ((show Xi U51 890 2 = Xi S 890 2 from by rw [eU51]; exact Xi_ne (by omega)))
    exact Pl_weak (C265 U52 hHU52 hFU52  (n181) (m181) (by omega) (by omega) (by omega)) (by omega) (And.intro rfl (True.intro))
  refine And.intro (fun w532 => ⟨_, rfl, ?_⟩) (fun w533 => ?_)
  · have w534 : Xi U52 876 7 = Xi S 876 7 := (show Xi U52 876 7 = Xi U51 876 7 from by rw [eU52]; exact Xi_ne (by omega)).trans ((show Xi U51 876 7 = Xi S 876 7 from by rw [eU51]; exact Xi_ne (by omega)))
    have w535 : Xi U52 890 1 = Xi U51 890 1 := (show Xi U52 890 1 = Xi U51 890 1 from by rw [eU52]; exact Xi_ne (by omega))
    have w536 : Xi U52 890 2 = Xi S 890 2 := (show Xi U52 890 2 = Xi U51 890 2 from by rw [eU52]; exact Xi_ne (by omega)).trans ((show Xi U51 890 2 = Xi S 890 2 from by rw [eU51]; exact Xi_ne (by omega)))
    exact Pl_weak (C332 U52 hHU52 hFU52  (n181) (m181) (by omega) (by omega) (by omega)) (by omega) (And.intro rfl (True.intro))
  refine And.intro (fun w537 => ⟨_, rfl, ?_⟩) (fun w538 => ?_)
  · have w539 : Xi U52 876 7 = Xi S 876 7 := (show Xi U52 876 7 = Xi U51 876 7 from by rw [eU52]; exact Xi_ne (by omega)).trans ((show Xi U51 876 7 = Xi S 876 7 from by rw [eU51]; exact Xi_ne (by omega)))
    have w540 : Xi U52 890 1 = Xi U51 890 1 := (show Xi U52 890 1 = Xi U51 890 1 from by rw [eU52]; exact Xi_ne (by omega))
    have w541 : Xi U52 890 2 = Xi S 890 2 := (show Xi U52 890 2 = Xi U51 890 2 from by rw [eU52]; exact Xi_ne (by omega)).trans ((show Xi U51 890 2 = Xi S 890 2 from by rw [eU51]; exact Xi_ne (by omega)))
    exact Pl_weak (C401 U52 hHU52 hFU52  (n181) (m181) (by omega) (by omega) (by omega)) (by omega) (And.intro rfl (True.intro))
  refine ⟨_, rfl, ?_⟩
  have w543 : Xi U52 890 1 = Xi U51 890 1 := (show Xi U52 890 1 = Xi U51 890 1 from by rw [eU52]; exact Xi_ne (by omega))
  have w544 : Xi U52 890 2 = Xi S 890 2 := (show Xi U52 890 2 = Xi U51 890 2 from by rw [eU52]; exact Xi_ne (by omega)).trans ((show Xi U51 890 2 = Xi S 890 2 from by rw [eU51]; exact Xi_ne (by omega)))
  exact Pl_weak (C475 U52 hHU52 hFU52  (n181) (m181) (by omega) (by omega) (by unfold Hid; omega)) (by omega) (And.intro rfl (True.intro))
set_option maxRecDepth 100000 in
theorem c100_gr_checkOthers__p {S : sS} (hH : RI S) (hfr : NFR S) (hr : Xi S 876 7 ≤ 5130) (hls : LST S) (h1 : 1 ≤ Xi S 876 7) (d : Nat) (fu : Nat) : (Hid (¬ (ty7 S 0 = 2 ∧ ty7 S 1 = 25))) → Pl fu lay0 (d + 5) m_gr_checkOthers 100 [(0, .ref 890)] [] S (Q_gr_checkOthers__p S) := by
  have C125 := c125_gr_checkOthers__p hH hfr hr hls h1 d  fu
  have C181 := c181_gr_checkOthers__p hH hfr hr hls h1 d  fu
  have hF : FR md_gr_checkOthers__p S S := FR.rf
  have w1 : -2147483648 ≤ Xi S 876 7 ∧ Xi S 876 7 ≤ 2147483647 := Xi_rgI
  have w2 : -2147483648 ≤ Xi S 890 1 ∧ Xi S 890 1 ≤ 2147483647 := Xi_rgI
  have w3 : -2147483648 ≤ Xi S 890 2 ∧ Xi S 890 2 ≤ 2147483647 := Xi_rgI
  have w4 : -2147483648 ≤ Xi S 890 3 ∧ Xi S 890 3 ≤ 2147483647 := Xi_rgI
  intro n100
  refine y_aload_n rfl rfl ?_
  refine y_gfr rfl rfl rfl rfl rfl (hH.r 890 0 876 rfl) ?_
  refine y_iconst rfl ?_
  refine y_callV rfl rfl rfl (t_to_typeAt__p hH 0 ⟨by omega, by omega⟩ _) ?_
  rintro _ _ ⟨rfl, z547, rfl, w547, w545, w546⟩
  show Pl _ _ _ _ _ _ [iv z547] _ _
  have gq105 := w545
  try rw [show Xi S 890 1 = 0 by omega] at gq105
  clear w545
  refine y_iconst rfl ?_
  refine y_icmp_ne rfl rfl (by unfold rg; omega) (by unfold rg; omega) (fun w548 => ?_) (fun w549 => ?_)
  · exact Pl_weak (C181  (n100) (by unfold Hid; omega)) (by omega) (And.intro rfl (True.intro))
  · refine y_aload_n rfl rfl ?_
    refine y_gfr rfl rfl rfl rfl rfl (hH.r 890 0 876 rfl) ?_
    refine y_iconst rfl ?_
    refine y_callV rfl rfl rfl (t_to_typeAt__p hH 1 ⟨by omega, by omega⟩ _) ?_
    rintro _ _ ⟨rfl, z552, rfl, w552, w550, w551⟩
    show Pl _ _ _ _ _ _ [iv z552] _ _
    have gq117 := w550
    try rw [show Xi S 890 1 = 0 by omega] at gq117
    clear w550
    refine y_bipush rfl rfl ?_
    refine y_icmp_ne rfl rfl (by unfold rg; omega) (by unfold rg; omega) (fun w553 => ?_) (fun w554 => ?_)
    · exact Pl_weak (C181  (n100) (by unfold Hid; omega)) (by omega) (And.intro rfl (True.intro))
    · exact Pl_weak (C125  (by omega)) (by omega) (And.intro rfl (True.intro))
set_option maxRecDepth 100000 in
theorem t_gr_checkOthers__p {S : sS} (hH : RI S) (hfr : NFR S) (hr : Xi S 876 7 ≤ 5130) (hls : LST S) (h1 : 1 ≤ Xi S 876 7) (d : Nat) : Mp lay0 (d + 6) m_gr_checkOthers [.ref 890] S (Q_gr_checkOthers__p S) := by
  refine Mp_R rfl rfl (fun fu => ?_)
  have C25 := c25_gr_checkOthers__p hH hfr hr hls h1 d  fu
  have C125 := c125_gr_checkOthers__p hH hfr hr hls h1 d  fu
  have C475 := c475_gr_checkOthers__p hH hfr hr hls h1 d  fu
  have C260 := c260_gr_checkOthers__p hH hfr hr hls h1 d  fu
  have C265 := c265_gr_checkOthers__p hH hfr hr hls h1 d  fu
  have C332 := c332_gr_checkOthers__p hH hfr hr hls h1 d  fu
  have C401 := c401_gr_checkOthers__p hH hfr hr hls h1 d  fu
  have C181 := c181_gr_checkOthers__p hH hfr hr hls h1 d  fu
  have C100 := c100_gr_checkOthers__p hH hfr hr hls h1 d  fu
  have hF : FR md_gr_checkOthers__p S S := FR.rf
  have w1 : -2147483648 ≤ Xi S 876 7 ∧ Xi S 876 7 ≤ 2147483647 := Xi_rgI
  have w2 : -2147483648 ≤ Xi S 890 1 ∧ Xi S 890 1 ≤ 2147483647 := Xi_rgI
  have w3 : -2147483648 ≤ Xi S 890 2 ∧ Xi S 890 2 ≤ 2147483647 := Xi_rgI
  have w4 : -2147483648 ≤ Xi S 890 3 ∧ Xi S 890 3 ≤ 2147483647 := Xi_rgI
  refine y_aload_n rfl rfl ?_
  refine y_gfr rfl rfl rfl rfl rfl (hH.r 890 0 876 rfl) ?_
  refine y_iconst rfl ?_
  refine y_callV rfl rfl rfl (t_to_typeAt__p hH 0 ⟨by omega, by omega⟩ _) ?_
  rintro _ _ ⟨rfl, z557, rfl, w557, w555, w556⟩
  show Pl _ _ _ _ _ _ [iv z557] _ _
  have gq5 := w555
  try rw [show Xi S 890 1 = 0 by omega] at gq5
  clear w555
  refine y_iconst rfl ?_
  refine y_icmp_ne rfl rfl (by unfold rg; omega) (by unfold rg; omega) (fun w558 => ?_) (fun w559 => ?_)
  · exact Pl_weak (C100  (by unfold Hid; omega)) (by omega) (And.intro rfl (True.intro))
  · refine y_aload_n rfl rfl ?_
    refine y_gfr rfl rfl rfl rfl rfl (hH.r 890 0 876 rfl) ?_
    refine y_iconst rfl ?_
    refine y_callV rfl rfl rfl (t_to_typeAt__p hH 1 ⟨by omega, by omega⟩ _) ?_
    rintro _ _ ⟨rfl, z562, rfl, w562, w560, w561⟩
    show Pl _ _ _ _ _ _ [iv z562] _ _
    have gq17 := w560
    try rw [show Xi S 890 1 = 0 by omega] at gq17
    clear w560
    refine y_bipush rfl rfl ?_
    refine y_icmp_ne rfl rfl (by unfold rg; omega) (by unfold rg; omega) (fun w563 => ?_) (fun w564 => ?_)
    · exact Pl_weak (C100  (by unfold Hid; omega)) (by omega) (And.intro rfl (True.intro))
    · exact Pl_weak (C25  (by omega)) (by omega) (And.intro rfl (True.intro))
end
