section
/-- what common keeps behind a list and is or are -/
def CRS (S : sS) (T : Int → Int) : Prop := Xi S 904 71 = 0 ∧ ∃ a, gSq (gLs2 T 5200 0) (gBe T) = (1, a) ∧ RSR S T a (Xi S 904 72) ∧ (Xi S 904 77 = 1 ↔ T (a - 1) = 5) ∧ ((Xi S 904 70 = 15 ∨ Xi S 904 70 = 16) → T a = 100 → Xi S 904 75 = 0 ∧ Xi S 904 76 = 0) ∧ kr7 T (Xi S 904 72).toNat = nf7 T (a - 1)
/-- .. of a property -/
def C9S (S : sS) (T : Int → Int) (f : Nat) : Prop := Xi S 904 70 = 9 ∧ ∃ a, gSq (gSq (gSq (gR T 1) (gT T 7)) (gN T)) (gBe T) = (1, a) ∧ Xi S 904 78 = f + a
theorem gBe_cs (T : Int → Int) (a : Int) : (gBe T a = (1, a + 1) ∧ (T a = 4 ∨ T a = 5)) ∨ gBe T a = (0, a) := by
  by_cases h : T a = 4 ∨ T a = 5
  · exact Or.inl ⟨gBe_1 h, h⟩
  · exact Or.inr (gBe_0 (fun q => h (Or.inl q)) (fun q => h (Or.inr q)))
theorem gBe_up {V W : sS} {f : Nat} {T : Int → Int} (e : gSq (cu V f) (gBe T) = cu W f) (b : Xi W 904 65 = 0) : Xi W 904 8 = Xi V 904 8 + 1 ∧ Xi V 904 65 = 0 := by
  by_cases q : Xi V 904 65 = 0
  · rw [cu_ok q, gS_1, cu_ok b] at e
    rcases gBe_cs T (Xi V 904 8 - f) with ⟨h, _⟩ | h
    · rw [h] at e
      have t := congrArg Prod.snd e
      simp only at t
      exact ⟨by omega, q⟩
    · rw [h] at e
      have t := congrArg Prod.fst e
      simp at t
  · rw [cu_bad q, gS_0, cu_ok b] at e
    have t := congrArg Prod.fst e
    simp at t
theorem oo_e {T : Int → Int} {t u : Int} (h : t = u ∨ ((t ≠ 12 ∧ t ≠ 13 ∧ t ≠ 21) ∧ u ≠ 12 ∧ u ≠ 13 ∧ u ≠ 21)) : gOo T t = gOo T u := by
  rcases h with h | ⟨⟨a, b, c⟩, d, e, f⟩
  · rw [h]
  · rw [gOo_20 a b c, gOo_20 d e f]

def md_mo_common__p : List rec := [(904, 905, 8, 9), (904, 905, 65, 66), (904, 905, 66, 67), (904, 905, 69, 70), (904, 905, 70, 71), (904, 905, 71, 72), (904, 905, 72, 73), (904, 905, 73, 74), (904, 905, 74, 75), (904, 905, 75, 76), (904, 905, 76, 77), (904, 905, 77, 78), (904, 905, 78, 79), (904, 905, 79, 80), (904, 905, 80, 81), (950, 951, 0, 100000), (951, 952, 0, 100000)]
abbrev Q_mo_common__p (S : sS) (fs : Nat) (ns : Nat) : pst := fun r S1 => RI S1 ∧ FR md_mo_common__p S S1 ∧ (r = none ∧ (gCo (tR S fs ns) = cu S1 fs) ∧ (Xi S 904 69 ≤ Xi S1 904 69) ∧ (Xi S1 904 65 = 0 → 9 ≤ Xi S1 904 70 ∧ Xi S1 904 70 ≤ 20) ∧ (Xi S1 904 65 = 0 → Xi S1 904 70 ≠ 20 → JR S1 fs ns) ∧ (Xi S1 904 65 = 0 → (kt7 (tR S fs ns) = 4 ∨ kt7 (tR S fs ns) = 5) → ¬ bp7 (tR S fs ns) 0 → CRS S1 (tR S fs ns)) ∧ (Xi S1 904 65 = 0 → (kt7 (tR S fs ns) = 4 ∨ kt7 (tR S fs ns) = 5) → bp7 (tR S fs ns) 0 → C9S S1 (tR S fs ns) fs) ∧ (¬ (kt7 (tR S fs ns) = 4 ∨ kt7 (tR S fs ns) = 5) → (kt7 (tR S fs ns) = 12 → Xi S1 904 70 = 17) ∧ (kt7 (tR S fs ns) = 13 → Xi S1 904 70 = 18) ∧ (kt7 (tR S fs ns) = 21 → Xi S1 904 70 = 19) ∧ (kt7 (tR S fs ns) ≠ 12 → kt7 (tR S fs ns) ≠ 13 → kt7 (tR S fs ns) ≠ 21 → Xi S1 904 70 = 20)) ∧ (Xi S1 904 65 = 0 → kt7 (tR S fs ns) = 21 → ONR S1 (tR S fs ns)) ∧ (Xi S1 904 65 = 0 → Xi S 904 65 = 0 ∧ Xi S 904 8 ≤ Xi S1 904 8) ∧ (INR S1 fs ns))
set_option maxRecDepth 100000 in
theorem c107_mo_common__p {S : sS} (hH : RI S) (fs : Nat) (ns : Nat) (hvl : VLR S fs ns) (hJR : JR S fs ns) (hb : Xi S 904 65 = 0) (h0 : Xi S 904 8 = fs) (hr0 : Xi S 904 69 = 0) (h75 : Xi S 904 75 = 0 ∧ Xi S 904 76 = 0) (h93 : Xi S 904 93 = 0) (d : Nat) (fu : Nat) : ∀  (v1 : Int), (-2147483648 ≤ v1 ∧ v1 ≤ 2147483647) → ((v1 = 0 → kt7 (tR S fs ns) = 107) ∧ (v1 ≠ 0 → kt7 (tR S fs ns) = v1 - 100) ∧ (v1 = 0 ∨ v1 = 104 ∨ v1 = 105 ∨ v1 = 112 ∨ v1 = 113 ∨ v1 = 121)) → (Hid (¬ (kt7 (tR S fs ns) = 4 ∨ kt7 (tR S fs ns) = 5))) → Pl fu lay0 (d + 4) m_mo_common 107 [(0, .ref 904), (1, iv v1)] [] S (Q_mo_common__p S fs ns) := by
  have hF : FR md_mo_common__p S S := FR.rf
  have w1 : -2147483648 ≤ Xi S 904 65 ∧ Xi S 904 65 ≤ 2147483647 := Xi_rgI
  have w2 : -2147483648 ≤ Xi S 904 66 ∧ Xi S 904 66 ≤ 2147483647 := Xi_rgI
  have w3 : -2147483648 ≤ Xi S 904 69 ∧ Xi S 904 69 ≤ 2147483647 := Xi_rgI
  have w4 : -2147483648 ≤ Xi S 904 70 ∧ Xi S 904 70 ≤ 2147483647 := Xi_rgI
  have w5 : -2147483648 ≤ Xi S 904 71 ∧ Xi S 904 71 ≤ 2147483647 := Xi_rgI
  have w6 : -2147483648 ≤ Xi S 904 72 ∧ Xi S 904 72 ≤ 2147483647 := Xi_rgI
  have w7 : -2147483648 ≤ Xi S 904 75 ∧ Xi S 904 75 ≤ 2147483647 := Xi_rgI
  have w8 : -2147483648 ≤ Xi S 904 76 ∧ Xi S 904 76 ≤ 2147483647 := Xi_rgI
  have w9 : -2147483648 ≤ Xi S 904 77 ∧ Xi S 904 77 ≤ 2147483647 := Xi_rgI
  have w10 : -2147483648 ≤ Xi S 904 78 ∧ Xi S 904 78 ≤ 2147483647 := Xi_rgI
  have w11 : -2147483648 ≤ Xi S 904 8 ∧ Xi S 904 8 ≤ 2147483647 := Xi_rgI
  have w12 : -2147483648 ≤ Xi S 904 93 ∧ Xi S 904 93 ≤ 2147483647 := Xi_rgI
  have : Xi S 904 65 = 0 → (fs : Int) ≤ Xi S 904 8 ∧ Xi S 904 8 ≤ fs + ns := JR.i (by assumption)
  have hbd := hvl.2.2.2
  intro v1 w13 k107 n107
  refine y_aload_n rfl rfl ?_
  refine y_iload_n rfl rfl ?_
  refine y_callV rfl rfl rfl (t_mo_others__p hH fs ns v1 ⟨by omega, by omega⟩ (by first | assumption | exact (VLR_FR hF rfl (by assumption : VLR S _ _))) (by first | assumption | exact (by assumption : JR S _ _)) (by first | assumption | omega) (by first | assumption | omega) _) ?_
  rintro _ T1 ⟨hHT1, w20, rfl, w14, w15, j109, w16, on109_, w17, w18⟩
  have hFT1 : FR md_mo_common__p S T1 := FR.tr hF w20 rfl
  show Pl _ _ _ _ _ _ [] _ _
  have : Xi T1 904 65 = 0 → (fs : Int) ≤ Xi T1 904 8 ∧ Xi T1 904 8 ≤ fs + ns := (by assumption : INR T1 fs ns)
  have gp109 := w14
  clear w14
  have on109 := on109_
  rw [FRR hF rfl] at on109
  clear on109_
  refine y_goto rfl rfl ?_
  refine y_return rfl rfl ?_
  have w21 : Xi T1 904 71 = Xi S 904 71 := (show Xi T1 904 71 = Xi S 904 71 from w20.x _ _ rfl)
  have w22 : Xi T1 904 72 = Xi S 904 72 := (show Xi T1 904 72 = Xi S 904 72 from w20.x _ _ rfl)
  have w23 : Xi T1 904 75 = Xi S 904 75 := (show Xi T1 904 75 = Xi S 904 75 from w20.x _ _ rfl)
  have w24 : Xi T1 904 76 = Xi S 904 76 := (show Xi T1 904 76 = Xi S 904 76 from w20.x _ _ rfl)
  have w25 : Xi T1 904 77 = Xi S 904 77 := (show Xi T1 904 77 = Xi S 904 77 from w20.x _ _ rfl)
  have w26 : Xi T1 904 78 = Xi S 904 78 := (show Xi T1 904 78 = Xi S 904 78 from w20.x _ _ rfl)
  have w27 : Xi T1 904 93 = Xi S 904 93 := (show Xi T1 904 93 = Xi S 904 93 from w20.x _ _ rfl)
  exact ⟨hHT1, hFT1, rfl, (by unfold gCo; first | (have t := gp109; rw [if_neg n107.o]; exact (oo_e (by omega)).trans gp109) | (have t := gp163; rw [if_pos k126.o, if_pos b126.o]; unfold gO9; rw [cu_go gp143 (by omega) (by omega), gp150, gp154, gp159, gp163]) | (have t := gp186; rw [if_pos k169.o, if_neg b169.o, cu_go gp171 (by omega) (by omega), gp175]; exact cu_br (fun b => gp186) (fun b => absurd (by omega) b)) | (rw [if_pos k169.o, if_neg b169.o, cu_go gp171 (by omega) (by omega), gp175]; exact cu_br (fun b => absurd b (by omega)) (fun b => rfl))), (by omega), (by omega), (by first | (have t := gp109; exact (fun _ q => j109 (by omega))) | exact (fun _ _ => by first | assumption | exact (by assumption : JR T1 _ _))), (by first | (have t := gp109; exact (fun _ q _ => absurd q n107.o)) | (have t := gp163; exact (fun _ _ q => absurd b126.o q)) | exact (fun q => absurd q (by omega)) | (have t := gp186; exact (fun b _ _ => ⟨by omega, Xi nomark 904 8 - fs, by rw [cu_go gp171 (by omega) (by omega), gp175, cu_ok (by omega)], by rw [show Xi T1 904 72 = Xi nomark 904 69 by omega]; exact r186 b, by rw [show Xi nomark 904 8 - (fs : Int) - 1 = Xi nomark 904 8 - fs by have t := y175.o (by omega); omega, show Xi T1 904 77 = Xi nomark 904 77 by omega]; exact ar175.o (by omega), by omega, by rw [show Xi nomark 904 8 - (fs : Int) - 1 = Xi nomark 904 8 - fs by have t := y175.o (by omega); omega, show Xi T1 904 72 = Xi nomark 904 69 by omega]; exact kl171.o (by omega)⟩))), (by first | (have t := gp109; exact (fun _ q _ => absurd q n107.o)) | (have t := gp163; exact (fun b _ _ => ⟨by omega, Xi nomark 904 8 - fs, by rw [cu_go gp143 (by omega) (by omega), gp150, gp154, gp159, cu_ok (by omega)], by omega⟩)) | exact (fun _ _ q => absurd q b169.o)), (by first | (have t := gp109; exact (fun _ => by omega)) | exact (fun q => absurd (by first | exact k126.o | exact k169.o) q)), (by first | (have t := gp109; exact (fun b q => on109 b (by omega))) | exact (fun _ q => by have u := k126.o; omega) | exact (fun _ q => by have u := k169.o; omega)), (by omega), (fun b => by omega)⟩
set_option maxRecDepth 100000 in
theorem c126_mo_common__p {S : sS} (hH : RI S) (fs : Nat) (ns : Nat) (hvl : VLR S fs ns) (hJR : JR S fs ns) (hb : Xi S 904 65 = 0) (h0 : Xi S 904 8 = fs) (hr0 : Xi S 904 69 = 0) (h75 : Xi S 904 75 = 0 ∧ Xi S 904 76 = 0) (h93 : Xi S 904 93 = 0) (d : Nat) (fu : Nat) : (Hid (kt7 (tR S fs ns) = 4 ∨ kt7 (tR S fs ns) = 5)) → (Hid (bp7 (tR S fs ns) 0)) → Pl fu lay0 (d + 4) m_mo_common 126 [(0, .ref 904)] [] S (Q_mo_common__p S fs ns) := by
  have hF : FR md_mo_common__p S S := FR.rf
  have w1 : -2147483648 ≤ Xi S 904 65 ∧ Xi S 904 65 ≤ 2147483647 := Xi_rgI
  have w2 : -2147483648 ≤ Xi S 904 66 ∧ Xi S 904 66 ≤ 2147483647 := Xi_rgI
  have w3 : -2147483648 ≤ Xi S 904 69 ∧ Xi S 904 69 ≤ 2147483647 := Xi_rgI
  have w4 : -2147483648 ≤ Xi S 904 70 ∧ Xi S 904 70 ≤ 2147483647 := Xi_rgI
  have w5 : -2147483648 ≤ Xi S 904 71 ∧ Xi S 904 71 ≤ 2147483647 := Xi_rgI
  have w6 : -2147483648 ≤ Xi S 904 72 ∧ Xi S 904 72 ≤ 2147483647 := Xi_rgI
  have w7 : -2147483648 ≤ Xi S 904 75 ∧ Xi S 904 75 ≤ 2147483647 := Xi_rgI
  have w8 : -2147483648 ≤ Xi S 904 76 ∧ Xi S 904 76 ≤ 2147483647 := Xi_rgI
  have w9 : -2147483648 ≤ Xi S 904 77 ∧ Xi S 904 77 ≤ 2147483647 := Xi_rgI
  have w10 : -2147483648 ≤ Xi S 904 78 ∧ Xi S 904 78 ≤ 2147483647 := Xi_rgI
  have w11 : -2147483648 ≤ Xi S 904 8 ∧ Xi S 904 8 ≤ 2147483647 := Xi_rgI
  have w12 : -2147483648 ≤ Xi S 904 93 ∧ Xi S 904 93 ≤ 2147483647 := Xi_rgI
  have : Xi S 904 65 = 0 → (fs : Int) ≤ Xi S 904 8 ∧ Xi S 904 8 ≤ fs + ns := JR.i (by assumption)
  have hbd := hvl.2.2.2
  intro k126 b126
  refine y_aload_n rfl rfl ?_
  refine y_bipush rfl rfl ?_
  refine y_pfi rfl rfl rfl rfl ?_
  obtain ⟨U2, eU2⟩ : ∃ T : sS, T = uI S 904 70 (Int32.ofInt 9) := ⟨_, rfl⟩
  rw [← eU2]
  have hHU2 : RI U2 := by rw [eU2]; exact RI_w hH
  have hFU2 : FR md_mo_common__p S U2 := by rw [eU2]; exact FR.wI hF (mdf_i (r := (904, 905, 70, 71)) (List.mem_of_getElem? (i := 4) rfl) (inR_i (by omega) (by omega) (by omega) (by omega)))
  have w28 : Xi U2 904 70 = 9 := by rw [eU2]; exact Xi_same (by unfold rg; omega)
  refine y_aload_n rfl rfl ?_
  refine y_dup rfl rfl ?_
  refine y_gfi rfl rfl rfl rfl rfl ?_
  have w29 : (Xi U2 904 8) = (Xi S 904 8) := (show Xi U2 904 8 = Xi S 904 8 from by rw [eU2]; exact Xi_ne (by omega))
  rw [w29]
  refine y_iconst rfl ?_
  refine y_iadd rfl ?_
  refine y_pfi rfl rfl rfl rfl ?_
  obtain ⟨U3, eU3⟩ : ∃ T : sS, T = uI U2 904 8 (Int32.ofInt ((Xi S 904 8) + 1)) := ⟨_, rfl⟩
  rw [← eU3]
  have hHU3 : RI U3 := by rw [eU3]; exact RI_w hHU2
  have hFU3 : FR md_mo_common__p S U3 := by rw [eU3]; exact FR.wI hFU2 (mdf_i (r := (904, 905, 8, 9)) (List.mem_of_getElem? (i := 0) rfl) (inR_i (by omega) (by omega) (by omega) (by omega)))
  have w30 : Xi U3 904 8 = ((Xi S 904 8) + 1) := by rw [eU3]; exact Xi_same (by unfold rg; omega)
  have b139_ : Xi U3 904 65 = Xi U2 904 65 := (by rw [eU3, Xi_ne (by omega)]); have J139 : JR U3 fs ns := jr_up (JR_FR (FR_e eU2) rfl rfl rfl (by assumption : JR S _ _)) (VLR_FR hFU2 rfl (by assumption : VLR S _ _)) eU3 (by omega) (fun b => by rw [FRR hFU2 rfl, show Xi U2 904 8 - (fs : Int) = 0 by omega]; have t := b126.o.1; omega)
  have : Xi U3 904 65 = 0 → (fs : Int) ≤ Xi U3 904 8 ∧ Xi U3 904 8 ≤ fs + ns := JR.i (by assumption)
  refine y_aload_n rfl rfl ?_
  have w31 : Xi U3 904 65 = Xi S 904 65 := (show Xi U3 904 65 = Xi U2 904 65 from by rw [eU3]; exact Xi_ne (by omega)).trans ((show Xi U2 904 65 = Xi S 904 65 from by rw [eU2]; exact Xi_ne (by omega)))
  have w33 : Xi U3 904 69 = Xi S 904 69 := (show Xi U3 904 69 = Xi U2 904 69 from by rw [eU3]; exact Xi_ne (by omega)).trans ((show Xi U2 904 69 = Xi S 904 69 from by rw [eU2]; exact Xi_ne (by omega)))
  refine y_callV rfl rfl rfl (t_mo_run__p hHU3 fs ns (by first | assumption | exact (VLR_FR hFU3 rfl (by assumption : VLR S _ _))) (by first | assumption | exact (by assumption : JR U3 _ _)) _) ?_
  rintro _ T4 ⟨hHT4, w49, z48, rfl, w48, w42, w43, w44, w45, w46, w47⟩
  have hFT4 : FR md_mo_common__p S T4 := FR.tr hFU3 w49 rfl
  show Pl _ _ _ _ _ _ [iv z48] _ _
  have : Xi T4 904 65 = 0 → (fs : Int) ≤ Xi T4 904 8 ∧ Xi T4 904 8 ≤ fs + ns := JR.i (by assumption)
  have gp143 := w42
  try rw [FRR hFU3 rfl] at gp143
  clear w42
  refine y_pop rfl rfl ?_
  refine y_aload_n rfl rfl ?_
  refine y_bipush rfl rfl ?_
  refine y_callV rfl rfl rfl (t_mo_take__p hHT4 fs ns 107 ⟨by omega, by omega⟩ (by first | assumption | exact (VLR_FR hFT4 rfl (by assumption : VLR S _ _))) (by first | assumption | exact (by assumption : JR T4 _ _)) (rfl) (by decide) _) ?_
  rintro _ T5 ⟨hHT5, w62, rfl, w58, w59, w60⟩
  have hFT5 : FR md_mo_common__p S T5 := FR.tr hFT4 w62 rfl
  show Pl _ _ _ _ _ _ [] _ _
  have : Xi T5 904 65 = 0 → (fs : Int) ≤ Xi T5 904 8 ∧ Xi T5 904 8 ≤ fs + ns := JR.i (by assumption)
  have gp150 := w58
  try rw [FRR hFT4 rfl] at gp150
  try rw [show un7 107 = 7 from rfl] at gp150
  clear w58
  refine y_aload_n rfl rfl ?_
  have w63 : Xi T5 904 69 = Xi T4 904 69 := (show Xi T5 904 69 = Xi T4 904 69 from w62.x _ _ rfl)
  refine y_callV rfl rfl rfl (t_mo_name__p hHT5 fs ns (by first | assumption | exact (VLR_FR hFT5 rfl (by assumption : VLR S _ _))) (by first | assumption | exact (by assumption : JR T5 _ _)) _) ?_
  rintro _ T6 ⟨hHT6, w79, z78, rfl, w78, w72, w73, w74, w75, w76, w77⟩
  have hFT6 : FR md_mo_common__p S T6 := FR.tr hFT5 w79 rfl
  show Pl _ _ _ _ _ _ [iv z78] _ _
  have : Xi T6 904 65 = 0 → (fs : Int) ≤ Xi T6 904 8 ∧ Xi T6 904 8 ≤ fs + ns := JR.i (by assumption)
  have gp154 := w72
  try rw [FRR hFT5 rfl] at gp154
  clear w72
  refine y_pop rfl rfl ?_
  refine y_aload_n rfl rfl ?_
  have w85 : Xi T6 904 77 = Xi S 904 77 := (show Xi T6 904 77 = Xi T5 904 77 from w79.x _ _ rfl).trans ( (show Xi T5 904 77 = Xi T4 904 77 from w62.x _ _ rfl).trans ( (show Xi T4 904 77 = Xi U3 904 77 from w49.x _ _ rfl).trans ( (show Xi U3 904 77 = Xi U2 904 77 from by rw [eU3]; exact Xi_ne (by omega)).trans ((show Xi U2 904 77 = Xi S 904 77 from by rw [eU2]; exact Xi_ne (by omega))))))
  refine y_callV rfl rfl rfl (t_mo_be__p hHT6 fs ns (by first | assumption | exact (VLR_FR hFT6 rfl (by assumption : VLR S _ _))) (by first | assumption | exact (by assumption : JR T6 _ _)) _) ?_
  rintro _ T7 ⟨hHT7, w93, rfl, w88, w89, w90, w91⟩
  have hFT7 : FR md_mo_common__p S T7 := FR.tr hFT6 w93 rfl
  show Pl _ _ _ _ _ _ [] _ _
  have : Xi T7 904 65 = 0 → (fs : Int) ≤ Xi T7 904 8 ∧ Xi T7 904 8 ≤ fs + ns := JR.i (by assumption)
  have gp159 := w88
  try rw [FRR hFT6 rfl] at gp159
  clear w88
  refine y_aload_n rfl rfl ?_
  have w94 : Xi T7 904 69 = Xi T6 904 69 := (show Xi T7 904 69 = Xi T6 904 69 from w93.x _ _ rfl)
  have w100 : Xi T7 904 78 = Xi S 904 78 := (show Xi T7 904 78 = Xi T6 904 78 from w93.x _ _ rfl).trans ( (show Xi T6 904 78 = Xi T5 904 78 from w79.x _ _ rfl).trans ( (show Xi T5 904 78 = Xi T4 904 78 from w62.x _ _ rfl).trans ( (show Xi T4 904 78 = Xi U3 904 78 from w49.x _ _ rfl).trans ( (show Xi U3 904 78 = Xi U2 904 78 from by rw [eU3]; exact Xi_ne (by omega)).trans ((show Xi U2 904 78 = Xi S 904 78 from by rw [eU2]; exact Xi_ne (by omega)))))))
  refine y_callV rfl rfl rfl (t_mo_what__p hHT7 fs ns (by first | assumption | exact (VLR_FR hFT7 rfl (by assumption : VLR S _ _))) (by first | assumption | exact (by assumption : JR T7 _ _)) _) ?_
  rintro _ T8 ⟨hHT8, w111, rfl, w102, w103, w104, w105, w106, w107, w108, w109⟩
  have hFT8 : FR md_mo_common__p S T8 := FR.tr hFT7 w111 rfl
  show Pl _ _ _ _ _ _ [] _ _
  have : Xi T8 904 65 = 0 → (fs : Int) ≤ Xi T8 904 8 ∧ Xi T8 904 8 ≤ fs + ns := JR.i (by assumption)
  have gp163 := w102
  try rw [FRR hFT7 rfl] at gp163
  clear w102
  refine y_goto rfl rfl ?_
  refine y_return rfl rfl ?_
  have w112 : Xi T8 904 70 = Xi U2 904 70 := (show Xi T8 904 70 = Xi T7 904 70 from w111.x _ _ rfl).trans ( (show Xi T7 904 70 = Xi T6 904 70 from w93.x _ _ rfl).trans ( (show Xi T6 904 70 = Xi T5 904 70 from w79.x _ _ rfl).trans ( (show Xi T5 904 70 = Xi T4 904 70 from w62.x _ _ rfl).trans ( (show Xi T4 904 70 = Xi U3 904 70 from w49.x _ _ rfl).trans ((show Xi U3 904 70 = Xi U2 904 70 from by rw [eU3]; exact Xi_ne (by omega)))))))
  have w113 : Xi T8 904 71 = Xi S 904 71 := (show Xi T8 904 71 = Xi T7 904 71 from w111.x _ _ rfl).trans ( (show Xi T7 904 71 = Xi T6 904 71 from w93.x _ _ rfl).trans ( (show Xi T6 904 71 = Xi T5 904 71 from w79.x _ _ rfl).trans ( (show Xi T5 904 71 = Xi T4 904 71 from w62.x _ _ rfl).trans ( (show Xi T4 904 71 = Xi U3 904 71 from w49.x _ _ rfl).trans ( (show Xi U3 904 71 = Xi U2 904 71 from by rw [eU3]; exact Xi_ne (by omega)).trans ((show Xi U2 904 71 = Xi S 904 71 from by rw [eU2]; exact Xi_ne (by omega))))))))
  have w114 : Xi T8 904 72 = Xi S 904 72 := (show Xi T8 904 72 = Xi T7 904 72 from w111.x _ _ rfl).trans ( (show Xi T7 904 72 = Xi T6 904 72 from w93.x _ _ rfl).trans ( (show Xi T6 904 72 = Xi T5 904 72 from w79.x _ _ rfl).trans ( (show Xi T5 904 72 = Xi T4 904 72 from w62.x _ _ rfl).trans ( (show Xi T4 904 72 = Xi U3 904 72 from w49.x _ _ rfl).trans ( (show Xi U3 904 72 = Xi U2 904 72 from by rw [eU3]; exact Xi_ne (by omega)).trans ((show Xi U2 904 72 = Xi S 904 72 from by rw [eU2]; exact Xi_ne (by omega))))))))
  have w115 : Xi T8 904 75 = Xi S 904 75 := (show Xi T8 904 75 = Xi T7 904 75 from w111.x _ _ rfl).trans ( (show Xi T7 904 75 = Xi T6 904 75 from w93.x _ _ rfl).trans ( (show Xi T6 904 75 = Xi T5 904 75 from w79.x _ _ rfl).trans ( (show Xi T5 904 75 = Xi T4 904 75 from w62.x _ _ rfl).trans ( (show Xi T4 904 75 = Xi U3 904 75 from w49.x _ _ rfl).trans ( (show Xi U3 904 75 = Xi U2 904 75 from by rw [eU3]; exact Xi_ne (by omega)).trans ((show Xi U2 904 75 = Xi S 904 75 from by rw [eU2]; exact Xi_ne (by omega))))))))
  have w116 : Xi T8 904 76 = Xi S 904 76 := (show Xi T8 904 76 = Xi T7 904 76 from w111.x _ _ rfl).trans ( (show Xi T7 904 76 = Xi T6 904 76 from w93.x _ _ rfl).trans ( (show Xi T6 904 76 = Xi T5 904 76 from w79.x _ _ rfl).trans ( (show Xi T5 904 76 = Xi T4 904 76 from w62.x _ _ rfl).trans ( (show Xi T4 904 76 = Xi U3 904 76 from w49.x _ _ rfl).trans ( (show Xi U3 904 76 = Xi U2 904 76 from by rw [eU3]; exact Xi_ne (by omega)).trans ((show Xi U2 904 76 = Xi S 904 76 from by rw [eU2]; exact Xi_ne (by omega))))))))
  have w117 : Xi T8 904 77 = Xi T7 904 77 := (show Xi T8 904 77 = Xi T7 904 77 from w111.x _ _ rfl)
  have w118 : Xi T8 904 93 = Xi S 904 93 := (show Xi T8 904 93 = Xi T7 904 93 from w111.x _ _ rfl).trans ( (show Xi T7 904 93 = Xi T6 904 93 from w93.x _ _ rfl).trans ( (show Xi T6 904 93 = Xi T5 904 93 from w79.x _ _ rfl).trans ( (show Xi T5 904 93 = Xi T4 904 93 from w62.x _ _ rfl).trans ( (show Xi T4 904 93 = Xi U3 904 93 from w49.x _ _ rfl).trans ( (show Xi U3 904 93 = Xi U2 904 93 from by rw [eU3]; exact Xi_ne (by omega)).trans ((show Xi U2 904 93 = Xi S 904 93 from by rw [eU2]; exact Xi_ne (by omega))))))))
  exact ⟨hHT8, hFT8, rfl, (by unfold gCo; first | (have t := gp109; rw [if_neg n107.o]; exact (oo_e (by omega)).trans gp109) | (have t := gp163; rw [if_pos k126.o, if_pos b126.o]; unfold gO9; rw [cu_go gp143 (by omega) (by omega), gp150, gp154, gp159, gp163]) | (have t := gp186; rw [if_pos k169.o, if_neg b169.o, cu_go gp171 (by omega) (by omega), gp175]; exact cu_br (fun b => gp186) (fun b => absurd (by omega) b)) | (rw [if_pos k169.o, if_neg b169.o, cu_go gp171 (by omega) (by omega), gp175]; exact cu_br (fun b => absurd b (by omega)) (fun b => rfl))), (by omega), (by omega), (by first | (have t := gp109; exact (fun _ q => j109 (by omega))) | exact (fun _ _ => by first | assumption | exact (by assumption : JR T8 _ _))), (by first | (have t := gp109; exact (fun _ q _ => absurd q n107.o)) | (have t := gp163; exact (fun _ _ q => absurd b126.o q)) | exact (fun q => absurd q (by omega)) | (have t := gp186; exact (fun b _ _ => ⟨by omega, Xi nomark 904 8 - fs, by rw [cu_go gp171 (by omega) (by omega), gp175, cu_ok (by omega)], by rw [show Xi T8 904 72 = Xi nomark 904 69 by omega]; exact r186 b, by rw [show Xi nomark 904 8 - (fs : Int) - 1 = Xi nomark 904 8 - fs by have t := y175.o (by omega); omega, show Xi T8 904 77 = Xi nomark 904 77 by omega]; exact ar175.o (by omega), by omega, by rw [show Xi nomark 904 8 - (fs : Int) - 1 = Xi nomark 904 8 - fs by have t := y175.o (by omega); omega, show Xi T8 904 72 = Xi nomark 904 69 by omega]; exact kl171.o (by omega)⟩))), (by first | (have t := gp109; exact (fun _ q _ => absurd q n107.o)) | (have t := gp163; exact (fun b _ _ => ⟨by omega, Xi T7 904 8 - fs, by rw [cu_go gp143 (by omega) (by omega), gp150, gp154, gp159, cu_ok (by omega)], by omega⟩)) | exact (fun _ _ q => absurd q b169.o)), (by first | (have t := gp109; exact (fun _ => by omega)) | exact (fun q => absurd (by first | exact k126.o | exact k169.o) q)), (by first | (have t := gp109; exact (fun b q => on109 b (by omega))) | exact (fun _ q => by have u := k126.o; omega) | exact (fun _ q => by have u := k169.o; omega)), (by omega), (fun b => by omega)⟩
set_option maxRecDepth 100000 in
theorem c169_mo_common__p {S : sS} (hH : RI S) (fs : Nat) (ns : Nat) (hvl : VLR S fs ns) (hJR : JR S fs ns) (hb : Xi S 904 65 = 0) (h0 : Xi S 904 8 = fs) (hr0 : Xi S 904 69 = 0) (h75 : Xi S 904 75 = 0 ∧ Xi S 904 76 = 0) (h93 : Xi S 904 93 = 0) (d : Nat) (fu : Nat) : (Hid (kt7 (tR S fs ns) = 4 ∨ kt7 (tR S fs ns) = 5)) → (Hid (¬ bp7 (tR S fs ns) 0)) → Pl fu lay0 (d + 4) m_mo_common 169 [(0, .ref 904)] [] S (Q_mo_common__p S fs ns) := by
  have hF : FR md_mo_common__p S S := FR.rf
  have w1 : -2147483648 ≤ Xi S 904 65 ∧ Xi S 904 65 ≤ 2147483647 := Xi_rgI
  have w2 : -2147483648 ≤ Xi S 904 66 ∧ Xi S 904 66 ≤ 2147483647 := Xi_rgI
  have w3 : -2147483648 ≤ Xi S 904 69 ∧ Xi S 904 69 ≤ 2147483647 := Xi_rgI
  have w4 : -2147483648 ≤ Xi S 904 70 ∧ Xi S 904 70 ≤ 2147483647 := Xi_rgI
  have w5 : -2147483648 ≤ Xi S 904 71 ∧ Xi S 904 71 ≤ 2147483647 := Xi_rgI
  have w6 : -2147483648 ≤ Xi S 904 72 ∧ Xi S 904 72 ≤ 2147483647 := Xi_rgI
  have w7 : -2147483648 ≤ Xi S 904 75 ∧ Xi S 904 75 ≤ 2147483647 := Xi_rgI
  have w8 : -2147483648 ≤ Xi S 904 76 ∧ Xi S 904 76 ≤ 2147483647 := Xi_rgI
  have w9 : -2147483648 ≤ Xi S 904 77 ∧ Xi S 904 77 ≤ 2147483647 := Xi_rgI
  have w10 : -2147483648 ≤ Xi S 904 78 ∧ Xi S 904 78 ≤ 2147483647 := Xi_rgI
  have w11 : -2147483648 ≤ Xi S 904 8 ∧ Xi S 904 8 ≤ 2147483647 := Xi_rgI
  have w12 : -2147483648 ≤ Xi S 904 93 ∧ Xi S 904 93 ≤ 2147483647 := Xi_rgI
  have : Xi S 904 65 = 0 → (fs : Int) ≤ Xi S 904 8 ∧ Xi S 904 8 ≤ fs + ns := JR.i (by assumption)
  have hbd := hvl.2.2.2
  intro k169 b169
  refine y_aload_n rfl rfl ?_
  refine y_iconst rfl ?_
  refine y_callV rfl rfl rfl (t_mo_list__p hH fs ns 1 ⟨by omega, by omega⟩ (by first | assumption | exact (VLR_FR hF rfl (by assumption : VLR S _ _))) (by first | assumption | exact (by assumption : JR S _ _)) (rfl) (by first | assumption | omega) _) ?_
  rintro _ T9 ⟨hHT9, w125, rfl, w119, w120, w121, w122, w123⟩
  have hFT9 : FR md_mo_common__p S T9 := FR.tr hF w125 rfl
  show Pl _ _ _ _ _ _ [] _ _
  have : Xi T9 904 65 = 0 → (fs : Int) ≤ Xi T9 904 8 ∧ Xi T9 904 8 ≤ fs + ns := JR.i (by assumption)
  have gp171 := w119
  clear w119
  have kl171 : Hid (Xi T9 904 65 = 0 → kr7 (tR S fs ns) (Xi T9 904 69).toNat = nf7 (tR S fs ns) (Xi T9 904 8 - fs)) := fun b => by have t := (((by first | assumption | exact (by assumption : JR T9 _ _) : JR T9 fs ns) b).2 (by first | omega | (have u := (by assumption : FR md_mo_list__p S T9).x 904 93 rfl; omega))).1; rw [FRR hFT9 rfl] at t; exact t
  refine y_aload_n rfl rfl ?_
  have w129 : Xi T9 904 77 = Xi S 904 77 := (show Xi T9 904 77 = Xi S 904 77 from w125.x _ _ rfl)
  refine y_callV rfl rfl rfl (t_mo_be__p hHT9 fs ns (by first | assumption | exact (VLR_FR hFT9 rfl (by assumption : VLR S _ _))) (by first | assumption | exact (by assumption : JR T9 _ _)) _) ?_
  rintro _ T10 ⟨hHT10, w136, rfl, w132, ar175_, w133, w134⟩
  have hFT10 : FR md_mo_common__p S T10 := FR.tr hFT9 w136 rfl
  show Pl _ _ _ _ _ _ [] _ _
  have : Xi T10 904 65 = 0 → (fs : Int) ≤ Xi T10 904 8 ∧ Xi T10 904 8 ≤ fs + ns := JR.i (by assumption)
  have gp175 := w132
  try rw [FRR hFT9 rfl] at gp175
  clear w132
  have y175 : Hid (Xi T10 904 65 = 0 → Xi T10 904 8 = Xi T9 904 8 + 1) := fun b => (gBe_up gp175 b).1
  have ar175 : Hid (Xi T10 904 65 = 0 → (Xi T10 904 77 = 1 ↔ (tR S fs ns) (Xi T9 904 8 - fs) = 5)) := fun b => by have t := ar175_ b; rw [FRR hFT9 rfl] at t; exact t
  clear ar175_
  refine y_aload_n rfl rfl ?_
  refine y_gfi rfl rfl rfl rfl rfl ?_
  have w137 : -2147483648 ≤ (Xi T10 904 65) ∧ (Xi T10 904 65) ≤ 2147483647 := Xi_rgI
  refine y_if_ne rfl rfl (by unfold rg; omega) (fun w138 => ?_) (fun w139 => ?_)
  · refine y_return rfl rfl ?_
    have w140 : Xi T10 904 69 = Xi T9 904 69 := (show Xi T10 904 69 = Xi T9 904 69 from w136.x _ _ rfl)
    have w141 : Xi T10 904 70 = Xi S 904 70 := (show Xi T10 904 70 = Xi T9 904 70 from w136.x _ _ rfl).trans ((show Xi T9 904 70 = Xi S 904 70 from w125.x _ _ rfl))
    have w142 : Xi T10 904 71 = Xi T9 904 71 := (show Xi T10 904 71 = Xi T9 904 71 from w136.x _ _ rfl)
    have w143 : Xi T10 904 72 = Xi T9 904 72 := (show Xi T10 904 72 = Xi T9 904 72 from w136.x _ _ rfl)
    have w144 : Xi T10 904 75 = Xi S 904 75 := (show Xi T10 904 75 = Xi T9 904 75 from w136.x _ _ rfl).trans ((show Xi T9 904 75 = Xi S 904 75 from w125.x _ _ rfl))
    have w145 : Xi T10 904 76 = Xi S 904 76 := (show Xi T10 904 76 = Xi T9 904 76 from w136.x _ _ rfl).trans ((show Xi T9 904 76 = Xi S 904 76 from w125.x _ _ rfl))
    have w146 : Xi T10 904 78 = Xi S 904 78 := (show Xi T10 904 78 = Xi T9 904 78 from w136.x _ _ rfl).trans ((show Xi T9 904 78 = Xi S 904 78 from w125.x _ _ rfl))
    have w147 : Xi T10 904 93 = Xi S 904 93 := (show Xi T10 904 93 = Xi T9 904 93 from w136.x _ _ rfl).trans ((show Xi T9 904 93 = Xi S 904 93 from w125.x _ _ rfl))
    exact ⟨hHT10, hFT10, rfl, (by unfold gCo; first | (have t := gp109; rw [if_neg n107.o]; exact (oo_e (by omega)).trans gp109) | (have t := gp163; rw [if_pos k126.o, if_pos b126.o]; unfold gO9; rw [cu_go gp143 (by omega) (by omega), gp150, gp154, gp159, gp163]) | (have t := gp186; rw [if_pos k169.o, if_neg b169.o, cu_go gp171 (by omega) (by omega), gp175]; exact cu_br (fun b => gp186) (fun b => absurd (by omega) b)) | (rw [if_pos k169.o, if_neg b169.o, cu_go gp171 (by omega) (by omega), gp175]; exact cu_br (fun b => absurd b (by omega)) (fun b => rfl))), (by omega), (by omega), (by first | (have t := gp109; exact (fun _ q => j109 (by omega))) | exact (fun _ _ => by first | assumption | exact (by assumption : JR T10 _ _))), (by first | (have t := gp109; exact (fun _ q _ => absurd q n107.o)) | (have t := gp163; exact (fun _ _ q => absurd b126.o q)) | exact (fun q => absurd q (by omega)) | (have t := gp186; exact (fun b _ _ => ⟨by omega, Xi T10 904 8 - fs, by rw [cu_go gp171 (by omega) (by omega), gp175, cu_ok (by omega)], by rw [show Xi T10 904 72 = Xi T10 904 69 by omega]; exact r186 b, by rw [show Xi T10 904 8 - (fs : Int) - 1 = Xi T9 904 8 - fs by have t := y175.o (by omega); omega, show Xi T10 904 77 = Xi T10 904 77 by omega]; exact ar175.o (by omega), by omega, by rw [show Xi T10 904 8 - (fs : Int) - 1 = Xi T9 904 8 - fs by have t := y175.o (by omega); omega, show Xi T10 904 72 = Xi T9 904 69 by omega]; exact kl171.o (by omega)⟩))), (by first | (have t := gp109; exact (fun _ q _ => absurd q n107.o)) | (have t := gp163; exact (fun b _ _ => ⟨by omega, Xi T7 904 8 - fs, by rw [cu_go gp143 (by omega) (by omega), gp150, gp154, gp159, cu_ok (by omega)], by omega⟩)) | exact (fun _ _ q => absurd q b169.o)), (by first | (have t := gp109; exact (fun _ => by omega)) | exact (fun q => absurd (by first | exact k126.o | exact k169.o) q)), (by first | (have t := gp109; exact (fun b q => on109 b (by omega))) | exact (fun _ q => by have u := k126.o; omega) | exact (fun _ q => by have u := k169.o; omega)), (by omega), (fun b => by omega)⟩
  · refine y_aload_n rfl rfl ?_
    have w148 : Xi T10 904 69 = Xi T9 904 69 := (show Xi T10 904 69 = Xi T9 904 69 from w136.x _ _ rfl)
    have w149 : Xi T10 904 70 = Xi S 904 70 := (show Xi T10 904 70 = Xi T9 904 70 from w136.x _ _ rfl).trans ((show Xi T9 904 70 = Xi S 904 70 from w125.x _ _ rfl))
    have w152 : Xi T10 904 75 = Xi S 904 75 := (show Xi T10 904 75 = Xi T9 904 75 from w136.x _ _ rfl).trans ((show Xi T9 904 75 = Xi S 904 75 from w125.x _ _ rfl))
    have w153 : Xi T10 904 76 = Xi S 904 76 := (show Xi T10 904 76 = Xi T9 904 76 from w136.x _ _ rfl).trans ((show Xi T9 904 76 = Xi S 904 76 from w125.x _ _ rfl))
    refine y_callV rfl rfl rfl (t_mo_rest__p hHT10 fs ns (by first | assumption | exact (VLR_FR hFT10 rfl (by assumption : VLR S _ _))) (by first | assumption | exact (by assumption : JR T10 _ _)) (by first | assumption | omega) _) ?_
    rintro _ T11 ⟨hHT11, w162, rfl, w156, w157, w158, r186_, k186_, w159, w160⟩
    have hFT11 : FR md_mo_common__p S T11 := FR.tr hFT10 w162 rfl
    show Pl _ _ _ _ _ _ [] _ _
    have : Xi T11 904 65 = 0 → (fs : Int) ≤ Xi T11 904 8 ∧ Xi T11 904 8 ≤ fs + ns := JR.i (by assumption)
    have gp186 := w156
    try rw [FRR hFT10 rfl] at gp186
    clear w156
    have r186 : Xi T11 904 65 = 0 → RSR T11 (tR S fs ns) (Xi T10 904 8 - fs) (Xi T10 904 69) := fun b => by have t := r186_ b; rw [FRR hFT10 rfl] at t; exact t
    clear r186_
    have k186 := k186_
    rw [FRR hFT10 rfl] at k186
    clear k186_
    refine y_return rfl rfl ?_
    have w163 : Xi T11 904 71 = Xi T9 904 71 := (show Xi T11 904 71 = Xi T10 904 71 from w162.x _ _ rfl).trans ((show Xi T10 904 71 = Xi T9 904 71 from w136.x _ _ rfl))
    have w164 : Xi T11 904 72 = Xi T9 904 72 := (show Xi T11 904 72 = Xi T10 904 72 from w162.x _ _ rfl).trans ((show Xi T10 904 72 = Xi T9 904 72 from w136.x _ _ rfl))
    have w165 : Xi T11 904 77 = Xi T10 904 77 := (show Xi T11 904 77 = Xi T10 904 77 from w162.x _ _ rfl)
    have w166 : Xi T11 904 93 = Xi S 904 93 := (show Xi T11 904 93 = Xi T10 904 93 from w162.x _ _ rfl).trans ( (show Xi T10 904 93 = Xi T9 904 93 from w136.x _ _ rfl).trans ((show Xi T9 904 93 = Xi S 904 93 from w125.x _ _ rfl)))
    exact ⟨hHT11, hFT11, rfl, (by unfold gCo; first | (have t := gp109; rw [if_neg n107.o]; exact (oo_e (by omega)).trans gp109) | (have t := gp163; rw [if_pos k126.o, if_pos b126.o]; unfold gO9; rw [cu_go gp143 (by omega) (by omega), gp150, gp154, gp159, gp163]) | (have t := gp186; rw [if_pos k169.o, if_neg b169.o, cu_go gp171 (by omega) (by omega), gp175]; exact cu_br (fun b => gp186) (fun b => absurd (by omega) b)) | (rw [if_pos k169.o, if_neg b169.o, cu_go gp171 (by omega) (by omega), gp175]; exact cu_br (fun b => absurd b (by omega)) (fun b => rfl))), (by omega), (by omega), (by first | (have t := gp109; exact (fun _ q => j109 (by omega))) | exact (fun _ _ => by first | assumption | exact (by assumption : JR T11 _ _))), (by first | (have t := gp109; exact (fun _ q _ => absurd q n107.o)) | (have t := gp163; exact (fun _ _ q => absurd b126.o q)) | exact (fun q => absurd q (by omega)) | (have t := gp186; exact (fun b _ _ => ⟨by omega, Xi T10 904 8 - fs, by rw [cu_go gp171 (by omega) (by omega), gp175, cu_ok (by omega)], by rw [show Xi T11 904 72 = Xi T10 904 69 by omega]; exact r186 b, by rw [show Xi T10 904 8 - (fs : Int) - 1 = Xi T9 904 8 - fs by have t := y175.o (by omega); omega, show Xi T11 904 77 = Xi T10 904 77 by omega]; exact ar175.o (by omega), by omega, by rw [show Xi T10 904 8 - (fs : Int) - 1 = Xi T9 904 8 - fs by have t := y175.o (by omega); omega, show Xi T11 904 72 = Xi T9 904 69 by omega]; exact kl171.o (by omega)⟩))), (by first | (have t := gp109; exact (fun _ q _ => absurd q n107.o)) | (have t := gp163; exact (fun b _ _ => ⟨by omega, Xi T7 904 8 - fs, by rw [cu_go gp143 (by omega) (by omega), gp150, gp154, gp159, cu_ok (by omega)], by omega⟩)) | exact (fun _ _ q => absurd q b169.o)), (by first | (have t := gp109; exact (fun _ => by omega)) | exact (fun q => absurd (by first | exact k126.o | exact k169.o) q)), (by first | (have t := gp109; exact (fun b q => on109 b (by omega))) | exact (fun _ q => by have u := k126.o; omega) | exact (fun _ q => by have u := k169.o; omega)), (by omega), (fun b => by omega)⟩
set_option maxRecDepth 100000 in
theorem c115_mo_common__p {S : sS} (hH : RI S) (fs : Nat) (ns : Nat) (hvl : VLR S fs ns) (hJR : JR S fs ns) (hb : Xi S 904 65 = 0) (h0 : Xi S 904 8 = fs) (hr0 : Xi S 904 69 = 0) (h75 : Xi S 904 75 = 0 ∧ Xi S 904 76 = 0) (h93 : Xi S 904 93 = 0) (d : Nat) (fu : Nat) : (Hid (kt7 (tR S fs ns) = 4 ∨ kt7 (tR S fs ns) = 5)) → Pl fu lay0 (d + 4) m_mo_common 115 [(0, .ref 904)] [] S (Q_mo_common__p S fs ns) := by
  have C126 := c126_mo_common__p hH fs ns hvl hJR hb h0 hr0 h75 h93 d  fu
  have C169 := c169_mo_common__p hH fs ns hvl hJR hb h0 hr0 h75 h93 d  fu
  have hF : FR md_mo_common__p S S := FR.rf
  have w1 : -2147483648 ≤ Xi S 904 65 ∧ Xi S 904 65 ≤ 2147483647 := Xi_rgI
  have w2 : -2147483648 ≤ Xi S 904 66 ∧ Xi S 904 66 ≤ 2147483647 := Xi_rgI
  have w3 : -2147483648 ≤ Xi S 904 69 ∧ Xi S 904 69 ≤ 2147483647 := Xi_rgI
  have w4 : -2147483648 ≤ Xi S 904 70 ∧ Xi S 904 70 ≤ 2147483647 := Xi_rgI
  have w5 : -2147483648 ≤ Xi S 904 71 ∧ Xi S 904 71 ≤ 2147483647 := Xi_rgI
  have w6 : -2147483648 ≤ Xi S 904 72 ∧ Xi S 904 72 ≤ 2147483647 := Xi_rgI
  have w7 : -2147483648 ≤ Xi S 904 75 ∧ Xi S 904 75 ≤ 2147483647 := Xi_rgI
  have w8 : -2147483648 ≤ Xi S 904 76 ∧ Xi S 904 76 ≤ 2147483647 := Xi_rgI
  have w9 : -2147483648 ≤ Xi S 904 77 ∧ Xi S 904 77 ≤ 2147483647 := Xi_rgI
  have w10 : -2147483648 ≤ Xi S 904 78 ∧ Xi S 904 78 ≤ 2147483647 := Xi_rgI
  have w11 : -2147483648 ≤ Xi S 904 8 ∧ Xi S 904 8 ≤ 2147483647 := Xi_rgI
  have w12 : -2147483648 ≤ Xi S 904 93 ∧ Xi S 904 93 ≤ 2147483647 := Xi_rgI
  have : Xi S 904 65 = 0 → (fs : Int) ≤ Xi S 904 8 ∧ Xi S 904 8 ≤ fs + ns := JR.i (by assumption)
  have hbd := hvl.2.2.2
  intro k115
  refine y_aload_n rfl rfl ?_
  refine y_aload_n rfl rfl ?_
  refine y_gfi rfl rfl rfl rfl rfl ?_
  refine y_callV rfl rfl rfl (t_mo_beginsOf__p hH fs ns (Xi S 904 8) ⟨by omega, by omega⟩ (by first | assumption | exact (VLR_FR hF rfl (by assumption : VLR S _ _))) _) ?_
  rintro _ _ ⟨rfl, z168, rfl, w168, w167⟩
  show Pl _ _ _ _ _ _ [iv z168] _ _
  have gb120 := w167
  clear w167
  refine y_if_eq rfl rfl (by unfold rg; omega) (fun w169 => ?_) (fun w170 => ?_)
  · exact Pl_weak (C169  (k115) (by have t := (gb120 (by omega) (by omega)).2 (by omega); rw [show Xi S 904 8 - (fs : Int) = 0 by omega] at t; exact t)) (by omega) (And.intro rfl (True.intro))
  · exact Pl_weak (C126  (k115) (by have t := (gb120 (by omega) (by omega)).1 (by omega); rw [show Xi S 904 8 - (fs : Int) = 0 by omega] at t; exact t)) (by omega) (And.intro rfl (True.intro))
set_option maxRecDepth 100000 in
theorem c95_mo_common__p {S : sS} (hH : RI S) (fs : Nat) (ns : Nat) (hvl : VLR S fs ns) (hJR : JR S fs ns) (hb : Xi S 904 65 = 0) (h0 : Xi S 904 8 = fs) (hr0 : Xi S 904 69 = 0) (h75 : Xi S 904 75 = 0 ∧ Xi S 904 76 = 0) (h93 : Xi S 904 93 = 0) (d : Nat) (fu : Nat) : ∀  (v1 : Int), (-2147483648 ≤ v1 ∧ v1 ≤ 2147483647) → ((v1 = 0 → kt7 (tR S fs ns) = 107) ∧ (v1 ≠ 0 → kt7 (tR S fs ns) = v1 - 100) ∧ (v1 = 0 ∨ v1 = 104 ∨ v1 = 105 ∨ v1 = 112 ∨ v1 = 113 ∨ v1 = 121)) → Pl fu lay0 (d + 4) m_mo_common 95 [(0, .ref 904), (1, iv v1)] [] S (Q_mo_common__p S fs ns) := by
  have C107 := c107_mo_common__p hH fs ns hvl hJR hb h0 hr0 h75 h93 d  fu
  have C115 := c115_mo_common__p hH fs ns hvl hJR hb h0 hr0 h75 h93 d  fu
  have hF : FR md_mo_common__p S S := FR.rf
  have w1 : -2147483648 ≤ Xi S 904 65 ∧ Xi S 904 65 ≤ 2147483647 := Xi_rgI
  have w2 : -2147483648 ≤ Xi S 904 66 ∧ Xi S 904 66 ≤ 2147483647 := Xi_rgI
  have w3 : -2147483648 ≤ Xi S 904 69 ∧ Xi S 904 69 ≤ 2147483647 := Xi_rgI
  have w4 : -2147483648 ≤ Xi S 904 70 ∧ Xi S 904 70 ≤ 2147483647 := Xi_rgI
  have w5 : -2147483648 ≤ Xi S 904 71 ∧ Xi S 904 71 ≤ 2147483647 := Xi_rgI
  have w6 : -2147483648 ≤ Xi S 904 72 ∧ Xi S 904 72 ≤ 2147483647 := Xi_rgI
  have w7 : -2147483648 ≤ Xi S 904 75 ∧ Xi S 904 75 ≤ 2147483647 := Xi_rgI
  have w8 : -2147483648 ≤ Xi S 904 76 ∧ Xi S 904 76 ≤ 2147483647 := Xi_rgI
  have w9 : -2147483648 ≤ Xi S 904 77 ∧ Xi S 904 77 ≤ 2147483647 := Xi_rgI
  have w10 : -2147483648 ≤ Xi S 904 78 ∧ Xi S 904 78 ≤ 2147483647 := Xi_rgI
  have w11 : -2147483648 ≤ Xi S 904 8 ∧ Xi S 904 8 ≤ 2147483647 := Xi_rgI
  have w12 : -2147483648 ≤ Xi S 904 93 ∧ Xi S 904 93 ≤ 2147483647 := Xi_rgI
  have : Xi S 904 65 = 0 → (fs : Int) ≤ Xi S 904 8 ∧ Xi S 904 8 ≤ fs + ns := JR.i (by assumption)
  have hbd := hvl.2.2.2
  intro v1 w171 k95
  refine y_iload_n rfl rfl ?_
  refine y_bipush rfl rfl ?_
  refine y_icmp_eq rfl rfl (by unfold rg; omega) (by unfold rg; omega) (fun w172 => ?_) (fun w173 => ?_)
  · exact Pl_weak (C115  (by unfold Hid; omega)) (by omega) (And.intro rfl (True.intro))
  · refine y_iload_n rfl rfl ?_
    refine y_bipush rfl rfl ?_
    refine y_icmp_eq rfl rfl (by unfold rg; omega) (by unfold rg; omega) (fun w174 => ?_) (fun w175 => ?_)
    · exact Pl_weak (C115  (by unfold Hid; omega)) (by omega) (And.intro rfl (True.intro))
    · exact Pl_weak (C107 (v1) (by omega) (k95) (fun q => by omega)) (by omega) (And.intro rfl (And.intro rfl (True.intro)))
set_option maxRecDepth 100000 in
theorem c12_mo_common__p {S : sS} (hH : RI S) (fs : Nat) (ns : Nat) (hvl : VLR S fs ns) (hJR : JR S fs ns) (hb : Xi S 904 65 = 0) (h0 : Xi S 904 8 = fs) (hr0 : Xi S 904 69 = 0) (h75 : Xi S 904 75 = 0 ∧ Xi S 904 76 = 0) (h93 : Xi S 904 93 = 0) (d : Nat) (fu : Nat) : ∀ (n12 : Nat) (_ : n12 ≤ fu) (v1 : Int) (v3 : Int), (-2147483648 ≤ v1 ∧ v1 ≤ 2147483647) → (0 ≤ v3 ∧ v3 ≤ 5001) → (Xi S 904 8 ≤ v3) → (v3 ≤ fs + ns) → ((v1 = 0 → tk7 (tR S fs ns) = tkF (tR S fs ns) (5131 - (v3 - fs)).toNat (v3 - fs)) ∧ (v1 ≠ 0 → kt7 (tR S fs ns) = v1 - 100) ∧ (v1 = 0 ∨ v1 = 104 ∨ v1 = 105 ∨ v1 = 112 ∨ v1 = 113 ∨ v1 = 121)) → Pl n12 lay0 (d + 4) m_mo_common 12 [(0, .ref 904), (1, iv v1), (3, iv v3)] [] S (Q_mo_common__p S fs ns) := by
  have C95 := c95_mo_common__p hH fs ns hvl hJR hb h0 hr0 h75 h93 d  fu
  have hF : FR md_mo_common__p S S := FR.rf
  have w1 : -2147483648 ≤ Xi S 904 65 ∧ Xi S 904 65 ≤ 2147483647 := Xi_rgI
  have w2 : -2147483648 ≤ Xi S 904 66 ∧ Xi S 904 66 ≤ 2147483647 := Xi_rgI
  have w3 : -2147483648 ≤ Xi S 904 69 ∧ Xi S 904 69 ≤ 2147483647 := Xi_rgI
  have w4 : -2147483648 ≤ Xi S 904 70 ∧ Xi S 904 70 ≤ 2147483647 := Xi_rgI
  have w5 : -2147483648 ≤ Xi S 904 71 ∧ Xi S 904 71 ≤ 2147483647 := Xi_rgI
  have w6 : -2147483648 ≤ Xi S 904 72 ∧ Xi S 904 72 ≤ 2147483647 := Xi_rgI
  have w7 : -2147483648 ≤ Xi S 904 75 ∧ Xi S 904 75 ≤ 2147483647 := Xi_rgI
  have w8 : -2147483648 ≤ Xi S 904 76 ∧ Xi S 904 76 ≤ 2147483647 := Xi_rgI
  have w9 : -2147483648 ≤ Xi S 904 77 ∧ Xi S 904 77 ≤ 2147483647 := Xi_rgI
  have w10 : -2147483648 ≤ Xi S 904 78 ∧ Xi S 904 78 ≤ 2147483647 := Xi_rgI
  have w11 : -2147483648 ≤ Xi S 904 8 ∧ Xi S 904 8 ≤ 2147483647 := Xi_rgI
  have w12 : -2147483648 ≤ Xi S 904 93 ∧ Xi S 904 93 ≤ 2147483647 := Xi_rgI
  have : Xi S 904 65 = 0 → (fs : Int) ≤ Xi S 904 8 ∧ Xi S 904 8 ≤ fs + ns := JR.i (by assumption)
  have hbd := hvl.2.2.2
  intro n12
  induction n12 with
  | zero => intros; exact Pl_0
  | succ n12 ih12 =>
    intro hm12 v1 v3 w176 w177 w178 w179 t12
    refine ys_aload_n rfl rfl ?_
    refine y_gfr rfl rfl rfl rfl rfl (hH.r 904 4 907 rfl) ?_
    refine y_iload_n rfl rfl ?_
    refine y_ialoadP (n := 5002) rfl rfl (by unfold rg; omega) (fun w180 w181 => ?_)
    have w182 : -2147483648 ≤ (Xi S 907 ((v3).toNat)) ∧ (Xi S 907 ((v3).toNat)) ≤ 2147483647 := Xi_rgI
    have T17_46 : ((Xi S 907 ((v3).toNat)) = 46 → tR S fs ns (v3 - fs) = 103) ∧ ((Xi S 907 ((v3).toNat)) ≠ 46 → tR S fs ns (v3 - fs) ≠ 103) := tR_k (k := 46) (a := v3) hvl (by omega) (by omega) rfl rfl
    refine y_bipush rfl rfl ?_
    refine y_icmp_eq rfl rfl (by unfold rg; omega) (by unfold rg; omega) (fun w183 => ?_) (fun w184 => ?_)
    · exact Pl_weak (C95 (v1) (by omega) (by first | exact ⟨fun q => kt_0 ((t12.1 q).trans (tk_e (by omega) (by omega))), t12.2.1, t12.2.2⟩ | exact ⟨fun q => absurd q (by omega), t12.2.1, t12.2.2⟩)) (by omega) (And.intro rfl (And.intro rfl (True.intro)))
    · refine y_aload_n rfl rfl ?_
      refine y_gfr rfl rfl rfl rfl rfl (hH.r 904 4 907 rfl) ?_
      refine y_iload_n rfl rfl ?_
      refine y_ialoadP (n := 5002) rfl rfl (by unfold rg; omega) (fun w185 w186 => ?_)
      have T28_1 : ((Xi S 907 ((v3).toNat)) = 1 → tR S fs ns (v3 - fs) = 107) ∧ ((Xi S 907 ((v3).toNat)) ≠ 1 → tR S fs ns (v3 - fs) ≠ 107) := tR_k (k := 1) (a := v3) hvl (by omega) (by omega) rfl rfl
      refine y_iconst rfl ?_
      refine y_icmp_eq rfl rfl (by unfold rg; omega) (by unfold rg; omega) (fun w187 => ?_) (fun w188 => ?_)
      · exact Pl_weak (C95 (v1) (by omega) (by first | exact ⟨fun q => kt_0 ((t12.1 q).trans (tk_e (by omega) (by omega))), t12.2.1, t12.2.2⟩ | exact ⟨fun q => absurd q (by omega), t12.2.1, t12.2.2⟩)) (by omega) (And.intro rfl (And.intro rfl (True.intro)))
      · refine y_iload_n rfl rfl ?_
        refine y_if_ne rfl rfl (by unfold rg; omega) (fun w189 => ?_) (fun w190 => ?_)
        · exact Pl_weak (C95 (v1) (by omega) (by first | exact ⟨fun q => kt_0 ((t12.1 q).trans (tk_e (by omega) (by omega))), t12.2.1, t12.2.2⟩ | exact ⟨fun q => absurd q (by omega), t12.2.1, t12.2.2⟩)) (by omega) (And.intro rfl (And.intro rfl (True.intro)))
        · refine y_aload_n rfl rfl ?_
          refine y_gfr rfl rfl rfl rfl rfl (hH.r 904 4 907 rfl) ?_
          refine y_iload_n rfl rfl ?_
          refine y_ialoadP (n := 5002) rfl rfl (by unfold rg; omega) (fun w191 w192 => ?_)
          have T42_104 : ((Xi S 907 ((v3).toNat)) = 104 → tR S fs ns (v3 - fs) = 4) ∧ ((Xi S 907 ((v3).toNat)) ≠ 104 → tR S fs ns (v3 - fs) ≠ 4) := tR_k (k := 104) (a := v3) hvl (by omega) (by omega) rfl rfl
          have T42_105 : ((Xi S 907 ((v3).toNat)) = 105 → tR S fs ns (v3 - fs) = 5) ∧ ((Xi S 907 ((v3).toNat)) ≠ 105 → tR S fs ns (v3 - fs) ≠ 5) := tR_k (k := 105) (a := v3) hvl (by omega) (by omega) rfl rfl
          have T42_112 : ((Xi S 907 ((v3).toNat)) = 112 → tR S fs ns (v3 - fs) = 12) ∧ ((Xi S 907 ((v3).toNat)) ≠ 112 → tR S fs ns (v3 - fs) ≠ 12) := tR_k (k := 112) (a := v3) hvl (by omega) (by omega) rfl rfl
          have T42_113 : ((Xi S 907 ((v3).toNat)) = 113 → tR S fs ns (v3 - fs) = 13) ∧ ((Xi S 907 ((v3).toNat)) ≠ 113 → tR S fs ns (v3 - fs) ≠ 13) := tR_k (k := 113) (a := v3) hvl (by omega) (by omega) rfl rfl
          have T42_121 : ((Xi S 907 ((v3).toNat)) = 121 → tR S fs ns (v3 - fs) = 21) ∧ ((Xi S 907 ((v3).toNat)) ≠ 121 → tR S fs ns (v3 - fs) ≠ 21) := tR_k (k := 121) (a := v3) hvl (by omega) (by omega) rfl rfl
          have q42 : v3 + 1 ≤ fs + ns := in_u2 (a := v3) hvl (by omega) (by omega) (by omega) (by omega)
          refine y_istore rfl rfl rfl ?_
          refine y_iload rfl rfl ?_
          refine y_bipush rfl rfl ?_
          refine y_icmp_eq rfl rfl (by unfold rg; omega) (by unfold rg; omega) (fun w193 => ?_) (fun w194 => ?_)
          · refine y_iload rfl rfl ?_
            refine y_goto rfl rfl ?_
            refine y_istore_n rfl rfl rfl ?_
            refine y_iload_n rfl rfl ?_
            refine y_istore_n rfl rfl rfl ?_
            refine y_iinc rfl rfl rfl rfl ?_
            refine y_goto rfl rfl ?_
            exact Pl_weak (ih12 (by omega) ((Xi S 907 ((v3).toNat))) ((v3 + 1)) (by omega) (by omega) (by omega) (by omega) (by first | exact ⟨fun _ => (by rw [show Xi S 904 8 - (fs : Int) = 0 by omega]; rfl), fun q => absurd rfl q, Or.inl rfl⟩ | exact ⟨fun _ => (by rw [show v3 + 1 - (fs : Int) = v3 - fs + 1 by omega]; exact (t12.1 (by omega)).trans (tkx_s (by omega) (by omega) (by omega) (by omega) (by unfold tl7; omega))), fun q => absurd rfl q, Or.inl rfl⟩ | exact ⟨fun q => (by exfalso; omega), fun _ => kt_1 ((t12.1 (by omega)).trans (tk_h (by omega) (by unfold tl7; omega))) (by omega) (by omega), by omega⟩)) (by omega) (And.intro rfl (And.intro rfl (And.intro rfl (True.intro))))
          · refine y_iload rfl rfl ?_
            refine y_bipush rfl rfl ?_
            refine y_icmp_eq rfl rfl (by unfold rg; omega) (by unfold rg; omega) (fun w195 => ?_) (fun w196 => ?_)
            · refine y_iload rfl rfl ?_
              refine y_goto rfl rfl ?_
              refine y_istore_n rfl rfl rfl ?_
              refine y_iload_n rfl rfl ?_
              refine y_istore_n rfl rfl rfl ?_
              refine y_iinc rfl rfl rfl rfl ?_
              refine y_goto rfl rfl ?_
              exact Pl_weak (ih12 (by omega) ((Xi S 907 ((v3).toNat))) ((v3 + 1)) (by omega) (by omega) (by omega) (by omega) (by first | exact ⟨fun _ => (by rw [show Xi S 904 8 - (fs : Int) = 0 by omega]; rfl), fun q => absurd rfl q, Or.inl rfl⟩ | exact ⟨fun _ => (by rw [show v3 + 1 - (fs : Int) = v3 - fs + 1 by omega]; exact (t12.1 (by omega)).trans (tkx_s (by omega) (by omega) (by omega) (by omega) (by unfold tl7; omega))), fun q => absurd rfl q, Or.inl rfl⟩ | exact ⟨fun q => (by exfalso; omega), fun _ => kt_1 ((t12.1 (by omega)).trans (tk_h (by omega) (by unfold tl7; omega))) (by omega) (by omega), by omega⟩)) (by omega) (And.intro rfl (And.intro rfl (And.intro rfl (True.intro))))
            · refine y_iload rfl rfl ?_
              refine y_bipush rfl rfl ?_
              refine y_icmp_eq rfl rfl (by unfold rg; omega) (by unfold rg; omega) (fun w197 => ?_) (fun w198 => ?_)
              · refine y_iload rfl rfl ?_
                refine y_goto rfl rfl ?_
                refine y_istore_n rfl rfl rfl ?_
                refine y_iload_n rfl rfl ?_
                refine y_istore_n rfl rfl rfl ?_
                refine y_iinc rfl rfl rfl rfl ?_
                refine y_goto rfl rfl ?_
                exact Pl_weak (ih12 (by omega) ((Xi S 907 ((v3).toNat))) ((v3 + 1)) (by omega) (by omega) (by omega) (by omega) (by first | exact ⟨fun _ => (by rw [show Xi S 904 8 - (fs : Int) = 0 by omega]; rfl), fun q => absurd rfl q, Or.inl rfl⟩ | exact ⟨fun _ => (by rw [show v3 + 1 - (fs : Int) = v3 - fs + 1 by omega]; exact (t12.1 (by omega)).trans (tkx_s (by omega) (by omega) (by omega) (by omega) (by unfold tl7; omega))), fun q => absurd rfl q, Or.inl rfl⟩ | exact ⟨fun q => (by exfalso; omega), fun _ => kt_1 ((t12.1 (by omega)).trans (tk_h (by omega) (by unfold tl7; omega))) (by omega) (by omega), by omega⟩)) (by omega) (And.intro rfl (And.intro rfl (And.intro rfl (True.intro))))
              · refine y_iload rfl rfl ?_
                refine y_bipush rfl rfl ?_
                refine y_icmp_eq rfl rfl (by unfold rg; omega) (by unfold rg; omega) (fun w199 => ?_) (fun w200 => ?_)
                · refine y_iload rfl rfl ?_
                  refine y_goto rfl rfl ?_
                  refine y_istore_n rfl rfl rfl ?_
                  refine y_iload_n rfl rfl ?_
                  refine y_istore_n rfl rfl rfl ?_
                  refine y_iinc rfl rfl rfl rfl ?_
                  refine y_goto rfl rfl ?_
                  exact Pl_weak (ih12 (by omega) ((Xi S 907 ((v3).toNat))) ((v3 + 1)) (by omega) (by omega) (by omega) (by omega) (by first | exact ⟨fun _ => (by rw [show Xi S 904 8 - (fs : Int) = 0 by omega]; rfl), fun q => absurd rfl q, Or.inl rfl⟩ | exact ⟨fun _ => (by rw [show v3 + 1 - (fs : Int) = v3 - fs + 1 by omega]; exact (t12.1 (by omega)).trans (tkx_s (by omega) (by omega) (by omega) (by omega) (by unfold tl7; omega))), fun q => absurd rfl q, Or.inl rfl⟩ | exact ⟨fun q => (by exfalso; omega), fun _ => kt_1 ((t12.1 (by omega)).trans (tk_h (by omega) (by unfold tl7; omega))) (by omega) (by omega), by omega⟩)) (by omega) (And.intro rfl (And.intro rfl (And.intro rfl (True.intro))))
                · refine y_iload rfl rfl ?_
                  refine y_bipush rfl rfl ?_
                  refine y_icmp_ne rfl rfl (by unfold rg; omega) (by unfold rg; omega) (fun w201 => ?_) (fun w202 => ?_)
                  · refine y_iconst rfl ?_
                    refine y_istore_n rfl rfl rfl ?_
                    refine y_iload_n rfl rfl ?_
                    refine y_istore_n rfl rfl rfl ?_
                    refine y_iinc rfl rfl rfl rfl ?_
                    refine y_goto rfl rfl ?_
                    exact Pl_weak (ih12 (by omega) (0) ((v3 + 1)) (by omega) (by omega) (by omega) (by omega) (by first | exact ⟨fun _ => (by rw [show Xi S 904 8 - (fs : Int) = 0 by omega]; rfl), fun q => absurd rfl q, Or.inl rfl⟩ | exact ⟨fun _ => (by rw [show v3 + 1 - (fs : Int) = v3 - fs + 1 by omega]; exact (t12.1 (by omega)).trans (tkx_s (by omega) (by omega) (by omega) (by omega) (by unfold tl7; omega))), fun q => absurd rfl q, Or.inl rfl⟩ | exact ⟨fun q => (by exfalso; omega), fun _ => kt_1 ((t12.1 (by omega)).trans (tk_h (by omega) (by unfold tl7; omega))) (by omega) (by omega), by omega⟩)) (by omega) (And.intro rfl (And.intro rfl (And.intro rfl (True.intro))))
                  · refine y_iload rfl rfl ?_
                    refine y_goto rfl rfl ?_
                    refine y_istore_n rfl rfl rfl ?_
                    refine y_iload_n rfl rfl ?_
                    refine y_istore_n rfl rfl rfl ?_
                    refine y_iinc rfl rfl rfl rfl ?_
                    refine y_goto rfl rfl ?_
                    exact Pl_weak (ih12 (by omega) ((Xi S 907 ((v3).toNat))) ((v3 + 1)) (by omega) (by omega) (by omega) (by omega) (by first | exact ⟨fun _ => (by rw [show Xi S 904 8 - (fs : Int) = 0 by omega]; rfl), fun q => absurd rfl q, Or.inl rfl⟩ | exact ⟨fun _ => (by rw [show v3 + 1 - (fs : Int) = v3 - fs + 1 by omega]; exact (t12.1 (by omega)).trans (tkx_s (by omega) (by omega) (by omega) (by omega) (by unfold tl7; omega))), fun q => absurd rfl q, Or.inl rfl⟩ | exact ⟨fun q => (by exfalso; omega), fun _ => kt_1 ((t12.1 (by omega)).trans (tk_h (by omega) (by unfold tl7; omega))) (by omega) (by omega), by omega⟩)) (by omega) (And.intro rfl (And.intro rfl (And.intro rfl (True.intro))))
set_option maxRecDepth 100000 in
theorem t_mo_common__p {S : sS} (hH : RI S) (fs : Nat) (ns : Nat) (hvl : VLR S fs ns) (hJR : JR S fs ns) (hb : Xi S 904 65 = 0) (h0 : Xi S 904 8 = fs) (hr0 : Xi S 904 69 = 0) (h75 : Xi S 904 75 = 0 ∧ Xi S 904 76 = 0) (h93 : Xi S 904 93 = 0) (d : Nat) : Mp lay0 (d + 5) m_mo_common [.ref 904] S (Q_mo_common__p S fs ns) := by
  refine Mp_R rfl rfl (fun fu => ?_)
  have C107 := c107_mo_common__p hH fs ns hvl hJR hb h0 hr0 h75 h93 d  fu
  have C126 := c126_mo_common__p hH fs ns hvl hJR hb h0 hr0 h75 h93 d  fu
  have C169 := c169_mo_common__p hH fs ns hvl hJR hb h0 hr0 h75 h93 d  fu
  have C115 := c115_mo_common__p hH fs ns hvl hJR hb h0 hr0 h75 h93 d  fu
  have C95 := c95_mo_common__p hH fs ns hvl hJR hb h0 hr0 h75 h93 d  fu
  have C12 := c12_mo_common__p hH fs ns hvl hJR hb h0 hr0 h75 h93 d  fu
  have hF : FR md_mo_common__p S S := FR.rf
  have w1 : -2147483648 ≤ Xi S 904 65 ∧ Xi S 904 65 ≤ 2147483647 := Xi_rgI
  have w2 : -2147483648 ≤ Xi S 904 66 ∧ Xi S 904 66 ≤ 2147483647 := Xi_rgI
  have w3 : -2147483648 ≤ Xi S 904 69 ∧ Xi S 904 69 ≤ 2147483647 := Xi_rgI
  have w4 : -2147483648 ≤ Xi S 904 70 ∧ Xi S 904 70 ≤ 2147483647 := Xi_rgI
  have w5 : -2147483648 ≤ Xi S 904 71 ∧ Xi S 904 71 ≤ 2147483647 := Xi_rgI
  have w6 : -2147483648 ≤ Xi S 904 72 ∧ Xi S 904 72 ≤ 2147483647 := Xi_rgI
  have w7 : -2147483648 ≤ Xi S 904 75 ∧ Xi S 904 75 ≤ 2147483647 := Xi_rgI
  have w8 : -2147483648 ≤ Xi S 904 76 ∧ Xi S 904 76 ≤ 2147483647 := Xi_rgI
  have w9 : -2147483648 ≤ Xi S 904 77 ∧ Xi S 904 77 ≤ 2147483647 := Xi_rgI
  have w10 : -2147483648 ≤ Xi S 904 78 ∧ Xi S 904 78 ≤ 2147483647 := Xi_rgI
  have w11 : -2147483648 ≤ Xi S 904 8 ∧ Xi S 904 8 ≤ 2147483647 := Xi_rgI
  have w12 : -2147483648 ≤ Xi S 904 93 ∧ Xi S 904 93 ≤ 2147483647 := Xi_rgI
  have : Xi S 904 65 = 0 → (fs : Int) ≤ Xi S 904 8 ∧ Xi S 904 8 ≤ fs + ns := JR.i (by assumption)
  have hbd := hvl.2.2.2
  refine y_iconst rfl ?_
  refine y_istore_n rfl rfl rfl ?_
  refine y_aload_n rfl rfl ?_
  refine y_gfi rfl rfl rfl rfl rfl ?_
  refine y_istore_n rfl rfl rfl ?_
  refine y_aload_n rfl rfl ?_
  refine y_gfi rfl rfl rfl rfl rfl ?_
  refine y_istore_n rfl rfl rfl ?_
  exact Pl_weak (C12 fu (by omega) (0) ((Xi S 904 8)) (by omega) (by omega) (by omega) (by omega) (by first | exact ⟨fun _ => (by rw [show Xi S 904 8 - (fs : Int) = 0 by omega]; rfl), fun q => absurd rfl q, Or.inl rfl⟩ | exact ⟨fun _ => (by rw [show v3 + 1 - (fs : Int) = v3 - fs + 1 by omega]; exact (t12.1 (by omega)).trans (tkx_s (by omega) (by omega) (by omega) (by omega) (by unfold tl7; omega))), fun q => absurd rfl q, Or.inl rfl⟩ | exact ⟨fun q => (by exfalso; omega), fun _ => kt_1 ((t12.1 (by omega)).trans (tk_h (by omega) (by unfold tl7; omega))) (by omega) (by omega), by omega⟩)) (by omega) (And.intro rfl (And.intro rfl (And.intro rfl (True.intro))))
end
