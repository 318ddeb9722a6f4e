section
/-! what rest keeps -/
theorem rsr_10 {S : sS} {T : Int → Int} {a r : Int} (h : T a = 0 ∧ T (a + 1) = 18) (s : Xi S 904 70 = 10) (w : (T (a + 2) ≠ 7 ∧ Xi S 904 78 = -1) ∨ (T (a + 2) = 7 ∧ T (a + 3) = 20 ∧ Xi S 904 78 = -2) ∨ (T (a + 2) = 7 ∧ T (a + 3) ≠ 20 ∧ Xi S 904 78 = r)) : RSR S T a r := by
  refine ⟨fun _ => ⟨s, ?_, ?_, ?_⟩, ?_, ?_, ?_, ?_, ?_⟩
  · intro q; omega
  · intro q q2; omega
  · intro q q2; omega
  · intro q; exfalso; omega
  · intro q q1; exact absurd h q1
  · intro q; exfalso; omega
  · intro q; exfalso; omega
  · intro q q1 q2 q3; exact absurd ⟨by omega, by omega⟩ q3
theorem rsr_11 {S : sS} {T : Int → Int} {a r : Int} (h : T a = 1 ∧ T (a + 1) = 27) (s : Xi S 904 70 = 11) (w : (T (a + 2) ≠ 28 ∧ Xi S 904 78 = -1) ∨ (T (a + 2) = 28 ∧ Xi S 904 78 = r)) : RSR S T a r := by
  refine ⟨?_, fun _ => ⟨s, ?_, ?_⟩, ?_, ?_, ?_, ?_⟩
  · intro q; exfalso; omega
  · intro q; omega
  · intro q; omega
  · intro q q1 q2; exact absurd h q2
  · intro q; exfalso; omega
  · intro q; exfalso; omega
  · intro q q1 q2 q3; exact absurd ⟨by omega, by omega⟩ q3
theorem rsr_12 {S : sS} {T : Int → Int} {a r : Int} (h : art7 (T a)) (n1 : ¬ (T a = 0 ∧ T (a + 1) = 18)) (n2 : ¬ (T a = 1 ∧ T (a + 1) = 27)) (s : Xi S 904 70 = 12) (w : Xi S 904 78 = r) (p : (T (re7 T (a + 1)) = 103 ∧ Xi S 904 73 = 0) ∨ (T (re7 T (a + 1)) ≠ 103 ∧ Xi S 904 73 = pw7 (T (re7 T (a + 1))) ∧ Xi S 904 74 = r + 1)) : RSR S T a r := by
  unfold art7 at h
  refine ⟨?_, ?_, fun _ _ _ => ⟨s, w, ?_, ?_⟩, ?_, ?_, ?_⟩
  · intro q; exact absurd q n1
  · intro q; exact absurd q n2
  · intro q; omega
  · intro q; exact ⟨by omega, by omega⟩
  · intro q; exfalso; omega
  · intro q; exfalso; omega
  · intro q q1 q2 q3; exact absurd h q3
theorem rsr_15 {S : sS} {T : Int → Int} {a r : Int} (s : Xi S 904 70 = 15) (w : Xi S 904 78 = r) (p : (T a = 6 ∧ Xi S 904 75 = 1 ∧ Xi S 904 76 = 0) ∨ (T a = 32 ∧ Xi S 904 75 = 0 ∧ Xi S 904 76 = 1)) : RSR S T a r := by
  refine ⟨?_, ?_, ?_, fun _ => ⟨s, w, ?_, ?_⟩, ?_, ?_⟩
  · intro q; exfalso; omega
  · intro q; exfalso; omega
  · intro q; unfold art7 at q; exfalso; omega
  · intro q; exact ⟨by omega, by omega⟩
  · intro q; exact ⟨by omega, by omega⟩
  · intro q; exfalso; omega
  · intro q q1 q2 q3; exfalso; omega
theorem rsr_f {S : sS} {T : Int → Int} {a r : Int} (h : T a = 100) (w : Xi S 904 78 = r) (p : (T (re7 T a) = 7 ∧ Xi S 904 70 = 14 ∧ Xi S 904 74 = r + 1) ∨ ((T (re7 T a) = 16 ∨ T (re7 T a) = 104) ∧ Xi S 904 70 = 16) ∨ (T (re7 T a) ≠ 7 ∧ T (re7 T a) ≠ 16 ∧ T (re7 T a) ≠ 104 ∧ Xi S 904 70 = 15)) : RSR S T a r := by
  refine ⟨?_, ?_, ?_, ?_, fun _ => ⟨w, ?_, ?_, ?_⟩, ?_⟩
  · intro q; exfalso; omega
  · intro q; exfalso; omega
  · intro q; unfold art7 at q; exfalso; omega
  · intro q; exfalso; omega
  · intro q; exact ⟨by omega, by omega⟩
  · intro q; omega
  · intro q1 q2 q3; omega
  · intro q; exact absurd h q
theorem rsr_13 {S : sS} {T : Int → Int} {a r : Int} (h1 : T a ≠ 100) (h2 : T a ≠ 6) (h3 : T a ≠ 32) (h4 : ¬ art7 (T a)) (s : Xi S 904 70 = 13) (w : Xi S 904 73 = pw7 (T a)) (p : Xi S 904 74 = r) : RSR S T a r := by
  unfold art7 at h4
  refine ⟨?_, ?_, ?_, ?_, ?_, fun _ _ _ _ => ⟨s, w, p⟩⟩
  · intro q; exfalso; omega
  · intro q; exfalso; omega
  · intro q; exact absurd q h4
  · intro q; exfalso; omega
  · intro q; exact absurd q h1
theorem gR_at {W : sS} {f : Nat} {T : Int → Int} {a : Int} (e : gR T a = cu W f) (b : Xi W 904 65 = 0) : Xi W 904 8 - f = re7 T a := by
  unfold gR at e
  rw [cu_ok b] at e
  exact (congrArg Prod.snd e).symm
theorem gBt_cs (T : Int → Int) (a : Int) : gBt T a = (0, a) ∨ ∃ b, a < b ∧ gBt T a = (1, b) := by
  by_cases h : T a = 104
  · exact Or.inr ⟨_, by split <;> omega, gBt_c h rfl⟩
  · by_cases h1 : T a = 16
    · exact Or.inr ⟨_, by omega, gBt_a h h1⟩
    · exact Or.inl (gBt_0 h h1)
theorem gBt_z8 {T : Int → Int} {x y z : Int} {f : Nat} (h : gBt T (x - f) = (z, y - f)) (hz : z = 0) : y = x := by
  rcases gBt_cs T (x - f) with q | ⟨b, hb, q⟩
  · rw [q] at h
    have t := congrArg Prod.snd h
    simp only at t
    omega
  · rw [q, hz] at h
    have t := congrArg Prod.fst h
    simp at t
theorem gBt_zz {T : Int → Int} {a b z : Int} (h : gBt T a = (z, b)) (hz : z = 0) : gBt T a = (0, a) := by
  rcases gBt_cs T a with q | ⟨c, hb, q⟩
  · exact q
  · rw [q, hz] at h
    have t := congrArg Prod.fst h
    simp at t
theorem gBt_11 {T : Int → Int} {a b z : Int} (h : gBt T a = (z, b)) (hz : z = 1) : gBt T a = (1, b) := by rw [h, hz]
theorem gBt_up {T : Int → Int} {x y z : Int} {f : Nat} (h : gBt T (x - f) = (z, y - f)) (hz : z = 1) : x < y := by
  rcases gBt_cs T (x - f) with q | ⟨b, hb, q⟩
  · rw [q, hz] at h
    have t := congrArg Prod.fst h
    simp at t
  · rw [q] at h
    have t := congrArg Prod.snd h
    simp only at t
    omega

def md_mo_rest__p : List rec := [(904, 905, 8, 9), (904, 905, 65, 66), (904, 905, 66, 67), (904, 905, 69, 70), (904, 905, 70, 71), (904, 905, 73, 74), (904, 905, 74, 75), (904, 905, 75, 76), (904, 905, 76, 77), (904, 905, 78, 79), (950, 951, 0, 100000), (951, 952, 0, 100000)]
abbrev Q_mo_rest__p (S : sS) (fs : Nat) (ns : Nat) : pst := fun r S1 => RI S1 ∧ FR md_mo_rest__p S S1 ∧ (r = none ∧ (gRe (tR S fs ns) (Xi S 904 8 - fs) = cu S1 fs) ∧ (Xi S 904 69 ≤ Xi S1 904 69) ∧ (10 ≤ Xi S1 904 70 ∧ Xi S1 904 70 ≤ 16) ∧ (Xi S1 904 65 = 0 → RSR S1 (tR S fs ns) (Xi S 904 8 - fs) (Xi S 904 69)) ∧ ((Xi S1 904 70 = 15 ∨ Xi S1 904 70 = 16) → tR S fs ns (Xi S 904 8 - fs) = 100 → Xi S1 904 75 = Xi S 904 75 ∧ Xi S1 904 76 = Xi S 904 76) ∧ (Xi S1 904 65 = 0 → Xi S 904 65 = 0 ∧ Xi S 904 8 ≤ Xi S1 904 8) ∧ (JR S1 fs ns))
set_option maxRecDepth 100000 in
theorem c32_mo_rest__p {S : sS} (hH : RI S) (fs : Nat) (ns : Nat) (hvl : VLR S fs ns) (hJR : JR S fs ns) (hb : Xi S 904 65 = 0) (d : Nat) (fu : Nat) : ∀  (T1 : sS) (_ : RI T1) (_ : FR md_mo_rest__p S T1), (Xi T1 904 8 = Xi S 904 8) → (Xi T1 904 65 = 0) → (Xi T1 904 69 = Xi S 904 69) → (Xi T1 904 73 = 0) → (Xi T1 904 75 = Xi S 904 75) → (Xi T1 904 76 = Xi S 904 76) → (JR T1 fs ns) → (tR S fs ns (Xi S 904 8 - fs) = 0 ∧ tR S fs ns (Xi S 904 8 - fs + 1) = 18) → Pl fu lay0 (d + 3) m_mo_rest 32 [(0, .ref 904)] [] T1 (Q_mo_rest__p S fs ns) := by
  have hF : FR md_mo_rest__p S S := FR.rf
  have w1 : -2147483648 ≤ Xi S 904 65 ∧ Xi S 904 65 ≤ 2147483647 := Xi_rgI
  have w2 : -2147483648 ≤ Xi S 904 66 ∧ Xi S 904 66 ≤ 2147483647 := Xi_rgI
  have w3 : -2147483648 ≤ Xi S 904 69 ∧ Xi S 904 69 ≤ 2147483647 := Xi_rgI
  have w4 : -2147483648 ≤ Xi S 904 70 ∧ Xi S 904 70 ≤ 2147483647 := Xi_rgI
  have w5 : -2147483648 ≤ Xi S 904 73 ∧ Xi S 904 73 ≤ 2147483647 := Xi_rgI
  have w6 : -2147483648 ≤ Xi S 904 74 ∧ Xi S 904 74 ≤ 2147483647 := Xi_rgI
  have w7 : -2147483648 ≤ Xi S 904 75 ∧ Xi S 904 75 ≤ 2147483647 := Xi_rgI
  have w8 : -2147483648 ≤ Xi S 904 76 ∧ Xi S 904 76 ≤ 2147483647 := Xi_rgI
  have w9 : -2147483648 ≤ Xi S 904 78 ∧ Xi S 904 78 ≤ 2147483647 := Xi_rgI
  have w10 : -2147483648 ≤ Xi S 904 8 ∧ Xi S 904 8 ≤ 2147483647 := Xi_rgI
  have w11 : -2147483648 ≤ Xi S 904 93 ∧ Xi S 904 93 ≤ 2147483647 := Xi_rgI
  have : Xi S 904 65 = 0 → (fs : Int) ≤ Xi S 904 8 ∧ Xi S 904 8 ≤ fs + ns := JR.i (by assumption)
  have hbd := hvl.2.2.2
  intro T1 hHT1 hFT1 w12 w13 w14 w15 w16 w17 J32 a32
  have w18 : -2147483648 ≤ Xi T1 904 65 ∧ Xi T1 904 65 ≤ 2147483647 := Xi_rgI
  have w19 : -2147483648 ≤ Xi T1 904 66 ∧ Xi T1 904 66 ≤ 2147483647 := Xi_rgI
  have w20 : -2147483648 ≤ Xi T1 904 69 ∧ Xi T1 904 69 ≤ 2147483647 := Xi_rgI
  have w21 : -2147483648 ≤ Xi T1 904 70 ∧ Xi T1 904 70 ≤ 2147483647 := Xi_rgI
  have w22 : -2147483648 ≤ Xi T1 904 73 ∧ Xi T1 904 73 ≤ 2147483647 := Xi_rgI
  have w23 : -2147483648 ≤ Xi T1 904 74 ∧ Xi T1 904 74 ≤ 2147483647 := Xi_rgI
  have w24 : -2147483648 ≤ Xi T1 904 75 ∧ Xi T1 904 75 ≤ 2147483647 := Xi_rgI
  have w25 : -2147483648 ≤ Xi T1 904 76 ∧ Xi T1 904 76 ≤ 2147483647 := Xi_rgI
  have w26 : -2147483648 ≤ Xi T1 904 78 ∧ Xi T1 904 78 ≤ 2147483647 := Xi_rgI
  have w27 : -2147483648 ≤ Xi T1 904 8 ∧ Xi T1 904 8 ≤ 2147483647 := Xi_rgI
  have w28 : -2147483648 ≤ Xi T1 904 93 ∧ Xi T1 904 93 ≤ 2147483647 := Xi_rgI
  refine y_aload_n rfl rfl ?_
  refine y_bipush rfl rfl ?_
  refine y_pfi rfl rfl rfl rfl ?_
  obtain ⟨U2, eU2⟩ : ∃ T : sS, T = uI T1 904 70 (Int32.ofInt 10) := ⟨_, rfl⟩
  rw [← eU2]
  have hHU2 : RI U2 := by rw [eU2]; exact RI_w hHT1
  have hFU2 : FR md_mo_rest__p S U2 := by rw [eU2]; exact FR.wI hFT1 (mdf_i (r := (904, 905, 70, 71)) (List.mem_of_getElem? (i := 4) rfl) (inR_i (by omega) (by omega) (by omega) (by omega)))
  have w29 : Xi U2 904 70 = 10 := by rw [eU2]; exact Xi_same (by unfold rg; omega)
  refine y_aload_n rfl rfl ?_
  refine y_dup rfl rfl ?_
  refine y_gfi rfl rfl rfl rfl rfl ?_
  have w30 : (Xi U2 904 8) = (Xi T1 904 8) := (show Xi U2 904 8 = Xi T1 904 8 from by rw [eU2]; exact Xi_ne (by omega))
  rw [w30]
  refine y_iconst rfl ?_
  refine y_iadd rfl ?_
  refine y_pfi rfl rfl rfl rfl ?_
  obtain ⟨U3, eU3⟩ : ∃ T : sS, T = uI U2 904 8 (Int32.ofInt ((Xi T1 904 8) + 2)) := ⟨_, rfl⟩
  rw [← eU3]
  have hHU3 : RI U3 := by rw [eU3]; exact RI_w hHU2
  have hFU3 : FR md_mo_rest__p S U3 := by rw [eU3]; exact FR.wI hFU2 (mdf_i (r := (904, 905, 8, 9)) (List.mem_of_getElem? (i := 0) rfl) (inR_i (by omega) (by omega) (by omega) (by omega)))
  have w31 : Xi U3 904 8 = ((Xi T1 904 8) + 2) := by rw [eU3]; exact Xi_same (by unfold rg; omega)
  have b45_ : Xi U3 904 65 = Xi U2 904 65 := (by rw [eU3, Xi_ne (by omega)]); have J45 : JR U3 fs ns := jr_up2 (JR_FR (FR_e eU2) rfl rfl rfl (by assumption : JR T1 _ _)) (VLR_FR hFU2 rfl (by assumption : VLR S _ _)) eU3 (by omega) (fun b => by rw [FRR hFU2 rfl, show Xi U2 904 8 - (fs : Int) = Xi S 904 8 - fs by omega]; omega) (fun b => by rw [FRR hFU2 rfl, show Xi U2 904 8 - (fs : Int) = Xi S 904 8 - fs by omega]; omega)
  have : Xi U3 904 65 = 0 → (fs : Int) ≤ Xi U3 904 8 ∧ Xi U3 904 8 ≤ fs + ns := JR.i (by assumption)
  refine y_aload_n rfl rfl ?_
  refine y_iconst rfl ?_
  refine y_pfi rfl rfl rfl rfl ?_
  obtain ⟨U4, eU4⟩ : ∃ T : sS, T = uI U3 904 78 (Int32.ofInt (-1)) := ⟨_, rfl⟩
  rw [← eU4]
  have hHU4 : RI U4 := by rw [eU4]; exact RI_w hHU3
  have hFU4 : FR md_mo_rest__p S U4 := by rw [eU4]; exact FR.wI hFU3 (mdf_i (r := (904, 905, 78, 79)) (List.mem_of_getElem? (i := 9) rfl) (inR_i (by omega) (by omega) (by omega) (by omega)))
  have w32 : Xi U4 904 78 = (-1) := by rw [eU4]; exact Xi_same (by unfold rg; omega)
  refine y_aload_n rfl rfl ?_
  refine y_bipush rfl rfl ?_
  have w33 : Xi U4 904 65 = Xi T1 904 65 := (show Xi U4 904 65 = Xi U3 904 65 from by rw [eU4]; exact Xi_ne (by omega)).trans ( (show Xi U3 904 65 = Xi U2 904 65 from by rw [eU3]; exact Xi_ne (by omega)).trans ((show Xi U2 904 65 = Xi T1 904 65 from by rw [eU2]; exact Xi_ne (by omega))))
  have w34 : Xi U4 904 66 = Xi T1 904 66 := (show Xi U4 904 66 = Xi U3 904 66 from by rw [eU4]; exact Xi_ne (by omega)).trans ( (show Xi U3 904 66 = Xi U2 904 66 from by rw [eU3]; exact Xi_ne (by omega)).trans ((show Xi U2 904 66 = Xi T1 904 66 from by rw [eU2]; exact Xi_ne (by omega))))
  have w35 : Xi U4 904 69 = Xi T1 904 69 := (show Xi U4 904 69 = Xi U3 904 69 from by rw [eU4]; exact Xi_ne (by omega)).trans ( (show Xi U3 904 69 = Xi U2 904 69 from by rw [eU3]; exact Xi_ne (by omega)).trans ((show Xi U2 904 69 = Xi T1 904 69 from by rw [eU2]; exact Xi_ne (by omega))))
  have w36 : Xi U4 904 70 = Xi U2 904 70 := (show Xi U4 904 70 = Xi U3 904 70 from by rw [eU4]; exact Xi_ne (by omega)).trans ((show Xi U3 904 70 = Xi U2 904 70 from by rw [eU3]; exact Xi_ne (by omega)))
  have w37 : Xi U4 904 73 = Xi T1 904 73 := (show Xi U4 904 73 = Xi U3 904 73 from by rw [eU4]; exact Xi_ne (by omega)).trans ( (show Xi U3 904 73 = Xi U2 904 73 from by rw [eU3]; exact Xi_ne (by omega)).trans ((show Xi U2 904 73 = Xi T1 904 73 from by rw [eU2]; exact Xi_ne (by omega))))
  have w38 : Xi U4 904 74 = Xi T1 904 74 := (show Xi U4 904 74 = Xi U3 904 74 from by rw [eU4]; exact Xi_ne (by omega)).trans ( (show Xi U3 904 74 = Xi U2 904 74 from by rw [eU3]; exact Xi_ne (by omega)).trans ((show Xi U2 904 74 = Xi T1 904 74 from by rw [eU2]; exact Xi_ne (by omega))))
  have w39 : Xi U4 904 75 = Xi T1 904 75 := (show Xi U4 904 75 = Xi U3 904 75 from by rw [eU4]; exact Xi_ne (by omega)).trans ( (show Xi U3 904 75 = Xi U2 904 75 from by rw [eU3]; exact Xi_ne (by omega)).trans ((show Xi U2 904 75 = Xi T1 904 75 from by rw [eU2]; exact Xi_ne (by omega))))
  have w40 : Xi U4 904 76 = Xi T1 904 76 := (show Xi U4 904 76 = Xi U3 904 76 from by rw [eU4]; exact Xi_ne (by omega)).trans ( (show Xi U3 904 76 = Xi U2 904 76 from by rw [eU3]; exact Xi_ne (by omega)).trans ((show Xi U2 904 76 = Xi T1 904 76 from by rw [eU2]; exact Xi_ne (by omega))))
  have w41 : Xi U4 904 8 = Xi U3 904 8 := (show Xi U4 904 8 = Xi U3 904 8 from by rw [eU4]; exact Xi_ne (by omega))
  have w42 : Xi U4 904 93 = Xi T1 904 93 := (show Xi U4 904 93 = Xi U3 904 93 from by rw [eU4]; exact Xi_ne (by omega)).trans ( (show Xi U3 904 93 = Xi U2 904 93 from by rw [eU3]; exact Xi_ne (by omega)).trans ((show Xi U2 904 93 = Xi T1 904 93 from by rw [eU2]; exact Xi_ne (by omega))))
  refine y_callV rfl rfl rfl (t_mo_isNext__p hHU4 fs ns 107 ⟨by omega, by omega⟩ (by first | assumption | exact (VLR_FR hFU4 rfl (by assumption : VLR S _ _))) (by first | assumption | exact JR.i (by first | assumption | exact (JR_FR (FR_e eU4) rfl rfl rfl (by assumption : JR U3 _ _)))) (rfl) _) ?_
  rintro _ _ ⟨rfl, z44, rfl, w44, w43⟩
  show Pl _ _ _ _ _ _ [iv z44] _ _
  have gb56 := w43
  try rw [FRR hFU4 rfl] at gb56
  try rw [show Xi U4 904 8 = Xi U3 904 8 by omega] at gb56
  try rw [show un7 107 = 7 from rfl] at gb56
  clear w43
  rw [show Xi U3 904 8 - (fs : Int) = Xi S 904 8 - fs + 2 by omega] at gb56
  have GZ : Hid ((z44 = 0) → gRe (tR S fs ns) (Xi S 904 8 - fs) = cu U4 fs) := fun q => by rw [gRe_10 ⟨by omega, by omega⟩, if_neg (by omega)]; exact cu_1 (by omega) (by omega)
  have RS : Hid ((z44 = 0) → Xi U4 904 65 = 0 → RSR U4 (tR S fs ns) (Xi S 904 8 - fs) (Xi S 904 69)) := fun q b => rsr_10 ⟨by omega, by omega⟩ (by omega) (Or.inl ⟨by omega, by omega⟩)
  refine y_if_eq rfl rfl (by unfold rg; omega) (fun w45 => ?_) (fun w46 => ?_)
  · refine y_return rfl rfl ?_
    exact ⟨hHU4, hFU4, rfl, (by first | (have t := K94; rw [gRe_10 ⟨by omega, by omega⟩, if_pos (by omega), if_pos (by omega)]; exact cu_1 (by omega) (by omega)) | (have t := K105; rw [gRe_10 ⟨by omega, by omega⟩, if_pos (by omega), if_neg (by omega)]; exact (cu_go gp102 (by omega) (by omega)).trans (cu_eq (by omega) (by omega) (by omega)).symm) | (have t := K191; rw [gRe_11 ⟨by omega, by omega⟩, if_pos (by omega), cu_go gp177 (by omega) (by omega), gp183, gp188]; exact (cu_eq (by omega) (by omega) (by omega)).symm) | (have t := K257; rw [gRe_12 b204 c204 a204, cu_go gp222 (by omega) (by omega)]; exact cu_br (fun b => by rw [if_neg (by omega)]; exact (cu_ch0 (cu_go gp246 (by omega) (by omega)) gp254).trans (cu_eq (by omega) (by omega) (by omega)).symm) (fun b => absurd (by omega) b)) | (have t := K328; rw [gRe_15 (by omega)]; exact (cu_go gp325 (by omega) (by omega)).trans (cu_eq (by omega) (by omega) (by omega)).symm) | (have t := K383; rw [gRe_f (by omega), cu_go gp341 (by omega) (by omega)]; exact cu_br (fun b => by rw [if_pos (by omega)]; exact (cu_go gp380 (by omega) (by omega)).trans (cu_eq (by omega) (by omega) (by omega)).symm) (fun b => absurd (by omega) b)) | (have t := K454; rw [gRe_13 a435 b435 c435 d435]; exact (cu_ch0 (cu_go gp443 (by omega) (by omega)) gp451).trans (cu_eq (by omega) (by omega) (by omega)).symm) | exact GZ.o (by omega) | exact (FU_e U413 (by omega) (fun b k => gRn_0 (gBt_zz (m421 b) (by omega)))).trans (cu_eqb (by omega) (fun b => n421.o (by omega)) (by omega)).symm | exact FU_b U413 (by omega)), (by omega), (by omega), (by first | (have t := K94; exact (fun b => rsr_10 ⟨by omega, by omega⟩ (by omega) (Or.inr (Or.inl ⟨by omega, by omega, by omega⟩)))) | (have t := K105; exact (fun b => rsr_10 ⟨by omega, by omega⟩ (by omega) (Or.inr (Or.inr ⟨by omega, by omega, by omega⟩)))) | (have t := K191; exact (fun b => rsr_11 ⟨by omega, by omega⟩ (by omega) (Or.inr ⟨by omega, by omega⟩))) | (have t := K257; exact (fun b => by have t := t222.o (by omega); exact rsr_12 a204 b204 c204 (by omega) (by omega) (Or.inr ⟨by omega, by rw [t]; omega, by omega⟩))) | (have t := K328; exact (fun b => rsr_15 (by omega) (by omega) (by omega))) | (have t := K383; exact (fun b => by have t := t341.o (by omega); exact rsr_f (by omega) (by omega) (Or.inl ⟨by omega, by omega, by omega⟩))) | (have t := K454; exact (fun b => rsr_13 a435 b435 c435 d435 (by omega) (by omega) (by omega))) | exact RS.o (by omega) | exact (fun b => rsr_f (by omega) (by omega) (Or.inr (Or.inl ⟨s413.o, by omega⟩)))), (by omega), (by omega), (by first | assumption | exact (JR_FR (FR_e eU4) rfl rfl rfl (by assumption : JR U3 _ _)))⟩
  · refine y_aload_n rfl rfl ?_
    refine y_dup rfl rfl ?_
    refine y_gfi rfl rfl rfl rfl rfl ?_
    have w57 : (Xi U4 904 8) = (Xi U3 904 8) := (show Xi U4 904 8 = Xi U3 904 8 from by rw [eU4]; exact Xi_ne (by omega))
    rw [w57]
    refine y_iconst rfl ?_
    refine y_iadd rfl ?_
    refine y_pfi rfl rfl rfl rfl ?_
    obtain ⟨U5, eU5⟩ : ∃ T : sS, T = uI U4 904 8 (Int32.ofInt ((Xi U3 904 8) + 1)) := ⟨_, rfl⟩
    rw [← eU5]
    have hHU5 : RI U5 := by rw [eU5]; exact RI_w hHU4
    have hFU5 : FR md_mo_rest__p S U5 := by rw [eU5]; exact FR.wI hFU4 (mdf_i (r := (904, 905, 8, 9)) (List.mem_of_getElem? (i := 0) rfl) (inR_i (by omega) (by omega) (by omega) (by omega)))
    have w58 : Xi U5 904 8 = ((Xi U3 904 8) + 1) := by rw [eU5]; exact Xi_same (by unfold rg; omega)
    have b69_ : Xi U5 904 65 = Xi U4 904 65 := (by rw [eU5, Xi_ne (by omega)]); have J69 : JR U5 fs ns := jr_up (JR_FR (FR_e eU4) rfl rfl rfl (by assumption : JR U3 _ _)) (VLR_FR hFU4 rfl (by assumption : VLR S _ _)) eU5 (by omega) (fun b => by rw [FRR hFU4 rfl, show Xi U4 904 8 - (fs : Int) = Xi S 904 8 - fs + 2 by omega]; omega)
    have : Xi U5 904 65 = 0 → (fs : Int) ≤ Xi U5 904 8 ∧ Xi U5 904 8 ≤ fs + ns := JR.i (by assumption)
    refine y_aload_n rfl rfl ?_
    refine y_bipush rfl rfl ?_
    have w59 : Xi U5 904 65 = Xi T1 904 65 := (show Xi U5 904 65 = Xi U4 904 65 from by rw [eU5]; exact Xi_ne (by omega)).trans ( (show Xi U4 904 65 = Xi U3 904 65 from by rw [eU4]; exact Xi_ne (by omega)).trans ( (show Xi U3 904 65 = Xi U2 904 65 from by rw [eU3]; exact Xi_ne (by omega)).trans ((show Xi U2 904 65 = Xi T1 904 65 from by rw [eU2]; exact Xi_ne (by omega)))))
    have w60 : Xi U5 904 66 = Xi T1 904 66 := (show Xi U5 904 66 = Xi U4 904 66 from by rw [eU5]; exact Xi_ne (by omega)).trans ( (show Xi U4 904 66 = Xi U3 904 66 from by rw [eU4]; exact Xi_ne (by omega)).trans ( (show Xi U3 904 66 = Xi U2 904 66 from by rw [eU3]; exact Xi_ne (by omega)).trans ((show Xi U2 904 66 = Xi T1 904 66 from by rw [eU2]; exact Xi_ne (by omega)))))
    have w61 : Xi U5 904 69 = Xi T1 904 69 := (show Xi U5 904 69 = Xi U4 904 69 from by rw [eU5]; exact Xi_ne (by omega)).trans ( (show Xi U4 904 69 = Xi U3 904 69 from by rw [eU4]; exact Xi_ne (by omega)).trans ( (show Xi U3 904 69 = Xi U2 904 69 from by rw [eU3]; exact Xi_ne (by omega)).trans ((show Xi U2 904 69 = Xi T1 904 69 from by rw [eU2]; exact Xi_ne (by omega)))))
    have w62 : Xi U5 904 70 = Xi U2 904 70 := (show Xi U5 904 70 = Xi U4 904 70 from by rw [eU5]; exact Xi_ne (by omega)).trans ( (show Xi U4 904 70 = Xi U3 904 70 from by rw [eU4]; exact Xi_ne (by omega)).trans ((show Xi U3 904 70 = Xi U2 904 70 from by rw [eU3]; exact Xi_ne (by omega))))
    have w63 : Xi U5 904 73 = Xi T1 904 73 := (show Xi U5 904 73 = Xi U4 904 73 from by rw [eU5]; exact Xi_ne (by omega)).trans ( (show Xi U4 904 73 = Xi U3 904 73 from by rw [eU4]; exact Xi_ne (by omega)).trans ( (show Xi U3 904 73 = Xi U2 904 73 from by rw [eU3]; exact Xi_ne (by omega)).trans ((show Xi U2 904 73 = Xi T1 904 73 from by rw [eU2]; exact Xi_ne (by omega)))))
    have w64 : Xi U5 904 74 = Xi T1 904 74 := (show Xi U5 904 74 = Xi U4 904 74 from by rw [eU5]; exact Xi_ne (by omega)).trans ( (show Xi U4 904 74 = Xi U3 904 74 from by rw [eU4]; exact Xi_ne (by omega)).trans ( (show Xi U3 904 74 = Xi U2 904 74 from by rw [eU3]; exact Xi_ne (by omega)).trans ((show Xi U2 904 74 = Xi T1 904 74 from by rw [eU2]; exact Xi_ne (by omega)))))
    have w65 : Xi U5 904 75 = Xi T1 904 75 := (show Xi U5 904 75 = Xi U4 904 75 from by rw [eU5]; exact Xi_ne (by omega)).trans ( (show Xi U4 904 75 = Xi U3 904 75 from by rw [eU4]; exact Xi_ne (by omega)).trans ( (show Xi U3 904 75 = Xi U2 904 75 from by rw [eU3]; exact Xi_ne (by omega)).trans ((show Xi U2 904 75 = Xi T1 904 75 from by rw [eU2]; exact Xi_ne (by omega)))))
    have w66 : Xi U5 904 76 = Xi T1 904 76 := (show Xi U5 904 76 = Xi U4 904 76 from by rw [eU5]; exact Xi_ne (by omega)).trans ( (show Xi U4 904 76 = Xi U3 904 76 from by rw [eU4]; exact Xi_ne (by omega)).trans ( (show Xi U3 904 76 = Xi U2 904 76 from by rw [eU3]; exact Xi_ne (by omega)).trans ((show Xi U2 904 76 = Xi T1 904 76 from by rw [eU2]; exact Xi_ne (by omega)))))
    have w67 : Xi U5 904 78 = Xi U4 904 78 := (show Xi U5 904 78 = Xi U4 904 78 from by rw [eU5]; exact Xi_ne (by omega))
    have w68 : Xi U5 904 93 = Xi T1 904 93 := (show Xi U5 904 93 = Xi U4 904 93 from by rw [eU5]; exact Xi_ne (by omega)).trans ( (show Xi U4 904 93 = Xi U3 904 93 from by rw [eU4]; exact Xi_ne (by omega)).trans ( (show Xi U3 904 93 = Xi U2 904 93 from by rw [eU3]; exact Xi_ne (by omega)).trans ((show Xi U2 904 93 = Xi T1 904 93 from by rw [eU2]; exact Xi_ne (by omega)))))
    refine y_callV rfl rfl rfl (t_mo_isNext__p hHU5 fs ns 120 ⟨by omega, by omega⟩ (by first | assumption | exact (VLR_FR hFU5 rfl (by assumption : VLR S _ _))) (by first | assumption | exact JR.i (by first | assumption | exact (by assumption : JR U5 _ _))) (rfl) _) ?_
    rintro _ _ ⟨rfl, z70, rfl, w70, w69⟩
    show Pl _ _ _ _ _ _ [iv z70] _ _
    have gb75 := w69
    try rw [FRR hFU5 rfl] at gb75
    try rw [show un7 120 = 20 from rfl] at gb75
    clear w69
    rw [show Xi U5 904 8 - (fs : Int) = Xi S 904 8 - fs + 3 by omega] at gb75
    refine y_if_eq rfl rfl (by unfold rg; omega) (fun w71 => ?_) (fun w72 => ?_)
    · refine y_aload_n rfl rfl ?_
      refine y_aload_n rfl rfl ?_
      refine y_callV rfl rfl rfl (t_mo_name__p hHU5 fs ns (by first | assumption | exact (VLR_FR hFU5 rfl (by assumption : VLR S _ _))) (by first | assumption | exact (by assumption : JR U5 _ _)) _) ?_
      rintro _ T6 ⟨hHT6, w90, z89, rfl, w89, w83, w84, w85, w86, w87, w88⟩
      have hFT6 : FR md_mo_rest__p S T6 := FR.tr hFU5 w90 rfl
      show Pl _ _ _ _ _ _ [iv z89, .ref 904] _ _
      have : Xi T6 904 65 = 0 → (fs : Int) ≤ Xi T6 904 8 ∧ Xi T6 904 8 ≤ fs + ns := JR.i (by assumption)
      have gp102 := w83
      try rw [FRR hFU5 rfl] at gp102
      clear w83
      refine y_pfi rfl rfl rfl rfl ?_
      obtain ⟨U7, eU7⟩ : ∃ T : sS, T = uI T6 904 78 (Int32.ofInt z89) := ⟨_, rfl⟩
      rw [← eU7]
      have hHU7 : RI U7 := by rw [eU7]; exact RI_w hHT6
      have hFU7 : FR md_mo_rest__p S U7 := by rw [eU7]; exact FR.wI hFT6 (mdf_i (r := (904, 905, 78, 79)) (List.mem_of_getElem? (i := 9) rfl) (inR_i (by omega) (by omega) (by omega) (by omega)))
      have w91 : Xi U7 904 78 = z89 := by rw [eU7]; exact Xi_same (by unfold rg; omega)
      have K105 : True := trivial
      refine y_goto rfl rfl ?_
      refine y_return rfl rfl ?_
      have w92 : Xi U7 904 65 = Xi T6 904 65 := (show Xi U7 904 65 = Xi T6 904 65 from by rw [eU7]; exact Xi_ne (by omega))
      have w93 : Xi U7 904 66 = Xi T6 904 66 := (show Xi U7 904 66 = Xi T6 904 66 from by rw [eU7]; exact Xi_ne (by omega))
      have w94 : Xi U7 904 69 = Xi T6 904 69 := (show Xi U7 904 69 = Xi T6 904 69 from by rw [eU7]; exact Xi_ne (by omega))
      have w95 : Xi U7 904 70 = Xi U2 904 70 := (show Xi U7 904 70 = Xi T6 904 70 from by rw [eU7]; exact Xi_ne (by omega)).trans ( (show Xi T6 904 70 = Xi U5 904 70 from w90.x _ _ rfl).trans ( (show Xi U5 904 70 = Xi U4 904 70 from by rw [eU5]; exact Xi_ne (by omega)).trans ( (show Xi U4 904 70 = Xi U3 904 70 from by rw [eU4]; exact Xi_ne (by omega)).trans ((show Xi U3 904 70 = Xi U2 904 70 from by rw [eU3]; exact Xi_ne (by omega))))))
      have w96 : Xi U7 904 73 = Xi T1 904 73 := (show Xi U7 904 73 = Xi T6 904 73 from by rw [eU7]; exact Xi_ne (by omega)).trans ( (show Xi T6 904 73 = Xi U5 904 73 from w90.x _ _ rfl).trans ( (show Xi U5 904 73 = Xi U4 904 73 from by rw [eU5]; exact Xi_ne (by omega)).trans ( (show Xi U4 904 73 = Xi U3 904 73 from by rw [eU4]; exact Xi_ne (by omega)).trans ( (show Xi U3 904 73 = Xi U2 904 73 from by rw [eU3]; exact Xi_ne (by omega)).trans ((show Xi U2 904 73 = Xi T1 904 73 from by rw [eU2]; exact Xi_ne (by omega)))))))
      have w97 : Xi U7 904 74 = Xi T1 904 74 := (show Xi U7 904 74 = Xi T6 904 74 from by rw [eU7]; exact Xi_ne (by omega)).trans ( (show Xi T6 904 74 = Xi U5 904 74 from w90.x _ _ rfl).trans ( (show Xi U5 904 74 = Xi U4 904 74 from by rw [eU5]; exact Xi_ne (by omega)).trans ( (show Xi U4 904 74 = Xi U3 904 74 from by rw [eU4]; exact Xi_ne (by omega)).trans ( (show Xi U3 904 74 = Xi U2 904 74 from by rw [eU3]; exact Xi_ne (by omega)).trans ((show Xi U2 904 74 = Xi T1 904 74 from by rw [eU2]; exact Xi_ne (by omega)))))))
      have w98 : Xi U7 904 75 = Xi T1 904 75 := (show Xi U7 904 75 = Xi T6 904 75 from by rw [eU7]; exact Xi_ne (by omega)).trans ( (show Xi T6 904 75 = Xi U5 904 75 from w90.x _ _ rfl).trans ( (show Xi U5 904 75 = Xi U4 904 75 from by rw [eU5]; exact Xi_ne (by omega)).trans ( (show Xi U4 904 75 = Xi U3 904 75 from by rw [eU4]; exact Xi_ne (by omega)).trans ( (show Xi U3 904 75 = Xi U2 904 75 from by rw [eU3]; exact Xi_ne (by omega)).trans ((show Xi U2 904 75 = Xi T1 904 75 from by rw [eU2]; exact Xi_ne (by omega)))))))
      have w99 : Xi U7 904 76 = Xi T1 904 76 := (show Xi U7 904 76 = Xi T6 904 76 from by rw [eU7]; exact Xi_ne (by omega)).trans ( (show Xi T6 904 76 = Xi U5 904 76 from w90.x _ _ rfl).trans ( (show Xi U5 904 76 = Xi U4 904 76 from by rw [eU5]; exact Xi_ne (by omega)).trans ( (show Xi U4 904 76 = Xi U3 904 76 from by rw [eU4]; exact Xi_ne (by omega)).trans ( (show Xi U3 904 76 = Xi U2 904 76 from by rw [eU3]; exact Xi_ne (by omega)).trans ((show Xi U2 904 76 = Xi T1 904 76 from by rw [eU2]; exact Xi_ne (by omega)))))))
      have w100 : Xi U7 904 8 = Xi T6 904 8 := (show Xi U7 904 8 = Xi T6 904 8 from by rw [eU7]; exact Xi_ne (by omega))
      have w101 : Xi U7 904 93 = Xi T1 904 93 := (show Xi U7 904 93 = Xi T6 904 93 from by rw [eU7]; exact Xi_ne (by omega)).trans ( (show Xi T6 904 93 = Xi U5 904 93 from w90.x _ _ rfl).trans ( (show Xi U5 904 93 = Xi U4 904 93 from by rw [eU5]; exact Xi_ne (by omega)).trans ( (show Xi U4 904 93 = Xi U3 904 93 from by rw [eU4]; exact Xi_ne (by omega)).trans ( (show Xi U3 904 93 = Xi U2 904 93 from by rw [eU3]; exact Xi_ne (by omega)).trans ((show Xi U2 904 93 = Xi T1 904 93 from by rw [eU2]; exact Xi_ne (by omega)))))))
      exact ⟨hHU7, hFU7, rfl, (by first | (have t := K94; rw [gRe_10 ⟨by omega, by omega⟩, if_pos (by omega), if_pos (by omega)]; exact cu_1 (by omega) (by omega)) | (have t := K105; rw [gRe_10 ⟨by omega, by omega⟩, if_pos (by omega), if_neg (by omega)]; exact (cu_go gp102 (by omega) (by omega)).trans (cu_eq (by omega) (by omega) (by omega)).symm) | (have t := K191; rw [gRe_11 ⟨by omega, by omega⟩, if_pos (by omega), cu_go gp177 (by omega) (by omega), gp183, gp188]; exact (cu_eq (by omega) (by omega) (by omega)).symm) | (have t := K257; rw [gRe_12 b204 c204 a204, cu_go gp222 (by omega) (by omega)]; exact cu_br (fun b => by rw [if_neg (by omega)]; exact (cu_ch0 (cu_go gp246 (by omega) (by omega)) gp254).trans (cu_eq (by omega) (by omega) (by omega)).symm) (fun b => absurd (by omega) b)) | (have t := K328; rw [gRe_15 (by omega)]; exact (cu_go gp325 (by omega) (by omega)).trans (cu_eq (by omega) (by omega) (by omega)).symm) | (have t := K383; rw [gRe_f (by omega), cu_go gp341 (by omega) (by omega)]; exact cu_br (fun b => by rw [if_pos (by omega)]; exact (cu_go gp380 (by omega) (by omega)).trans (cu_eq (by omega) (by omega) (by omega)).symm) (fun b => absurd (by omega) b)) | (have t := K454; rw [gRe_13 a435 b435 c435 d435]; exact (cu_ch0 (cu_go gp443 (by omega) (by omega)) gp451).trans (cu_eq (by omega) (by omega) (by omega)).symm) | exact GZ.o (by omega) | exact (FU_e U413 (by omega) (fun b k => gRn_0 (gBt_zz (m421 b) (by omega)))).trans (cu_eqb (by omega) (fun b => n421.o (by omega)) (by omega)).symm | exact FU_b U413 (by omega)), (by omega), (by omega), (by first | (have t := K94; exact (fun b => rsr_10 ⟨by omega, by omega⟩ (by omega) (Or.inr (Or.inl ⟨by omega, by omega, by omega⟩)))) | (have t := K105; exact (fun b => rsr_10 ⟨by omega, by omega⟩ (by omega) (Or.inr (Or.inr ⟨by omega, by omega, by omega⟩)))) | (have t := K191; exact (fun b => rsr_11 ⟨by omega, by omega⟩ (by omega) (Or.inr ⟨by omega, by omega⟩))) | (have t := K257; exact (fun b => by have t := t222.o (by omega); exact rsr_12 a204 b204 c204 (by omega) (by omega) (Or.inr ⟨by omega, by rw [t]; omega, by omega⟩))) | (have t := K328; exact (fun b => rsr_15 (by omega) (by omega) (by omega))) | (have t := K383; exact (fun b => by have t := t341.o (by omega); exact rsr_f (by omega) (by omega) (Or.inl ⟨by omega, by omega, by omega⟩))) | (have t := K454; exact (fun b => rsr_13 a435 b435 c435 d435 (by omega) (by omega) (by omega))) | exact RS.o (by omega) | exact (fun b => rsr_f (by omega) (by omega) (Or.inr (Or.inl ⟨s413.o, by omega⟩)))), (by omega), (by omega), (by first | assumption | exact (JR_FR (FR_e eU7) rfl rfl rfl (by assumption : JR T6 _ _)))⟩
    · refine y_aload_n rfl rfl ?_
      refine y_bipush rfl rfl ?_
      refine y_pfi rfl rfl rfl rfl ?_
      obtain ⟨U8, eU8⟩ : ∃ T : sS, T = uI U5 904 78 (Int32.ofInt (-2)) := ⟨_, rfl⟩
      rw [← eU8]
      have hHU8 : RI U8 := by rw [eU8]; exact RI_w hHU5
      have hFU8 : FR md_mo_rest__p S U8 := by rw [eU8]; exact FR.wI hFU5 (mdf_i (r := (904, 905, 78, 79)) (List.mem_of_getElem? (i := 9) rfl) (inR_i (by omega) (by omega) (by omega) (by omega)))
      have w102 : Xi U8 904 78 = (-2) := by rw [eU8]; exact Xi_same (by unfold rg; omega)
      refine y_aload_n rfl rfl ?_
      refine y_dup rfl rfl ?_
      refine y_gfi rfl rfl rfl rfl rfl ?_
      have w103 : (Xi U8 904 8) = (Xi U5 904 8) := (show Xi U8 904 8 = Xi U5 904 8 from by rw [eU8]; exact Xi_ne (by omega))
      rw [w103]
      refine y_iconst rfl ?_
      refine y_iadd rfl ?_
      refine y_pfi rfl rfl rfl rfl ?_
      obtain ⟨U9, eU9⟩ : ∃ T : sS, T = uI U8 904 8 (Int32.ofInt ((Xi U5 904 8) + 1)) := ⟨_, rfl⟩
      rw [← eU9]
      have hHU9 : RI U9 := by rw [eU9]; exact RI_w hHU8
      have hFU9 : FR md_mo_rest__p S U9 := by rw [eU9]; exact FR.wI hFU8 (mdf_i (r := (904, 905, 8, 9)) (List.mem_of_getElem? (i := 0) rfl) (inR_i (by omega) (by omega) (by omega) (by omega)))
      have w104 : Xi U9 904 8 = ((Xi U5 904 8) + 1) := by rw [eU9]; exact Xi_same (by unfold rg; omega)
      have b94_ : Xi U9 904 65 = Xi U8 904 65 := (by rw [eU9, Xi_ne (by omega)]); have J94 : JR U9 fs ns := jr_up (JR_FR (FR_e eU8) rfl rfl rfl (by assumption : JR U5 _ _)) (VLR_FR hFU8 rfl (by assumption : VLR S _ _)) eU9 (by omega) (fun b => by rw [FRR hFU8 rfl, show Xi U8 904 8 - (fs : Int) = Xi S 904 8 - fs + 3 by omega]; omega)
      have : Xi U9 904 65 = 0 → (fs : Int) ≤ Xi U9 904 8 ∧ Xi U9 904 8 ≤ fs + ns := JR.i (by assumption)
      have K94 : True := trivial
      refine y_goto rfl rfl ?_
      refine y_return rfl rfl ?_
      have w105 : Xi U9 904 65 = Xi T1 904 65 := (show Xi U9 904 65 = Xi U8 904 65 from by rw [eU9]; exact Xi_ne (by omega)).trans ( (show Xi U8 904 65 = Xi U5 904 65 from by rw [eU8]; exact Xi_ne (by omega)).trans ( (show Xi U5 904 65 = Xi U4 904 65 from by rw [eU5]; exact Xi_ne (by omega)).trans ( (show Xi U4 904 65 = Xi U3 904 65 from by rw [eU4]; exact Xi_ne (by omega)).trans ( (show Xi U3 904 65 = Xi U2 904 65 from by rw [eU3]; exact Xi_ne (by omega)).trans ((show Xi U2 904 65 = Xi T1 904 65 from by rw [eU2]; exact Xi_ne (by omega)))))))
      have w106 : Xi U9 904 66 = Xi T1 904 66 := (show Xi U9 904 66 = Xi U8 904 66 from by rw [eU9]; exact Xi_ne (by omega)).trans ( (show Xi U8 904 66 = Xi U5 904 66 from by rw [eU8]; exact Xi_ne (by omega)).trans ( (show Xi U5 904 66 = Xi U4 904 66 from by rw [eU5]; exact Xi_ne (by omega)).trans ( (show Xi U4 904 66 = Xi U3 904 66 from by rw [eU4]; exact Xi_ne (by omega)).trans ( (show Xi U3 904 66 = Xi U2 904 66 from by rw [eU3]; exact Xi_ne (by omega)).trans ((show Xi U2 904 66 = Xi T1 904 66 from by rw [eU2]; exact Xi_ne (by omega)))))))
      have w107 : Xi U9 904 69 = Xi T1 904 69 := (show Xi U9 904 69 = Xi U8 904 69 from by rw [eU9]; exact Xi_ne (by omega)).trans ( (show Xi U8 904 69 = Xi U5 904 69 from by rw [eU8]; exact Xi_ne (by omega)).trans ( (show Xi U5 904 69 = Xi U4 904 69 from by rw [eU5]; exact Xi_ne (by omega)).trans ( (show Xi U4 904 69 = Xi U3 904 69 from by rw [eU4]; exact Xi_ne (by omega)).trans ( (show Xi U3 904 69 = Xi U2 904 69 from by rw [eU3]; exact Xi_ne (by omega)).trans ((show Xi U2 904 69 = Xi T1 904 69 from by rw [eU2]; exact Xi_ne (by omega)))))))
      have w108 : Xi U9 904 70 = Xi U2 904 70 := (show Xi U9 904 70 = Xi U8 904 70 from by rw [eU9]; exact Xi_ne (by omega)).trans ( (show Xi U8 904 70 = Xi U5 904 70 from by rw [eU8]; exact Xi_ne (by omega)).trans ( (show Xi U5 904 70 = Xi U4 904 70 from by rw [eU5]; exact Xi_ne (by omega)).trans ( (show Xi U4 904 70 = Xi U3 904 70 from by rw [eU4]; exact Xi_ne (by omega)).trans ((show Xi U3 904 70 = Xi U2 904 70 from by rw [eU3]; exact Xi_ne (by omega))))))
      have w109 : Xi U9 904 73 = Xi T1 904 73 := (show Xi U9 904 73 = Xi U8 904 73 from by rw [eU9]; exact Xi_ne (by omega)).trans ( (show Xi U8 904 73 = Xi U5 904 73 from by rw [eU8]; exact Xi_ne (by omega)).trans ( (show Xi U5 904 73 = Xi U4 904 73 from by rw [eU5]; exact Xi_ne (by omega)).trans ( (show Xi U4 904 73 = Xi U3 904 73 from by rw [eU4]; exact Xi_ne (by omega)).trans ( (show Xi U3 904 73 = Xi U2 904 73 from by rw [eU3]; exact Xi_ne (by omega)).trans ((show Xi U2 904 73 = Xi T1 904 73 from by rw [eU2]; exact Xi_ne (by omega)))))))
      have w110 : Xi U9 904 74 = Xi T1 904 74 := (show Xi U9 904 74 = Xi U8 904 74 from by rw [eU9]; exact Xi_ne (by omega)).trans ( (show Xi U8 904 74 = Xi U5 904 74 from by rw [eU8]; exact Xi_ne (by omega)).trans ( (show Xi U5 904 74 = Xi U4 904 74 from by rw [eU5]; exact Xi_ne (by omega)).trans ( (show Xi U4 904 74 = Xi U3 904 74 from by rw [eU4]; exact Xi_ne (by omega)).trans ( (show Xi U3 904 74 = Xi U2 904 74 from by rw [eU3]; exact Xi_ne (by omega)).trans ((show Xi U2 904 74 = Xi T1 904 74 from by rw [eU2]; exact Xi_ne (by omega)))))))
      have w111 : Xi U9 904 75 = Xi T1 904 75 := (show Xi U9 904 75 = Xi U8 904 75 from by rw [eU9]; exact Xi_ne (by omega)).trans ( (show Xi U8 904 75 = Xi U5 904 75 from by rw [eU8]; exact Xi_ne (by omega)).trans ( (show Xi U5 904 75 = Xi U4 904 75 from by rw [eU5]; exact Xi_ne (by omega)).trans ( (show Xi U4 904 75 = Xi U3 904 75 from by rw [eU4]; exact Xi_ne (by omega)).trans ( (show Xi U3 904 75 = Xi U2 904 75 from by rw [eU3]; exact Xi_ne (by omega)).trans ((show Xi U2 904 75 = Xi T1 904 75 from by rw [eU2]; exact Xi_ne (by omega)))))))
      have w112 : Xi U9 904 76 = Xi T1 904 76 := (show Xi U9 904 76 = Xi U8 904 76 from by rw [eU9]; exact Xi_ne (by omega)).trans ( (show Xi U8 904 76 = Xi U5 904 76 from by rw [eU8]; exact Xi_ne (by omega)).trans ( (show Xi U5 904 76 = Xi U4 904 76 from by rw [eU5]; exact Xi_ne (by omega)).trans ( (show Xi U4 904 76 = Xi U3 904 76 from by rw [eU4]; exact Xi_ne (by omega)).trans ( (show Xi U3 904 76 = Xi U2 904 76 from by rw [eU3]; exact Xi_ne (by omega)).trans ((show Xi U2 904 76 = Xi T1 904 76 from by rw [eU2]; exact Xi_ne (by omega)))))))
      have w113 : Xi U9 904 78 = Xi U8 904 78 := (show Xi U9 904 78 = Xi U8 904 78 from by rw [eU9]; exact Xi_ne (by omega))
      have w114 : Xi U9 904 93 = Xi T1 904 93 := (show Xi U9 904 93 = Xi U8 904 93 from by rw [eU9]; exact Xi_ne (by omega)).trans ( (show Xi U8 904 93 = Xi U5 904 93 from by rw [eU8]; exact Xi_ne (by omega)).trans ( (show Xi U5 904 93 = Xi U4 904 93 from by rw [eU5]; exact Xi_ne (by omega)).trans ( (show Xi U4 904 93 = Xi U3 904 93 from by rw [eU4]; exact Xi_ne (by omega)).trans ( (show Xi U3 904 93 = Xi U2 904 93 from by rw [eU3]; exact Xi_ne (by omega)).trans ((show Xi U2 904 93 = Xi T1 904 93 from by rw [eU2]; exact Xi_ne (by omega)))))))
      exact ⟨hHU9, hFU9, rfl, (by first | (have t := K94; rw [gRe_10 ⟨by omega, by omega⟩, if_pos (by omega), if_pos (by omega)]; exact cu_1 (by omega) (by omega)) | (have t := K105; rw [gRe_10 ⟨by omega, by omega⟩, if_pos (by omega), if_neg (by omega)]; exact (cu_go gp102 (by omega) (by omega)).trans (cu_eq (by omega) (by omega) (by omega)).symm) | (have t := K191; rw [gRe_11 ⟨by omega, by omega⟩, if_pos (by omega), cu_go gp177 (by omega) (by omega), gp183, gp188]; exact (cu_eq (by omega) (by omega) (by omega)).symm) | (have t := K257; rw [gRe_12 b204 c204 a204, cu_go gp222 (by omega) (by omega)]; exact cu_br (fun b => by rw [if_neg (by omega)]; exact (cu_ch0 (cu_go gp246 (by omega) (by omega)) gp254).trans (cu_eq (by omega) (by omega) (by omega)).symm) (fun b => absurd (by omega) b)) | (have t := K328; rw [gRe_15 (by omega)]; exact (cu_go gp325 (by omega) (by omega)).trans (cu_eq (by omega) (by omega) (by omega)).symm) | (have t := K383; rw [gRe_f (by omega), cu_go gp341 (by omega) (by omega)]; exact cu_br (fun b => by rw [if_pos (by omega)]; exact (cu_go gp380 (by omega) (by omega)).trans (cu_eq (by omega) (by omega) (by omega)).symm) (fun b => absurd (by omega) b)) | (have t := K454; rw [gRe_13 a435 b435 c435 d435]; exact (cu_ch0 (cu_go gp443 (by omega) (by omega)) gp451).trans (cu_eq (by omega) (by omega) (by omega)).symm) | exact GZ.o (by omega) | exact (FU_e U413 (by omega) (fun b k => gRn_0 (gBt_zz (m421 b) (by omega)))).trans (cu_eqb (by omega) (fun b => n421.o (by omega)) (by omega)).symm | exact FU_b U413 (by omega)), (by omega), (by omega), (by first | (have t := K94; exact (fun b => rsr_10 ⟨by omega, by omega⟩ (by omega) (Or.inr (Or.inl ⟨by omega, by omega, by omega⟩)))) | (have t := K105; exact (fun b => rsr_10 ⟨by omega, by omega⟩ (by omega) (Or.inr (Or.inr ⟨by omega, by omega, by omega⟩)))) | (have t := K191; exact (fun b => rsr_11 ⟨by omega, by omega⟩ (by omega) (Or.inr ⟨by omega, by omega⟩))) | (have t := K257; exact (fun b => by have t := t222.o (by omega); exact rsr_12 a204 b204 c204 (by omega) (by omega) (Or.inr ⟨by omega, by rw [t]; omega, by omega⟩))) | (have t := K328; exact (fun b => rsr_15 (by omega) (by omega) (by omega))) | (have t := K383; exact (fun b => by have t := t341.o (by omega); exact rsr_f (by omega) (by omega) (Or.inl ⟨by omega, by omega, by omega⟩))) | (have t := K454; exact (fun b => rsr_13 a435 b435 c435 d435 (by omega) (by omega) (by omega))) | exact RS.o (by omega) | exact (fun b => rsr_f (by omega) (by omega) (Or.inr (Or.inl ⟨s413.o, by omega⟩)))), (by omega), (by omega), (by first | assumption | exact (by assumption : JR U9 _ _))⟩
set_option maxRecDepth 100000 in
theorem c133_mo_rest__p {S : sS} (hH : RI S) (fs : Nat) (ns : Nat) (hvl : VLR S fs ns) (hJR : JR S fs ns) (hb : Xi S 904 65 = 0) (d : Nat) (fu : Nat) : ∀  (T10 : sS) (_ : RI T10) (_ : FR md_mo_rest__p S T10), (Xi T10 904 8 = Xi S 904 8) → (Xi T10 904 65 = 0) → (Xi T10 904 69 = Xi S 904 69) → (Xi T10 904 73 = 0) → (Xi T10 904 75 = Xi S 904 75) → (Xi T10 904 76 = Xi S 904 76) → (JR T10 fs ns) → (tR S fs ns (Xi S 904 8 - fs) = 1 ∧ tR S fs ns (Xi S 904 8 - fs + 1) = 27) → Pl fu lay0 (d + 3) m_mo_rest 133 [(0, .ref 904)] [] T10 (Q_mo_rest__p S fs ns) := by
  have hF : FR md_mo_rest__p S S := FR.rf
  have w1 : -2147483648 ≤ Xi S 904 65 ∧ Xi S 904 65 ≤ 2147483647 := Xi_rgI
  have w2 : -2147483648 ≤ Xi S 904 66 ∧ Xi S 904 66 ≤ 2147483647 := Xi_rgI
  have w3 : -2147483648 ≤ Xi S 904 69 ∧ Xi S 904 69 ≤ 2147483647 := Xi_rgI
  have w4 : -2147483648 ≤ Xi S 904 70 ∧ Xi S 904 70 ≤ 2147483647 := Xi_rgI
  have w5 : -2147483648 ≤ Xi S 904 73 ∧ Xi S 904 73 ≤ 2147483647 := Xi_rgI
  have w6 : -2147483648 ≤ Xi S 904 74 ∧ Xi S 904 74 ≤ 2147483647 := Xi_rgI
  have w7 : -2147483648 ≤ Xi S 904 75 ∧ Xi S 904 75 ≤ 2147483647 := Xi_rgI
  have w8 : -2147483648 ≤ Xi S 904 76 ∧ Xi S 904 76 ≤ 2147483647 := Xi_rgI
  have w9 : -2147483648 ≤ Xi S 904 78 ∧ Xi S 904 78 ≤ 2147483647 := Xi_rgI
  have w10 : -2147483648 ≤ Xi S 904 8 ∧ Xi S 904 8 ≤ 2147483647 := Xi_rgI
  have w11 : -2147483648 ≤ Xi S 904 93 ∧ Xi S 904 93 ≤ 2147483647 := Xi_rgI
  have : Xi S 904 65 = 0 → (fs : Int) ≤ Xi S 904 8 ∧ Xi S 904 8 ≤ fs + ns := JR.i (by assumption)
  have hbd := hvl.2.2.2
  intro T10 hHT10 hFT10 w115 w116 w117 w118 w119 w120 J133 a133
  have w121 : -2147483648 ≤ Xi T10 904 65 ∧ Xi T10 904 65 ≤ 2147483647 := Xi_rgI
  have w122 : -2147483648 ≤ Xi T10 904 66 ∧ Xi T10 904 66 ≤ 2147483647 := Xi_rgI
  have w123 : -2147483648 ≤ Xi T10 904 69 ∧ Xi T10 904 69 ≤ 2147483647 := Xi_rgI
  have w124 : -2147483648 ≤ Xi T10 904 70 ∧ Xi T10 904 70 ≤ 2147483647 := Xi_rgI
  have w125 : -2147483648 ≤ Xi T10 904 73 ∧ Xi T10 904 73 ≤ 2147483647 := Xi_rgI
  have w126 : -2147483648 ≤ Xi T10 904 74 ∧ Xi T10 904 74 ≤ 2147483647 := Xi_rgI
  have w127 : -2147483648 ≤ Xi T10 904 75 ∧ Xi T10 904 75 ≤ 2147483647 := Xi_rgI
  have w128 : -2147483648 ≤ Xi T10 904 76 ∧ Xi T10 904 76 ≤ 2147483647 := Xi_rgI
  have w129 : -2147483648 ≤ Xi T10 904 78 ∧ Xi T10 904 78 ≤ 2147483647 := Xi_rgI
  have w130 : -2147483648 ≤ Xi T10 904 8 ∧ Xi T10 904 8 ≤ 2147483647 := Xi_rgI
  have w131 : -2147483648 ≤ Xi T10 904 93 ∧ Xi T10 904 93 ≤ 2147483647 := Xi_rgI
  refine y_aload_n rfl rfl ?_
  refine y_bipush rfl rfl ?_
  refine y_pfi rfl rfl rfl rfl ?_
  obtain ⟨U11, eU11⟩ : ∃ T : sS, T = uI T10 904 70 (Int32.ofInt 11) := ⟨_, rfl⟩
  rw [← eU11]
  have hHU11 : RI U11 := by rw [eU11]; exact RI_w hHT10
  have hFU11 : FR md_mo_rest__p S U11 := by rw [eU11]; exact FR.wI hFT10 (mdf_i (r := (904, 905, 70, 71)) (List.mem_of_getElem? (i := 4) rfl) (inR_i (by omega) (by omega) (by omega) (by omega)))
  have w132 : Xi U11 904 70 = 11 := by rw [eU11]; exact Xi_same (by unfold rg; omega)
  refine y_aload_n rfl rfl ?_
  refine y_dup rfl rfl ?_
  refine y_gfi rfl rfl rfl rfl rfl ?_
  have w133 : (Xi U11 904 8) = (Xi T10 904 8) := (show Xi U11 904 8 = Xi T10 904 8 from by rw [eU11]; exact Xi_ne (by omega))
  rw [w133]
  refine y_iconst rfl ?_
  refine y_iadd rfl ?_
  refine y_pfi rfl rfl rfl rfl ?_
  obtain ⟨U12, eU12⟩ : ∃ T : sS, T = uI U11 904 8 (Int32.ofInt ((Xi T10 904 8) + 2)) := ⟨_, rfl⟩
  rw [← eU12]
  have hHU12 : RI U12 := by rw [eU12]; exact RI_w hHU11
  have hFU12 : FR md_mo_rest__p S U12 := by rw [eU12]; exact FR.wI hFU11 (mdf_i (r := (904, 905, 8, 9)) (List.mem_of_getElem? (i := 0) rfl) (inR_i (by omega) (by omega) (by omega) (by omega)))
  have w134 : Xi U12 904 8 = ((Xi T10 904 8) + 2) := by rw [eU12]; exact Xi_same (by unfold rg; omega)
  have b146_ : Xi U12 904 65 = Xi U11 904 65 := (by rw [eU12, Xi_ne (by omega)]); have J146 : JR U12 fs ns := jr_up2 (JR_FR (FR_e eU11) rfl rfl rfl (by assumption : JR T10 _ _)) (VLR_FR hFU11 rfl (by assumption : VLR S _ _)) eU12 (by omega) (fun b => by rw [FRR hFU11 rfl, show Xi U11 904 8 - (fs : Int) = Xi S 904 8 - fs by omega]; omega) (fun b => by rw [FRR hFU11 rfl, show Xi U11 904 8 - (fs : Int) = Xi S 904 8 - fs by omega]; omega)
  have : Xi U12 904 65 = 0 → (fs : Int) ≤ Xi U12 904 8 ∧ Xi U12 904 8 ≤ fs + ns := JR.i (by assumption)
  refine y_aload_n rfl rfl ?_
  refine y_iconst rfl ?_
  refine y_pfi rfl rfl rfl rfl ?_
  obtain ⟨U13, eU13⟩ : ∃ T : sS, T = uI U12 904 78 (Int32.ofInt (-1)) := ⟨_, rfl⟩
  rw [← eU13]
  have hHU13 : RI U13 := by rw [eU13]; exact RI_w hHU12
  have hFU13 : FR md_mo_rest__p S U13 := by rw [eU13]; exact FR.wI hFU12 (mdf_i (r := (904, 905, 78, 79)) (List.mem_of_getElem? (i := 9) rfl) (inR_i (by omega) (by omega) (by omega) (by omega)))
  have w135 : Xi U13 904 78 = (-1) := by rw [eU13]; exact Xi_same (by unfold rg; omega)
  refine y_aload_n rfl rfl ?_
  refine y_sipush rfl rfl ?_
  have w136 : Xi U13 904 65 = Xi T10 904 65 := (show Xi U13 904 65 = Xi U12 904 65 from by rw [eU13]; exact Xi_ne (by omega)).trans ( (show Xi U12 904 65 = Xi U11 904 65 from by rw [eU12]; exact Xi_ne (by omega)).trans ((show Xi U11 904 65 = Xi T10 904 65 from by rw [eU11]; exact Xi_ne (by omega))))
  have w137 : Xi U13 904 66 = Xi T10 904 66 := (show Xi U13 904 66 = Xi U12 904 66 from by rw [eU13]; exact Xi_ne (by omega)).trans ( (show Xi U12 904 66 = Xi U11 904 66 from by rw [eU12]; exact Xi_ne (by omega)).trans ((show Xi U11 904 66 = Xi T10 904 66 from by rw [eU11]; exact Xi_ne (by omega))))
  have w138 : Xi U13 904 69 = Xi T10 904 69 := (show Xi U13 904 69 = Xi U12 904 69 from by rw [eU13]; exact Xi_ne (by omega)).trans ( (show Xi U12 904 69 = Xi U11 904 69 from by rw [eU12]; exact Xi_ne (by omega)).trans ((show Xi U11 904 69 = Xi T10 904 69 from by rw [eU11]; exact Xi_ne (by omega))))
  have w139 : Xi U13 904 70 = Xi U11 904 70 := (show Xi U13 904 70 = Xi U12 904 70 from by rw [eU13]; exact Xi_ne (by omega)).trans ((show Xi U12 904 70 = Xi U11 904 70 from by rw [eU12]; exact Xi_ne (by omega)))
  have w140 : Xi U13 904 73 = Xi T10 904 73 := (show Xi U13 904 73 = Xi U12 904 73 from by rw [eU13]; exact Xi_ne (by omega)).trans ( (show Xi U12 904 73 = Xi U11 904 73 from by rw [eU12]; exact Xi_ne (by omega)).trans ((show Xi U11 904 73 = Xi T10 904 73 from by rw [eU11]; exact Xi_ne (by omega))))
  have w141 : Xi U13 904 74 = Xi T10 904 74 := (show Xi U13 904 74 = Xi U12 904 74 from by rw [eU13]; exact Xi_ne (by omega)).trans ( (show Xi U12 904 74 = Xi U11 904 74 from by rw [eU12]; exact Xi_ne (by omega)).trans ((show Xi U11 904 74 = Xi T10 904 74 from by rw [eU11]; exact Xi_ne (by omega))))
  have w142 : Xi U13 904 75 = Xi T10 904 75 := (show Xi U13 904 75 = Xi U12 904 75 from by rw [eU13]; exact Xi_ne (by omega)).trans ( (show Xi U12 904 75 = Xi U11 904 75 from by rw [eU12]; exact Xi_ne (by omega)).trans ((show Xi U11 904 75 = Xi T10 904 75 from by rw [eU11]; exact Xi_ne (by omega))))
  have w143 : Xi U13 904 76 = Xi T10 904 76 := (show Xi U13 904 76 = Xi U12 904 76 from by rw [eU13]; exact Xi_ne (by omega)).trans ( (show Xi U12 904 76 = Xi U11 904 76 from by rw [eU12]; exact Xi_ne (by omega)).trans ((show Xi U11 904 76 = Xi T10 904 76 from by rw [eU11]; exact Xi_ne (by omega))))
  have w144 : Xi U13 904 8 = Xi U12 904 8 := (show Xi U13 904 8 = Xi U12 904 8 from by rw [eU13]; exact Xi_ne (by omega))
  have w145 : Xi U13 904 93 = Xi T10 904 93 := (show Xi U13 904 93 = Xi U12 904 93 from by rw [eU13]; exact Xi_ne (by omega)).trans ( (show Xi U12 904 93 = Xi U11 904 93 from by rw [eU12]; exact Xi_ne (by omega)).trans ((show Xi U11 904 93 = Xi T10 904 93 from by rw [eU11]; exact Xi_ne (by omega))))
  refine y_callV rfl rfl rfl (t_mo_isNext__p hHU13 fs ns 128 ⟨by omega, by omega⟩ (by first | assumption | exact (VLR_FR hFU13 rfl (by assumption : VLR S _ _))) (by first | assumption | exact JR.i (by first | assumption | exact (JR_FR (FR_e eU13) rfl rfl rfl (by assumption : JR U12 _ _)))) (rfl) _) ?_
  rintro _ _ ⟨rfl, z147, rfl, w147, w146⟩
  show Pl _ _ _ _ _ _ [iv z147] _ _
  have gb158 := w146
  try rw [FRR hFU13 rfl] at gb158
  try rw [show Xi U13 904 8 = Xi U12 904 8 by omega] at gb158
  try rw [show un7 128 = 28 from rfl] at gb158
  clear w146
  rw [show Xi U12 904 8 - (fs : Int) = Xi S 904 8 - fs + 2 by omega] at gb158
  have GZ : Hid ((z147 = 0) → gRe (tR S fs ns) (Xi S 904 8 - fs) = cu U13 fs) := fun q => by rw [gRe_11 ⟨by omega, by omega⟩, if_neg (by omega)]; exact cu_1 (by omega) (by omega)
  have RS : Hid ((z147 = 0) → Xi U13 904 65 = 0 → RSR U13 (tR S fs ns) (Xi S 904 8 - fs) (Xi S 904 69)) := fun q b => rsr_11 ⟨by omega, by omega⟩ (by omega) (Or.inl ⟨by omega, by omega⟩)
  refine y_if_eq rfl rfl (by unfold rg; omega) (fun w148 => ?_) (fun w149 => ?_)
  · refine y_return rfl rfl ?_
    exact ⟨hHU13, hFU13, rfl, (by first | (have t := K94; rw [gRe_10 ⟨by omega, by omega⟩, if_pos (by omega), if_pos (by omega)]; exact cu_1 (by omega) (by omega)) | (have t := K105; rw [gRe_10 ⟨by omega, by omega⟩, if_pos (by omega), if_neg (by omega)]; exact (cu_go gp102 (by omega) (by omega)).trans (cu_eq (by omega) (by omega) (by omega)).symm) | (have t := K191; rw [gRe_11 ⟨by omega, by omega⟩, if_pos (by omega), cu_go gp177 (by omega) (by omega), gp183, gp188]; exact (cu_eq (by omega) (by omega) (by omega)).symm) | (have t := K257; rw [gRe_12 b204 c204 a204, cu_go gp222 (by omega) (by omega)]; exact cu_br (fun b => by rw [if_neg (by omega)]; exact (cu_ch0 (cu_go gp246 (by omega) (by omega)) gp254).trans (cu_eq (by omega) (by omega) (by omega)).symm) (fun b => absurd (by omega) b)) | (have t := K328; rw [gRe_15 (by omega)]; exact (cu_go gp325 (by omega) (by omega)).trans (cu_eq (by omega) (by omega) (by omega)).symm) | (have t := K383; rw [gRe_f (by omega), cu_go gp341 (by omega) (by omega)]; exact cu_br (fun b => by rw [if_pos (by omega)]; exact (cu_go gp380 (by omega) (by omega)).trans (cu_eq (by omega) (by omega) (by omega)).symm) (fun b => absurd (by omega) b)) | (have t := K454; rw [gRe_13 a435 b435 c435 d435]; exact (cu_ch0 (cu_go gp443 (by omega) (by omega)) gp451).trans (cu_eq (by omega) (by omega) (by omega)).symm) | exact GZ.o (by omega) | exact (FU_e U413 (by omega) (fun b k => gRn_0 (gBt_zz (m421 b) (by omega)))).trans (cu_eqb (by omega) (fun b => n421.o (by omega)) (by omega)).symm | exact FU_b U413 (by omega)), (by omega), (by omega), (by first | (have t := K94; exact (fun b => rsr_10 ⟨by omega, by omega⟩ (by omega) (Or.inr (Or.inl ⟨by omega, by omega, by omega⟩)))) | (have t := K105; exact (fun b => rsr_10 ⟨by omega, by omega⟩ (by omega) (Or.inr (Or.inr ⟨by omega, by omega, by omega⟩)))) | (have t := K191; exact (fun b => rsr_11 ⟨by omega, by omega⟩ (by omega) (Or.inr ⟨by omega, by omega⟩))) | (have t := K257; exact (fun b => by have t := t222.o (by omega); exact rsr_12 a204 b204 c204 (by omega) (by omega) (Or.inr ⟨by omega, by rw [t]; omega, by omega⟩))) | (have t := K328; exact (fun b => rsr_15 (by omega) (by omega) (by omega))) | (have t := K383; exact (fun b => by have t := t341.o (by omega); exact rsr_f (by omega) (by omega) (Or.inl ⟨by omega, by omega, by omega⟩))) | (have t := K454; exact (fun b => rsr_13 a435 b435 c435 d435 (by omega) (by omega) (by omega))) | exact RS.o (by omega) | exact (fun b => rsr_f (by omega) (by omega) (Or.inr (Or.inl ⟨s413.o, by omega⟩)))), (by omega), (by omega), (by first | assumption | exact (JR_FR (FR_e eU13) rfl rfl rfl (by assumption : JR U12 _ _)))⟩
  · refine y_aload_n rfl rfl ?_
    refine y_dup rfl rfl ?_
    refine y_gfi rfl rfl rfl rfl rfl ?_
    have w160 : (Xi U13 904 8) = (Xi U12 904 8) := (show Xi U13 904 8 = Xi U12 904 8 from by rw [eU13]; exact Xi_ne (by omega))
    rw [w160]
    refine y_iconst rfl ?_
    refine y_iadd rfl ?_
    refine y_pfi rfl rfl rfl rfl ?_
    obtain ⟨U14, eU14⟩ : ∃ T : sS, T = uI U13 904 8 (Int32.ofInt ((Xi U12 904 8) + 1)) := ⟨_, rfl⟩
    rw [← eU14]
    have hHU14 : RI U14 := by rw [eU14]; exact RI_w hHU13
    have hFU14 : FR md_mo_rest__p S U14 := by rw [eU14]; exact FR.wI hFU13 (mdf_i (r := (904, 905, 8, 9)) (List.mem_of_getElem? (i := 0) rfl) (inR_i (by omega) (by omega) (by omega) (by omega)))
    have w161 : Xi U14 904 8 = ((Xi U12 904 8) + 1) := by rw [eU14]; exact Xi_same (by unfold rg; omega)
    have b171_ : Xi U14 904 65 = Xi U13 904 65 := (by rw [eU14, Xi_ne (by omega)]); have J171 : JR U14 fs ns := jr_up (JR_FR (FR_e eU13) rfl rfl rfl (by assumption : JR U12 _ _)) (VLR_FR hFU13 rfl (by assumption : VLR S _ _)) eU14 (by omega) (fun b => by rw [FRR hFU13 rfl, show Xi U13 904 8 - (fs : Int) = Xi S 904 8 - fs + 2 by omega]; omega)
    have : Xi U14 904 65 = 0 → (fs : Int) ≤ Xi U14 904 8 ∧ Xi U14 904 8 ≤ fs + ns := JR.i (by assumption)
    refine y_aload_n rfl rfl ?_
    refine y_bipush rfl rfl ?_
    have w162 : Xi U14 904 65 = Xi T10 904 65 := (show Xi U14 904 65 = Xi U13 904 65 from by rw [eU14]; exact Xi_ne (by omega)).trans ( (show Xi U13 904 65 = Xi U12 904 65 from by rw [eU13]; exact Xi_ne (by omega)).trans ( (show Xi U12 904 65 = Xi U11 904 65 from by rw [eU12]; exact Xi_ne (by omega)).trans ((show Xi U11 904 65 = Xi T10 904 65 from by rw [eU11]; exact Xi_ne (by omega)))))
    refine y_callV rfl rfl rfl (t_mo_take__p hHU14 fs ns 111 ⟨by omega, by omega⟩ (by first | assumption | exact (VLR_FR hFU14 rfl (by assumption : VLR S _ _))) (by first | assumption | exact (by assumption : JR U14 _ _)) (rfl) (by decide) _) ?_
    rintro _ T15 ⟨hHT15, w176, rfl, w172, w173, w174⟩
    have hFT15 : FR md_mo_rest__p S T15 := FR.tr hFU14 w176 rfl
    show Pl _ _ _ _ _ _ [] _ _
    have : Xi T15 904 65 = 0 → (fs : Int) ≤ Xi T15 904 8 ∧ Xi T15 904 8 ≤ fs + ns := JR.i (by assumption)
    have gp177 := w172
    try rw [FRR hFU14 rfl] at gp177
    try rw [show un7 111 = 11 from rfl] at gp177
    clear w172
    refine y_aload_n rfl rfl ?_
    refine y_bipush rfl rfl ?_
    refine y_callV rfl rfl rfl (t_mo_take__p hHT15 fs ns 122 ⟨by omega, by omega⟩ (by first | assumption | exact (VLR_FR hFT15 rfl (by assumption : VLR S _ _))) (by first | assumption | exact (by assumption : JR T15 _ _)) (rfl) (by decide) _) ?_
    rintro _ T16 ⟨hHT16, w189, rfl, w185, w186, w187⟩
    have hFT16 : FR md_mo_rest__p S T16 := FR.tr hFT15 w189 rfl
    show Pl _ _ _ _ _ _ [] _ _
    have : Xi T16 904 65 = 0 → (fs : Int) ≤ Xi T16 904 8 ∧ Xi T16 904 8 ≤ fs + ns := JR.i (by assumption)
    have gp183 := w185
    try rw [FRR hFT15 rfl] at gp183
    try rw [show un7 122 = 22 from rfl] at gp183
    clear w185
    refine y_aload_n rfl rfl ?_
    refine y_aload_n rfl rfl ?_
    have w190 : Xi T16 904 69 = Xi T10 904 69 := (show Xi T16 904 69 = Xi T15 904 69 from w189.x _ _ rfl).trans ( (show Xi T15 904 69 = Xi U14 904 69 from w176.x _ _ rfl).trans ( (show Xi U14 904 69 = Xi U13 904 69 from by rw [eU14]; exact Xi_ne (by omega)).trans ( (show Xi U13 904 69 = Xi U12 904 69 from by rw [eU13]; exact Xi_ne (by omega)).trans ( (show Xi U12 904 69 = Xi U11 904 69 from by rw [eU12]; exact Xi_ne (by omega)).trans ((show Xi U11 904 69 = Xi T10 904 69 from by rw [eU11]; exact Xi_ne (by omega)))))))
    refine y_callV rfl rfl rfl (t_mo_run__p hHT16 fs ns (by first | assumption | exact (VLR_FR hFT16 rfl (by assumption : VLR S _ _))) (by first | assumption | exact (by assumption : JR T16 _ _)) _) ?_
    rintro _ T17 ⟨hHT17, w205, z204, rfl, w204, w198, w199, w200, w201, w202, w203⟩
    have hFT17 : FR md_mo_rest__p S T17 := FR.tr hFT16 w205 rfl
    show Pl _ _ _ _ _ _ [iv z204, .ref 904] _ _
    have : Xi T17 904 65 = 0 → (fs : Int) ≤ Xi T17 904 8 ∧ Xi T17 904 8 ≤ fs + ns := JR.i (by assumption)
    have gp188 := w198
    try rw [FRR hFT16 rfl] at gp188
    clear w198
    refine y_pfi rfl rfl rfl rfl ?_
    obtain ⟨U18, eU18⟩ : ∃ T : sS, T = uI T17 904 78 (Int32.ofInt z204) := ⟨_, rfl⟩
    rw [← eU18]
    have hHU18 : RI U18 := by rw [eU18]; exact RI_w hHT17
    have hFU18 : FR md_mo_rest__p S U18 := by rw [eU18]; exact FR.wI hFT17 (mdf_i (r := (904, 905, 78, 79)) (List.mem_of_getElem? (i := 9) rfl) (inR_i (by omega) (by omega) (by omega) (by omega)))
    have w206 : Xi U18 904 78 = z204 := by rw [eU18]; exact Xi_same (by unfold rg; omega)
    have K191 : True := trivial
    refine y_goto rfl rfl ?_
    refine y_return rfl rfl ?_
    have w207 : Xi U18 904 65 = Xi T17 904 65 := (show Xi U18 904 65 = Xi T17 904 65 from by rw [eU18]; exact Xi_ne (by omega))
    have w208 : Xi U18 904 66 = Xi T17 904 66 := (show Xi U18 904 66 = Xi T17 904 66 from by rw [eU18]; exact Xi_ne (by omega))
    have w209 : Xi U18 904 69 = Xi T17 904 69 := (show Xi U18 904 69 = Xi T17 904 69 from by rw [eU18]; exact Xi_ne (by omega))
    have w210 : Xi U18 904 70 = Xi U11 904 70 := (show Xi U18 904 70 = Xi T17 904 70 from by rw [eU18]; exact Xi_ne (by omega)).trans ( (show Xi T17 904 70 = Xi T16 904 70 from w205.x _ _ rfl).trans ( (show Xi T16 904 70 = Xi T15 904 70 from w189.x _ _ rfl).trans ( (show Xi T15 904 70 = Xi U14 904 70 from w176.x _ _ rfl).trans ( (show Xi U14 904 70 = Xi U13 904 70 from by rw [eU14]; exact Xi_ne (by omega)).trans ( (show Xi U13 904 70 = Xi U12 904 70 from by rw [eU13]; exact Xi_ne (by omega)).trans ((show Xi U12 904 70 = Xi U11 904 70 from by rw [eU12]; exact Xi_ne (by omega))))))))
    have w211 : Xi U18 904 73 = Xi T10 904 73 := (show Xi U18 904 73 = Xi T17 904 73 from by rw [eU18]; exact Xi_ne (by omega)).trans ( (show Xi T17 904 73 = Xi T16 904 73 from w205.x _ _ rfl).trans ( (show Xi T16 904 73 = Xi T15 904 73 from w189.x _ _ rfl).trans ( (show Xi T15 904 73 = Xi U14 904 73 from w176.x _ _ rfl).trans ( (show Xi U14 904 73 = Xi U13 904 73 from by rw [eU14]; exact Xi_ne (by omega)).trans ( (show Xi U13 904 73 = Xi U12 904 73 from by rw [eU13]; exact Xi_ne (by omega)).trans ( (show Xi U12 904 73 = Xi U11 904 73 from by rw [eU12]; exact Xi_ne (by omega)).trans ((show Xi U11 904 73 = Xi T10 904 73 from by rw [eU11]; exact Xi_ne (by omega)))))))))
    have w212 : Xi U18 904 74 = Xi T10 904 74 := (show Xi U18 904 74 = Xi T17 904 74 from by rw [eU18]; exact Xi_ne (by omega)).trans ( (show Xi T17 904 74 = Xi T16 904 74 from w205.x _ _ rfl).trans ( (show Xi T16 904 74 = Xi T15 904 74 from w189.x _ _ rfl).trans ( (show Xi T15 904 74 = Xi U14 904 74 from w176.x _ _ rfl).trans ( (show Xi U14 904 74 = Xi U13 904 74 from by rw [eU14]; exact Xi_ne (by omega)).trans ( (show Xi U13 904 74 = Xi U12 904 74 from by rw [eU13]; exact Xi_ne (by omega)).trans ( (show Xi U12 904 74 = Xi U11 904 74 from by rw [eU12]; exact Xi_ne (by omega)).trans ((show Xi U11 904 74 = Xi T10 904 74 from by rw [eU11]; exact Xi_ne (by omega)))))))))
    have w213 : Xi U18 904 75 = Xi T10 904 75 := (show Xi U18 904 75 = Xi T17 904 75 from by rw [eU18]; exact Xi_ne (by omega)).trans ( (show Xi T17 904 75 = Xi T16 904 75 from w205.x _ _ rfl).trans ( (show Xi T16 904 75 = Xi T15 904 75 from w189.x _ _ rfl).trans ( (show Xi T15 904 75 = Xi U14 904 75 from w176.x _ _ rfl).trans ( (show Xi U14 904 75 = Xi U13 904 75 from by rw [eU14]; exact Xi_ne (by omega)).trans ( (show Xi U13 904 75 = Xi U12 904 75 from by rw [eU13]; exact Xi_ne (by omega)).trans ( (show Xi U12 904 75 = Xi U11 904 75 from by rw [eU12]; exact Xi_ne (by omega)).trans ((show Xi U11 904 75 = Xi T10 904 75 from by rw [eU11]; exact Xi_ne (by omega)))))))))
    have w214 : Xi U18 904 76 = Xi T10 904 76 := (show Xi U18 904 76 = Xi T17 904 76 from by rw [eU18]; exact Xi_ne (by omega)).trans ( (show Xi T17 904 76 = Xi T16 904 76 from w205.x _ _ rfl).trans ( (show Xi T16 904 76 = Xi T15 904 76 from w189.x _ _ rfl).trans ( (show Xi T15 904 76 = Xi U14 904 76 from w176.x _ _ rfl).trans ( (show Xi U14 904 76 = Xi U13 904 76 from by rw [eU14]; exact Xi_ne (by omega)).trans ( (show Xi U13 904 76 = Xi U12 904 76 from by rw [eU13]; exact Xi_ne (by omega)).trans ( (show Xi U12 904 76 = Xi U11 904 76 from by rw [eU12]; exact Xi_ne (by omega)).trans ((show Xi U11 904 76 = Xi T10 904 76 from by rw [eU11]; exact Xi_ne (by omega)))))))))
    have w215 : Xi U18 904 8 = Xi T17 904 8 := (show Xi U18 904 8 = Xi T17 904 8 from by rw [eU18]; exact Xi_ne (by omega))
    have w216 : Xi U18 904 93 = Xi T10 904 93 := (show Xi U18 904 93 = Xi T17 904 93 from by rw [eU18]; exact Xi_ne (by omega)).trans ( (show Xi T17 904 93 = Xi T16 904 93 from w205.x _ _ rfl).trans ( (show Xi T16 904 93 = Xi T15 904 93 from w189.x _ _ rfl).trans ( (show Xi T15 904 93 = Xi U14 904 93 from w176.x _ _ rfl).trans ( (show Xi U14 904 93 = Xi U13 904 93 from by rw [eU14]; exact Xi_ne (by omega)).trans ( (show Xi U13 904 93 = Xi U12 904 93 from by rw [eU13]; exact Xi_ne (by omega)).trans ( (show Xi U12 904 93 = Xi U11 904 93 from by rw [eU12]; exact Xi_ne (by omega)).trans ((show Xi U11 904 93 = Xi T10 904 93 from by rw [eU11]; exact Xi_ne (by omega)))))))))
    exact ⟨hHU18, hFU18, rfl, (by first | (have t := K94; rw [gRe_10 ⟨by omega, by omega⟩, if_pos (by omega), if_pos (by omega)]; exact cu_1 (by omega) (by omega)) | (have t := K105; rw [gRe_10 ⟨by omega, by omega⟩, if_pos (by omega), if_neg (by omega)]; exact (cu_go gp102 (by omega) (by omega)).trans (cu_eq (by omega) (by omega) (by omega)).symm) | (have t := K191; rw [gRe_11 ⟨by omega, by omega⟩, if_pos (by omega), cu_go gp177 (by omega) (by omega), gp183, gp188]; exact (cu_eq (by omega) (by omega) (by omega)).symm) | (have t := K257; rw [gRe_12 b204 c204 a204, cu_go gp222 (by omega) (by omega)]; exact cu_br (fun b => by rw [if_neg (by omega)]; exact (cu_ch0 (cu_go gp246 (by omega) (by omega)) gp254).trans (cu_eq (by omega) (by omega) (by omega)).symm) (fun b => absurd (by omega) b)) | (have t := K328; rw [gRe_15 (by omega)]; exact (cu_go gp325 (by omega) (by omega)).trans (cu_eq (by omega) (by omega) (by omega)).symm) | (have t := K383; rw [gRe_f (by omega), cu_go gp341 (by omega) (by omega)]; exact cu_br (fun b => by rw [if_pos (by omega)]; exact (cu_go gp380 (by omega) (by omega)).trans (cu_eq (by omega) (by omega) (by omega)).symm) (fun b => absurd (by omega) b)) | (have t := K454; rw [gRe_13 a435 b435 c435 d435]; exact (cu_ch0 (cu_go gp443 (by omega) (by omega)) gp451).trans (cu_eq (by omega) (by omega) (by omega)).symm) | exact GZ.o (by omega) | exact (FU_e U413 (by omega) (fun b k => gRn_0 (gBt_zz (m421 b) (by omega)))).trans (cu_eqb (by omega) (fun b => n421.o (by omega)) (by omega)).symm | exact FU_b U413 (by omega)), (by omega), (by omega), (by first | (have t := K94; exact (fun b => rsr_10 ⟨by omega, by omega⟩ (by omega) (Or.inr (Or.inl ⟨by omega, by omega, by omega⟩)))) | (have t := K105; exact (fun b => rsr_10 ⟨by omega, by omega⟩ (by omega) (Or.inr (Or.inr ⟨by omega, by omega, by omega⟩)))) | (have t := K191; exact (fun b => rsr_11 ⟨by omega, by omega⟩ (by omega) (Or.inr ⟨by omega, by omega⟩))) | (have t := K257; exact (fun b => by have t := t222.o (by omega); exact rsr_12 a204 b204 c204 (by omega) (by omega) (Or.inr ⟨by omega, by rw [t]; omega, by omega⟩))) | (have t := K328; exact (fun b => rsr_15 (by omega) (by omega) (by omega))) | (have t := K383; exact (fun b => by have t := t341.o (by omega); exact rsr_f (by omega) (by omega) (Or.inl ⟨by omega, by omega, by omega⟩))) | (have t := K454; exact (fun b => rsr_13 a435 b435 c435 d435 (by omega) (by omega) (by omega))) | exact RS.o (by omega) | exact (fun b => rsr_f (by omega) (by omega) (Or.inr (Or.inl ⟨s413.o, by omega⟩)))), (by omega), (by omega), (by first | assumption | exact (JR_FR (FR_e eU18) rfl rfl rfl (by assumption : JR T17 _ _)))⟩
set_option maxRecDepth 100000 in
theorem c204_mo_rest__p {S : sS} (hH : RI S) (fs : Nat) (ns : Nat) (hvl : VLR S fs ns) (hJR : JR S fs ns) (hb : Xi S 904 65 = 0) (d : Nat) (fu : Nat) : ∀  (T19 : sS) (_ : RI T19) (_ : FR md_mo_rest__p S T19), (Xi T19 904 8 = Xi S 904 8) → (Xi T19 904 65 = 0) → (Xi T19 904 69 = Xi S 904 69) → (Xi T19 904 73 = 0) → (Xi T19 904 75 = Xi S 904 75) → (Xi T19 904 76 = Xi S 904 76) → (JR T19 fs ns) → (art7 (tR S fs ns (Xi S 904 8 - fs))) → (¬ (tR S fs ns (Xi S 904 8 - fs) = 0 ∧ tR S fs ns (Xi S 904 8 - fs + 1) = 18)) → (¬ (tR S fs ns (Xi S 904 8 - fs) = 1 ∧ tR S fs ns (Xi S 904 8 - fs + 1) = 27)) → Pl fu lay0 (d + 3) m_mo_rest 204 [(0, .ref 904)] [] T19 (Q_mo_rest__p S fs ns) := by
  have hF : FR md_mo_rest__p S S := FR.rf
  have w1 : -2147483648 ≤ Xi S 904 65 ∧ Xi S 904 65 ≤ 2147483647 := Xi_rgI
  have w2 : -2147483648 ≤ Xi S 904 66 ∧ Xi S 904 66 ≤ 2147483647 := Xi_rgI
  have w3 : -2147483648 ≤ Xi S 904 69 ∧ Xi S 904 69 ≤ 2147483647 := Xi_rgI
  have w4 : -2147483648 ≤ Xi S 904 70 ∧ Xi S 904 70 ≤ 2147483647 := Xi_rgI
  have w5 : -2147483648 ≤ Xi S 904 73 ∧ Xi S 904 73 ≤ 2147483647 := Xi_rgI
  have w6 : -2147483648 ≤ Xi S 904 74 ∧ Xi S 904 74 ≤ 2147483647 := Xi_rgI
  have w7 : -2147483648 ≤ Xi S 904 75 ∧ Xi S 904 75 ≤ 2147483647 := Xi_rgI
  have w8 : -2147483648 ≤ Xi S 904 76 ∧ Xi S 904 76 ≤ 2147483647 := Xi_rgI
  have w9 : -2147483648 ≤ Xi S 904 78 ∧ Xi S 904 78 ≤ 2147483647 := Xi_rgI
  have w10 : -2147483648 ≤ Xi S 904 8 ∧ Xi S 904 8 ≤ 2147483647 := Xi_rgI
  have w11 : -2147483648 ≤ Xi S 904 93 ∧ Xi S 904 93 ≤ 2147483647 := Xi_rgI
  have : Xi S 904 65 = 0 → (fs : Int) ≤ Xi S 904 8 ∧ Xi S 904 8 ≤ fs + ns := JR.i (by assumption)
  have hbd := hvl.2.2.2
  intro T19 hHT19 hFT19 w217 w218 w219 w220 w221 w222 J204 a204 b204 c204
  have w223 : -2147483648 ≤ Xi T19 904 65 ∧ Xi T19 904 65 ≤ 2147483647 := Xi_rgI
  have w224 : -2147483648 ≤ Xi T19 904 66 ∧ Xi T19 904 66 ≤ 2147483647 := Xi_rgI
  have w225 : -2147483648 ≤ Xi T19 904 69 ∧ Xi T19 904 69 ≤ 2147483647 := Xi_rgI
  have w226 : -2147483648 ≤ Xi T19 904 70 ∧ Xi T19 904 70 ≤ 2147483647 := Xi_rgI
  have w227 : -2147483648 ≤ Xi T19 904 73 ∧ Xi T19 904 73 ≤ 2147483647 := Xi_rgI
  have w228 : -2147483648 ≤ Xi T19 904 74 ∧ Xi T19 904 74 ≤ 2147483647 := Xi_rgI
  have w229 : -2147483648 ≤ Xi T19 904 75 ∧ Xi T19 904 75 ≤ 2147483647 := Xi_rgI
  have w230 : -2147483648 ≤ Xi T19 904 76 ∧ Xi T19 904 76 ≤ 2147483647 := Xi_rgI
  have w231 : -2147483648 ≤ Xi T19 904 78 ∧ Xi T19 904 78 ≤ 2147483647 := Xi_rgI
  have w232 : -2147483648 ≤ Xi T19 904 8 ∧ Xi T19 904 8 ≤ 2147483647 := Xi_rgI
  have w233 : -2147483648 ≤ Xi T19 904 93 ∧ Xi T19 904 93 ≤ 2147483647 := Xi_rgI
  refine y_aload_n rfl rfl ?_
  refine y_bipush rfl rfl ?_
  refine y_pfi rfl rfl rfl rfl ?_
  obtain ⟨U20, eU20⟩ : ∃ T : sS, T = uI T19 904 70 (Int32.ofInt 12) := ⟨_, rfl⟩
  rw [← eU20]
  have hHU20 : RI U20 := by rw [eU20]; exact RI_w hHT19
  have hFU20 : FR md_mo_rest__p S U20 := by rw [eU20]; exact FR.wI hFT19 (mdf_i (r := (904, 905, 70, 71)) (List.mem_of_getElem? (i := 4) rfl) (inR_i (by omega) (by omega) (by omega) (by omega)))
  have w234 : Xi U20 904 70 = 12 := by rw [eU20]; exact Xi_same (by unfold rg; omega)
  refine y_aload_n rfl rfl ?_
  refine y_dup rfl rfl ?_
  refine y_gfi rfl rfl rfl rfl rfl ?_
  have w235 : (Xi U20 904 8) = (Xi T19 904 8) := (show Xi U20 904 8 = Xi T19 904 8 from by rw [eU20]; exact Xi_ne (by omega))
  rw [w235]
  refine y_iconst rfl ?_
  refine y_iadd rfl ?_
  refine y_pfi rfl rfl rfl rfl ?_
  obtain ⟨U21, eU21⟩ : ∃ T : sS, T = uI U20 904 8 (Int32.ofInt ((Xi T19 904 8) + 1)) := ⟨_, rfl⟩
  rw [← eU21]
  have hHU21 : RI U21 := by rw [eU21]; exact RI_w hHU20
  have hFU21 : FR md_mo_rest__p S U21 := by rw [eU21]; exact FR.wI hFU20 (mdf_i (r := (904, 905, 8, 9)) (List.mem_of_getElem? (i := 0) rfl) (inR_i (by omega) (by omega) (by omega) (by omega)))
  have w236 : Xi U21 904 8 = ((Xi T19 904 8) + 1) := by rw [eU21]; exact Xi_same (by unfold rg; omega)
  have b217_ : Xi U21 904 65 = Xi U20 904 65 := (by rw [eU21, Xi_ne (by omega)]); have J217 : JR U21 fs ns := jr_up (JR_FR (FR_e eU20) rfl rfl rfl (by assumption : JR T19 _ _)) (VLR_FR hFU20 rfl (by assumption : VLR S _ _)) eU21 (by omega) (fun b => by rw [FRR hFU20 rfl, show Xi U20 904 8 - (fs : Int) = Xi S 904 8 - fs by omega]; omega)
  have : Xi U21 904 65 = 0 → (fs : Int) ≤ Xi U21 904 8 ∧ Xi U21 904 8 ≤ fs + ns := JR.i (by assumption)
  refine y_aload_n rfl rfl ?_
  refine y_aload_n rfl rfl ?_
  have w237 : Xi U21 904 65 = Xi T19 904 65 := (show Xi U21 904 65 = Xi U20 904 65 from by rw [eU21]; exact Xi_ne (by omega)).trans ((show Xi U20 904 65 = Xi T19 904 65 from by rw [eU20]; exact Xi_ne (by omega)))
  have w238 : Xi U21 904 66 = Xi T19 904 66 := (show Xi U21 904 66 = Xi U20 904 66 from by rw [eU21]; exact Xi_ne (by omega)).trans ((show Xi U20 904 66 = Xi T19 904 66 from by rw [eU20]; exact Xi_ne (by omega)))
  have w239 : Xi U21 904 69 = Xi T19 904 69 := (show Xi U21 904 69 = Xi U20 904 69 from by rw [eU21]; exact Xi_ne (by omega)).trans ((show Xi U20 904 69 = Xi T19 904 69 from by rw [eU20]; exact Xi_ne (by omega)))
  have w240 : Xi U21 904 70 = Xi U20 904 70 := (show Xi U21 904 70 = Xi U20 904 70 from by rw [eU21]; exact Xi_ne (by omega))
  have w241 : Xi U21 904 73 = Xi T19 904 73 := (show Xi U21 904 73 = Xi U20 904 73 from by rw [eU21]; exact Xi_ne (by omega)).trans ((show Xi U20 904 73 = Xi T19 904 73 from by rw [eU20]; exact Xi_ne (by omega)))
  have w242 : Xi U21 904 74 = Xi T19 904 74 := (show Xi U21 904 74 = Xi U20 904 74 from by rw [eU21]; exact Xi_ne (by omega)).trans ((show Xi U20 904 74 = Xi T19 904 74 from by rw [eU20]; exact Xi_ne (by omega)))
  have w243 : Xi U21 904 75 = Xi T19 904 75 := (show Xi U21 904 75 = Xi U20 904 75 from by rw [eU21]; exact Xi_ne (by omega)).trans ((show Xi U20 904 75 = Xi T19 904 75 from by rw [eU20]; exact Xi_ne (by omega)))
  have w244 : Xi U21 904 76 = Xi T19 904 76 := (show Xi U21 904 76 = Xi U20 904 76 from by rw [eU21]; exact Xi_ne (by omega)).trans ((show Xi U20 904 76 = Xi T19 904 76 from by rw [eU20]; exact Xi_ne (by omega)))
  have w245 : Xi U21 904 78 = Xi T19 904 78 := (show Xi U21 904 78 = Xi U20 904 78 from by rw [eU21]; exact Xi_ne (by omega)).trans ((show Xi U20 904 78 = Xi T19 904 78 from by rw [eU20]; exact Xi_ne (by omega)))
  have w246 : Xi U21 904 93 = Xi T19 904 93 := (show Xi U21 904 93 = Xi U20 904 93 from by rw [eU21]; exact Xi_ne (by omega)).trans ((show Xi U20 904 93 = Xi T19 904 93 from by rw [eU20]; exact Xi_ne (by omega)))
  refine y_callV rfl rfl rfl (t_mo_run__p hHU21 fs ns (by first | assumption | exact (VLR_FR hFU21 rfl (by assumption : VLR S _ _))) (by first | assumption | exact (by assumption : JR U21 _ _)) _) ?_
  rintro _ T22 ⟨hHT22, w254, z253, rfl, w253, w247, w248, w249, w250, w251, w252⟩
  have hFT22 : FR md_mo_rest__p S T22 := FR.tr hFU21 w254 rfl
  show Pl _ _ _ _ _ _ [iv z253, .ref 904] _ _
  have : Xi T22 904 65 = 0 → (fs : Int) ≤ Xi T22 904 8 ∧ Xi T22 904 8 ≤ fs + ns := JR.i (by assumption)
  have gp222 := w247
  try rw [FRR hFU21 rfl] at gp222
  clear w247
  have t222 : Hid (Xi T22 904 65 = 0 → (tR S fs ns) (re7 (tR S fs ns) (Xi S 904 8 - fs + 1)) = (tR S fs ns) (Xi T22 904 8 - fs)) := fun b => by rw [gR_at (a := Xi S 904 8 - fs + 1) (cu_go gp222 (by omega) (by omega)) b]
  refine y_pfi rfl rfl rfl rfl ?_
  obtain ⟨U23, eU23⟩ : ∃ T : sS, T = uI T22 904 78 (Int32.ofInt z253) := ⟨_, rfl⟩
  rw [← eU23]
  have hHU23 : RI U23 := by rw [eU23]; exact RI_w hHT22
  have hFU23 : FR md_mo_rest__p S U23 := by rw [eU23]; exact FR.wI hFT22 (mdf_i (r := (904, 905, 78, 79)) (List.mem_of_getElem? (i := 9) rfl) (inR_i (by omega) (by omega) (by omega) (by omega)))
  have w255 : Xi U23 904 78 = z253 := by rw [eU23]; exact Xi_same (by unfold rg; omega)
  refine y_aload_n rfl rfl ?_
  refine y_bipush rfl rfl ?_
  have w256 : Xi U23 904 65 = Xi T22 904 65 := (show Xi U23 904 65 = Xi T22 904 65 from by rw [eU23]; exact Xi_ne (by omega))
  have w257 : Xi U23 904 66 = Xi T22 904 66 := (show Xi U23 904 66 = Xi T22 904 66 from by rw [eU23]; exact Xi_ne (by omega))
  have w258 : Xi U23 904 69 = Xi T22 904 69 := (show Xi U23 904 69 = Xi T22 904 69 from by rw [eU23]; exact Xi_ne (by omega))
  have w259 : Xi U23 904 70 = Xi U20 904 70 := (show Xi U23 904 70 = Xi T22 904 70 from by rw [eU23]; exact Xi_ne (by omega)).trans ( (show Xi T22 904 70 = Xi U21 904 70 from w254.x _ _ rfl).trans ((show Xi U21 904 70 = Xi U20 904 70 from by rw [eU21]; exact Xi_ne (by omega))))
  have w260 : Xi U23 904 73 = Xi T19 904 73 := (show Xi U23 904 73 = Xi T22 904 73 from by rw [eU23]; exact Xi_ne (by omega)).trans ( (show Xi T22 904 73 = Xi U21 904 73 from w254.x _ _ rfl).trans ( (show Xi U21 904 73 = Xi U20 904 73 from by rw [eU21]; exact Xi_ne (by omega)).trans ((show Xi U20 904 73 = Xi T19 904 73 from by rw [eU20]; exact Xi_ne (by omega)))))
  have w261 : Xi U23 904 74 = Xi T19 904 74 := (show Xi U23 904 74 = Xi T22 904 74 from by rw [eU23]; exact Xi_ne (by omega)).trans ( (show Xi T22 904 74 = Xi U21 904 74 from w254.x _ _ rfl).trans ( (show Xi U21 904 74 = Xi U20 904 74 from by rw [eU21]; exact Xi_ne (by omega)).trans ((show Xi U20 904 74 = Xi T19 904 74 from by rw [eU20]; exact Xi_ne (by omega)))))
  have w262 : Xi U23 904 75 = Xi T19 904 75 := (show Xi U23 904 75 = Xi T22 904 75 from by rw [eU23]; exact Xi_ne (by omega)).trans ( (show Xi T22 904 75 = Xi U21 904 75 from w254.x _ _ rfl).trans ( (show Xi U21 904 75 = Xi U20 904 75 from by rw [eU21]; exact Xi_ne (by omega)).trans ((show Xi U20 904 75 = Xi T19 904 75 from by rw [eU20]; exact Xi_ne (by omega)))))
  have w263 : Xi U23 904 76 = Xi T19 904 76 := (show Xi U23 904 76 = Xi T22 904 76 from by rw [eU23]; exact Xi_ne (by omega)).trans ( (show Xi T22 904 76 = Xi U21 904 76 from w254.x _ _ rfl).trans ( (show Xi U21 904 76 = Xi U20 904 76 from by rw [eU21]; exact Xi_ne (by omega)).trans ((show Xi U20 904 76 = Xi T19 904 76 from by rw [eU20]; exact Xi_ne (by omega)))))
  have w264 : Xi U23 904 8 = Xi T22 904 8 := (show Xi U23 904 8 = Xi T22 904 8 from by rw [eU23]; exact Xi_ne (by omega))
  have w265 : Xi U23 904 93 = Xi T19 904 93 := (show Xi U23 904 93 = Xi T22 904 93 from by rw [eU23]; exact Xi_ne (by omega)).trans ( (show Xi T22 904 93 = Xi U21 904 93 from w254.x _ _ rfl).trans ( (show Xi U21 904 93 = Xi U20 904 93 from by rw [eU21]; exact Xi_ne (by omega)).trans ((show Xi U20 904 93 = Xi T19 904 93 from by rw [eU20]; exact Xi_ne (by omega)))))
  refine y_callV rfl rfl rfl (t_mo_isNext__p hHU23 fs ns 46 ⟨by omega, by omega⟩ (by first | assumption | exact (VLR_FR hFU23 rfl (by assumption : VLR S _ _))) (by first | assumption | exact JR.i (by first | assumption | exact (JR_FR (FR_e eU23) rfl rfl rfl (by assumption : JR T22 _ _)))) (rfl) _) ?_
  rintro _ _ ⟨rfl, z267, rfl, w267, w266⟩
  show Pl _ _ _ _ _ _ [iv z267] _ _
  have gb231 := w266
  try rw [FRR hFU23 rfl] at gb231
  try rw [show Xi U23 904 8 = Xi T22 904 8 by omega] at gb231
  try rw [show un7 46 = 103 from rfl] at gb231
  clear w266
  have GZ : Hid ((z267 = 1 ∨ Xi U23 904 65 ≠ 0) → gRe (tR S fs ns) (Xi S 904 8 - fs) = cu U23 fs) := fun q => by rw [gRe_12 b204 c204 a204, cu_go gp222 (by omega) (by omega)]; exact cu_br (fun b => by rw [if_pos (by omega)]; exact cu_1 (by omega) (by omega)) (fun b => cu_eq (by omega) (by omega) (by omega))
  have RS : Hid ((z267 = 1 ∨ Xi U23 904 65 ≠ 0) → Xi U23 904 65 = 0 → RSR U23 (tR S fs ns) (Xi S 904 8 - fs) (Xi S 904 69)) := fun q b => by have t := t222.o (by omega); exact rsr_12 a204 b204 c204 (by omega) (by omega) (Or.inl ⟨by omega, by omega⟩)
  refine y_if_ne rfl rfl (by unfold rg; omega) (fun w268 => ?_) (fun w269 => ?_)
  · refine y_return rfl rfl ?_
    exact ⟨hHU23, hFU23, rfl, (by first | (have t := K94; rw [gRe_10 ⟨by omega, by omega⟩, if_pos (by omega), if_pos (by omega)]; exact cu_1 (by omega) (by omega)) | (have t := K105; rw [gRe_10 ⟨by omega, by omega⟩, if_pos (by omega), if_neg (by omega)]; exact (cu_go gp102 (by omega) (by omega)).trans (cu_eq (by omega) (by omega) (by omega)).symm) | (have t := K191; rw [gRe_11 ⟨by omega, by omega⟩, if_pos (by omega), cu_go gp177 (by omega) (by omega), gp183, gp188]; exact (cu_eq (by omega) (by omega) (by omega)).symm) | (have t := K257; rw [gRe_12 b204 c204 a204, cu_go gp222 (by omega) (by omega)]; exact cu_br (fun b => by rw [if_neg (by omega)]; exact (cu_ch0 (cu_go gp246 (by omega) (by omega)) gp254).trans (cu_eq (by omega) (by omega) (by omega)).symm) (fun b => absurd (by omega) b)) | (have t := K328; rw [gRe_15 (by omega)]; exact (cu_go gp325 (by omega) (by omega)).trans (cu_eq (by omega) (by omega) (by omega)).symm) | (have t := K383; rw [gRe_f (by omega), cu_go gp341 (by omega) (by omega)]; exact cu_br (fun b => by rw [if_pos (by omega)]; exact (cu_go gp380 (by omega) (by omega)).trans (cu_eq (by omega) (by omega) (by omega)).symm) (fun b => absurd (by omega) b)) | (have t := K454; rw [gRe_13 a435 b435 c435 d435]; exact (cu_ch0 (cu_go gp443 (by omega) (by omega)) gp451).trans (cu_eq (by omega) (by omega) (by omega)).symm) | exact GZ.o (by omega) | exact (FU_e U413 (by omega) (fun b k => gRn_0 (gBt_zz (m421 b) (by omega)))).trans (cu_eqb (by omega) (fun b => n421.o (by omega)) (by omega)).symm | exact FU_b U413 (by omega)), (by omega), (by omega), (by first | (have t := K94; exact (fun b => rsr_10 ⟨by omega, by omega⟩ (by omega) (Or.inr (Or.inl ⟨by omega, by omega, by omega⟩)))) | (have t := K105; exact (fun b => rsr_10 ⟨by omega, by omega⟩ (by omega) (Or.inr (Or.inr ⟨by omega, by omega, by omega⟩)))) | (have t := K191; exact (fun b => rsr_11 ⟨by omega, by omega⟩ (by omega) (Or.inr ⟨by omega, by omega⟩))) | (have t := K257; exact (fun b => by have t := t222.o (by omega); exact rsr_12 a204 b204 c204 (by omega) (by omega) (Or.inr ⟨by omega, by rw [t]; omega, by omega⟩))) | (have t := K328; exact (fun b => rsr_15 (by omega) (by omega) (by omega))) | (have t := K383; exact (fun b => by have t := t341.o (by omega); exact rsr_f (by omega) (by omega) (Or.inl ⟨by omega, by omega, by omega⟩))) | (have t := K454; exact (fun b => rsr_13 a435 b435 c435 d435 (by omega) (by omega) (by omega))) | exact RS.o (by omega) | exact (fun b => rsr_f (by omega) (by omega) (Or.inr (Or.inl ⟨s413.o, by omega⟩)))), (by omega), (by omega), (by first | assumption | exact (JR_FR (FR_e eU23) rfl rfl rfl (by assumption : JR T22 _ _)))⟩
  · refine y_aload_n rfl rfl ?_
    refine y_gfi rfl rfl rfl rfl rfl ?_
    have w280 : -2147483648 ≤ (Xi U23 904 65) ∧ (Xi U23 904 65) ≤ 2147483647 := Xi_rgI
    refine y_if_ne rfl rfl (by unfold rg; omega) (fun w281 => ?_) (fun w282 => ?_)
    · refine y_return rfl rfl ?_
      exact ⟨hHU23, hFU23, rfl, (by first | (have t := K94; rw [gRe_10 ⟨by omega, by omega⟩, if_pos (by omega), if_pos (by omega)]; exact cu_1 (by omega) (by omega)) | (have t := K105; rw [gRe_10 ⟨by omega, by omega⟩, if_pos (by omega), if_neg (by omega)]; exact (cu_go gp102 (by omega) (by omega)).trans (cu_eq (by omega) (by omega) (by omega)).symm) | (have t := K191; rw [gRe_11 ⟨by omega, by omega⟩, if_pos (by omega), cu_go gp177 (by omega) (by omega), gp183, gp188]; exact (cu_eq (by omega) (by omega) (by omega)).symm) | (have t := K257; rw [gRe_12 b204 c204 a204, cu_go gp222 (by omega) (by omega)]; exact cu_br (fun b => by rw [if_neg (by omega)]; exact (cu_ch0 (cu_go gp246 (by omega) (by omega)) gp254).trans (cu_eq (by omega) (by omega) (by omega)).symm) (fun b => absurd (by omega) b)) | (have t := K328; rw [gRe_15 (by omega)]; exact (cu_go gp325 (by omega) (by omega)).trans (cu_eq (by omega) (by omega) (by omega)).symm) | (have t := K383; rw [gRe_f (by omega), cu_go gp341 (by omega) (by omega)]; exact cu_br (fun b => by rw [if_pos (by omega)]; exact (cu_go gp380 (by omega) (by omega)).trans (cu_eq (by omega) (by omega) (by omega)).symm) (fun b => absurd (by omega) b)) | (have t := K454; rw [gRe_13 a435 b435 c435 d435]; exact (cu_ch0 (cu_go gp443 (by omega) (by omega)) gp451).trans (cu_eq (by omega) (by omega) (by omega)).symm) | exact GZ.o (by omega) | exact (FU_e U413 (by omega) (fun b k => gRn_0 (gBt_zz (m421 b) (by omega)))).trans (cu_eqb (by omega) (fun b => n421.o (by omega)) (by omega)).symm | exact FU_b U413 (by omega)), (by omega), (by omega), (by first | (have t := K94; exact (fun b => rsr_10 ⟨by omega, by omega⟩ (by omega) (Or.inr (Or.inl ⟨by omega, by omega, by omega⟩)))) | (have t := K105; exact (fun b => rsr_10 ⟨by omega, by omega⟩ (by omega) (Or.inr (Or.inr ⟨by omega, by omega, by omega⟩)))) | (have t := K191; exact (fun b => rsr_11 ⟨by omega, by omega⟩ (by omega) (Or.inr ⟨by omega, by omega⟩))) | (have t := K257; exact (fun b => by have t := t222.o (by omega); exact rsr_12 a204 b204 c204 (by omega) (by omega) (Or.inr ⟨by omega, by rw [t]; omega, by omega⟩))) | (have t := K328; exact (fun b => rsr_15 (by omega) (by omega) (by omega))) | (have t := K383; exact (fun b => by have t := t341.o (by omega); exact rsr_f (by omega) (by omega) (Or.inl ⟨by omega, by omega, by omega⟩))) | (have t := K454; exact (fun b => rsr_13 a435 b435 c435 d435 (by omega) (by omega) (by omega))) | exact RS.o (by omega) | exact (fun b => rsr_f (by omega) (by omega) (Or.inr (Or.inl ⟨s413.o, by omega⟩)))), (by omega), (by omega), (by first | assumption | exact (JR_FR (FR_e eU23) rfl rfl rfl (by assumption : JR T22 _ _)))⟩
    · refine y_aload_n rfl rfl ?_
      refine y_aload_n rfl rfl ?_
      refine y_callV rfl rfl rfl (t_mo_placing__p hHU23 fs ns (by first | assumption | exact (VLR_FR hFU23 rfl (by assumption : VLR S _ _))) (by first | assumption | exact (JR_FR (FR_e eU23) rfl rfl rfl (by assumption : JR T22 _ _))) _) ?_
      rintro _ T24 ⟨hHT24, w307, z306, rfl, w306, w303, w246_, w304, w305⟩
      have hFT24 : FR md_mo_rest__p S T24 := FR.tr hFU23 w307 rfl
      show Pl _ _ _ _ _ _ [iv z306, .ref 904] _ _
      have : Xi T24 904 65 = 0 → (fs : Int) ≤ Xi T24 904 8 ∧ Xi T24 904 8 ≤ fs + ns := JR.i (by assumption)
      have gp246 := w303
      try rw [FRR hFU23 rfl] at gp246
      try rw [show cu U23 fs = cu T22 fs from cu_eq (by omega) (by omega) (by omega)] at gp246
      clear w303
      have w246 := w246_
      rw [FRR hFU23 rfl, show Xi U23 904 8 = Xi T22 904 8 by omega] at w246
      clear w246_
      refine y_pfi rfl rfl rfl rfl ?_
      obtain ⟨U25, eU25⟩ : ∃ T : sS, T = uI T24 904 73 (Int32.ofInt z306) := ⟨_, rfl⟩
      rw [← eU25]
      have hHU25 : RI U25 := by rw [eU25]; exact RI_w hHT24
      have hFU25 : FR md_mo_rest__p S U25 := by rw [eU25]; exact FR.wI hFT24 (mdf_i (r := (904, 905, 73, 74)) (List.mem_of_getElem? (i := 5) rfl) (inR_i (by omega) (by omega) (by omega) (by omega)))
      have w308 : Xi U25 904 73 = z306 := by rw [eU25]; exact Xi_same (by unfold rg; omega)
      refine y_aload_n rfl rfl ?_
      refine y_aload_n rfl rfl ?_
      have w309 : Xi U25 904 65 = Xi T24 904 65 := (show Xi U25 904 65 = Xi T24 904 65 from by rw [eU25]; exact Xi_ne (by omega))
      have w310 : Xi U25 904 66 = Xi T24 904 66 := (show Xi U25 904 66 = Xi T24 904 66 from by rw [eU25]; exact Xi_ne (by omega))
      have w311 : Xi U25 904 69 = Xi T22 904 69 := (show Xi U25 904 69 = Xi T24 904 69 from by rw [eU25]; exact Xi_ne (by omega)).trans ( (show Xi T24 904 69 = Xi U23 904 69 from w307.x _ _ rfl).trans ((show Xi U23 904 69 = Xi T22 904 69 from by rw [eU23]; exact Xi_ne (by omega))))
      have w312 : Xi U25 904 70 = Xi U20 904 70 := (show Xi U25 904 70 = Xi T24 904 70 from by rw [eU25]; exact Xi_ne (by omega)).trans ( (show Xi T24 904 70 = Xi U23 904 70 from w307.x _ _ rfl).trans ( (show Xi U23 904 70 = Xi T22 904 70 from by rw [eU23]; exact Xi_ne (by omega)).trans ( (show Xi T22 904 70 = Xi U21 904 70 from w254.x _ _ rfl).trans ((show Xi U21 904 70 = Xi U20 904 70 from by rw [eU21]; exact Xi_ne (by omega))))))
      have w313 : Xi U25 904 74 = Xi T19 904 74 := (show Xi U25 904 74 = Xi T24 904 74 from by rw [eU25]; exact Xi_ne (by omega)).trans ( (show Xi T24 904 74 = Xi U23 904 74 from w307.x _ _ rfl).trans ( (show Xi U23 904 74 = Xi T22 904 74 from by rw [eU23]; exact Xi_ne (by omega)).trans ( (show Xi T22 904 74 = Xi U21 904 74 from w254.x _ _ rfl).trans ( (show Xi U21 904 74 = Xi U20 904 74 from by rw [eU21]; exact Xi_ne (by omega)).trans ((show Xi U20 904 74 = Xi T19 904 74 from by rw [eU20]; exact Xi_ne (by omega)))))))
      have w314 : Xi U25 904 75 = Xi T19 904 75 := (show Xi U25 904 75 = Xi T24 904 75 from by rw [eU25]; exact Xi_ne (by omega)).trans ( (show Xi T24 904 75 = Xi U23 904 75 from w307.x _ _ rfl).trans ( (show Xi U23 904 75 = Xi T22 904 75 from by rw [eU23]; exact Xi_ne (by omega)).trans ( (show Xi T22 904 75 = Xi U21 904 75 from w254.x _ _ rfl).trans ( (show Xi U21 904 75 = Xi U20 904 75 from by rw [eU21]; exact Xi_ne (by omega)).trans ((show Xi U20 904 75 = Xi T19 904 75 from by rw [eU20]; exact Xi_ne (by omega)))))))
      have w315 : Xi U25 904 76 = Xi T19 904 76 := (show Xi U25 904 76 = Xi T24 904 76 from by rw [eU25]; exact Xi_ne (by omega)).trans ( (show Xi T24 904 76 = Xi U23 904 76 from w307.x _ _ rfl).trans ( (show Xi U23 904 76 = Xi T22 904 76 from by rw [eU23]; exact Xi_ne (by omega)).trans ( (show Xi T22 904 76 = Xi U21 904 76 from w254.x _ _ rfl).trans ( (show Xi U21 904 76 = Xi U20 904 76 from by rw [eU21]; exact Xi_ne (by omega)).trans ((show Xi U20 904 76 = Xi T19 904 76 from by rw [eU20]; exact Xi_ne (by omega)))))))
      have w316 : Xi U25 904 78 = Xi U23 904 78 := (show Xi U25 904 78 = Xi T24 904 78 from by rw [eU25]; exact Xi_ne (by omega)).trans ((show Xi T24 904 78 = Xi U23 904 78 from w307.x _ _ rfl))
      have w317 : Xi U25 904 8 = Xi T24 904 8 := (show Xi U25 904 8 = Xi T24 904 8 from by rw [eU25]; exact Xi_ne (by omega))
      have w318 : Xi U25 904 93 = Xi T19 904 93 := (show Xi U25 904 93 = Xi T24 904 93 from by rw [eU25]; exact Xi_ne (by omega)).trans ( (show Xi T24 904 93 = Xi U23 904 93 from w307.x _ _ rfl).trans ( (show Xi U23 904 93 = Xi T22 904 93 from by rw [eU23]; exact Xi_ne (by omega)).trans ( (show Xi T22 904 93 = Xi U21 904 93 from w254.x _ _ rfl).trans ( (show Xi U21 904 93 = Xi U20 904 93 from by rw [eU21]; exact Xi_ne (by omega)).trans ((show Xi U20 904 93 = Xi T19 904 93 from by rw [eU20]; exact Xi_ne (by omega)))))))
      refine y_callV rfl rfl rfl (t_mo_name__p hHU25 fs ns (by first | assumption | exact (VLR_FR hFU25 rfl (by assumption : VLR S _ _))) (by first | assumption | exact (JR_FR (FR_e eU25) rfl rfl rfl (by assumption : JR T24 _ _))) _) ?_
      rintro _ T26 ⟨hHT26, w326, z325, rfl, w325, w319, w320, w321, w322, w323, w324⟩
      have hFT26 : FR md_mo_rest__p S T26 := FR.tr hFU25 w326 rfl
      show Pl _ _ _ _ _ _ [iv z325, .ref 904] _ _
      have : Xi T26 904 65 = 0 → (fs : Int) ≤ Xi T26 904 8 ∧ Xi T26 904 8 ≤ fs + ns := JR.i (by assumption)
      have gp254 := w319
      try rw [FRR hFU25 rfl] at gp254
      try rw [show cu U25 fs = cu T24 fs from cu_eq (by omega) (by omega) (by omega)] at gp254
      clear w319
      refine y_pfi rfl rfl rfl rfl ?_
      obtain ⟨U27, eU27⟩ : ∃ T : sS, T = uI T26 904 74 (Int32.ofInt z325) := ⟨_, rfl⟩
      rw [← eU27]
      have hHU27 : RI U27 := by rw [eU27]; exact RI_w hHT26
      have hFU27 : FR md_mo_rest__p S U27 := by rw [eU27]; exact FR.wI hFT26 (mdf_i (r := (904, 905, 74, 75)) (List.mem_of_getElem? (i := 6) rfl) (inR_i (by omega) (by omega) (by omega) (by omega)))
      have w327 : Xi U27 904 74 = z325 := by rw [eU27]; exact Xi_same (by unfold rg; omega)
      have K257 : True := trivial
      refine y_goto rfl rfl ?_
      refine y_return rfl rfl ?_
      have w328 : Xi U27 904 65 = Xi T26 904 65 := (show Xi U27 904 65 = Xi T26 904 65 from by rw [eU27]; exact Xi_ne (by omega))
      have w329 : Xi U27 904 66 = Xi T26 904 66 := (show Xi U27 904 66 = Xi T26 904 66 from by rw [eU27]; exact Xi_ne (by omega))
      have w330 : Xi U27 904 69 = Xi T26 904 69 := (show Xi U27 904 69 = Xi T26 904 69 from by rw [eU27]; exact Xi_ne (by omega))
      have w331 : Xi U27 904 70 = Xi U20 904 70 := (show Xi U27 904 70 = Xi T26 904 70 from by rw [eU27]; exact Xi_ne (by omega)).trans ( (show Xi T26 904 70 = Xi U25 904 70 from w326.x _ _ rfl).trans ( (show Xi U25 904 70 = Xi T24 904 70 from by rw [eU25]; exact Xi_ne (by omega)).trans ( (show Xi T24 904 70 = Xi U23 904 70 from w307.x _ _ rfl).trans ( (show Xi U23 904 70 = Xi T22 904 70 from by rw [eU23]; exact Xi_ne (by omega)).trans ( (show Xi T22 904 70 = Xi U21 904 70 from w254.x _ _ rfl).trans ((show Xi U21 904 70 = Xi U20 904 70 from by rw [eU21]; exact Xi_ne (by omega))))))))
      have w332 : Xi U27 904 73 = Xi U25 904 73 := (show Xi U27 904 73 = Xi T26 904 73 from by rw [eU27]; exact Xi_ne (by omega)).trans ((show Xi T26 904 73 = Xi U25 904 73 from w326.x _ _ rfl))
      have w333 : Xi U27 904 75 = Xi T19 904 75 := (show Xi U27 904 75 = Xi T26 904 75 from by rw [eU27]; exact Xi_ne (by omega)).trans ( (show Xi T26 904 75 = Xi U25 904 75 from w326.x _ _ rfl).trans ( (show Xi U25 904 75 = Xi T24 904 75 from by rw [eU25]; exact Xi_ne (by omega)).trans ( (show Xi T24 904 75 = Xi U23 904 75 from w307.x _ _ rfl).trans ( (show Xi U23 904 75 = Xi T22 904 75 from by rw [eU23]; exact Xi_ne (by omega)).trans ( (show Xi T22 904 75 = Xi U21 904 75 from w254.x _ _ rfl).trans ( (show Xi U21 904 75 = Xi U20 904 75 from by rw [eU21]; exact Xi_ne (by omega)).trans ((show Xi U20 904 75 = Xi T19 904 75 from by rw [eU20]; exact Xi_ne (by omega)))))))))
      have w334 : Xi U27 904 76 = Xi T19 904 76 := (show Xi U27 904 76 = Xi T26 904 76 from by rw [eU27]; exact Xi_ne (by omega)).trans ( (show Xi T26 904 76 = Xi U25 904 76 from w326.x _ _ rfl).trans ( (show Xi U25 904 76 = Xi T24 904 76 from by rw [eU25]; exact Xi_ne (by omega)).trans ( (show Xi T24 904 76 = Xi U23 904 76 from w307.x _ _ rfl).trans ( (show Xi U23 904 76 = Xi T22 904 76 from by rw [eU23]; exact Xi_ne (by omega)).trans ( (show Xi T22 904 76 = Xi U21 904 76 from w254.x _ _ rfl).trans ( (show Xi U21 904 76 = Xi U20 904 76 from by rw [eU21]; exact Xi_ne (by omega)).trans ((show Xi U20 904 76 = Xi T19 904 76 from by rw [eU20]; exact Xi_ne (by omega)))))))))
      have w335 : Xi U27 904 78 = Xi U23 904 78 := (show Xi U27 904 78 = Xi T26 904 78 from by rw [eU27]; exact Xi_ne (by omega)).trans ( (show Xi T26 904 78 = Xi U25 904 78 from w326.x _ _ rfl).trans ( (show Xi U25 904 78 = Xi T24 904 78 from by rw [eU25]; exact Xi_ne (by omega)).trans ((show Xi T24 904 78 = Xi U23 904 78 from w307.x _ _ rfl))))
      have w336 : Xi U27 904 8 = Xi T26 904 8 := (show Xi U27 904 8 = Xi T26 904 8 from by rw [eU27]; exact Xi_ne (by omega))
      have w337 : Xi U27 904 93 = Xi T19 904 93 := (show Xi U27 904 93 = Xi T26 904 93 from by rw [eU27]; exact Xi_ne (by omega)).trans ( (show Xi T26 904 93 = Xi U25 904 93 from w326.x _ _ rfl).trans ( (show Xi U25 904 93 = Xi T24 904 93 from by rw [eU25]; exact Xi_ne (by omega)).trans ( (show Xi T24 904 93 = Xi U23 904 93 from w307.x _ _ rfl).trans ( (show Xi U23 904 93 = Xi T22 904 93 from by rw [eU23]; exact Xi_ne (by omega)).trans ( (show Xi T22 904 93 = Xi U21 904 93 from w254.x _ _ rfl).trans ( (show Xi U21 904 93 = Xi U20 904 93 from by rw [eU21]; exact Xi_ne (by omega)).trans ((show Xi U20 904 93 = Xi T19 904 93 from by rw [eU20]; exact Xi_ne (by omega)))))))))
      exact ⟨hHU27, hFU27, rfl, (by first | (have t := K94; rw [gRe_10 ⟨by omega, by omega⟩, if_pos (by omega), if_pos (by omega)]; exact cu_1 (by omega) (by omega)) | (have t := K105; rw [gRe_10 ⟨by omega, by omega⟩, if_pos (by omega), if_neg (by omega)]; exact (cu_go gp102 (by omega) (by omega)).trans (cu_eq (by omega) (by omega) (by omega)).symm) | (have t := K191; rw [gRe_11 ⟨by omega, by omega⟩, if_pos (by omega), cu_go gp177 (by omega) (by omega), gp183, gp188]; exact (cu_eq (by omega) (by omega) (by omega)).symm) | (have t := K257; rw [gRe_12 b204 c204 a204, cu_go gp222 (by omega) (by omega)]; exact cu_br (fun b => by rw [if_neg (by omega)]; exact (cu_ch0 (cu_go gp246 (by omega) (by omega)) gp254).trans (cu_eq (by omega) (by omega) (by omega)).symm) (fun b => absurd (by omega) b)) | (have t := K328; rw [gRe_15 (by omega)]; exact (cu_go gp325 (by omega) (by omega)).trans (cu_eq (by omega) (by omega) (by omega)).symm) | (have t := K383; rw [gRe_f (by omega), cu_go gp341 (by omega) (by omega)]; exact cu_br (fun b => by rw [if_pos (by omega)]; exact (cu_go gp380 (by omega) (by omega)).trans (cu_eq (by omega) (by omega) (by omega)).symm) (fun b => absurd (by omega) b)) | (have t := K454; rw [gRe_13 a435 b435 c435 d435]; exact (cu_ch0 (cu_go gp443 (by omega) (by omega)) gp451).trans (cu_eq (by omega) (by omega) (by omega)).symm) | exact GZ.o (by omega) | exact (FU_e U413 (by omega) (fun b k => gRn_0 (gBt_zz (m421 b) (by omega)))).trans (cu_eqb (by omega) (fun b => n421.o (by omega)) (by omega)).symm | exact FU_b U413 (by omega)), (by omega), (by omega), (by first | (have t := K94; exact (fun b => rsr_10 ⟨by omega, by omega⟩ (by omega) (Or.inr (Or.inl ⟨by omega, by omega, by omega⟩)))) | (have t := K105; exact (fun b => rsr_10 ⟨by omega, by omega⟩ (by omega) (Or.inr (Or.inr ⟨by omega, by omega, by omega⟩)))) | (have t := K191; exact (fun b => rsr_11 ⟨by omega, by omega⟩ (by omega) (Or.inr ⟨by omega, by omega⟩))) | (have t := K257; exact (fun b => by have t := t222.o (by omega); exact rsr_12 a204 b204 c204 (by omega) (by omega) (Or.inr ⟨by omega, by rw [t]; omega, by omega⟩))) | (have t := K328; exact (fun b => rsr_15 (by omega) (by omega) (by omega))) | (have t := K383; exact (fun b => by have t := t341.o (by omega); exact rsr_f (by omega) (by omega) (Or.inl ⟨by omega, by omega, by omega⟩))) | (have t := K454; exact (fun b => rsr_13 a435 b435 c435 d435 (by omega) (by omega) (by omega))) | exact RS.o (by omega) | exact (fun b => rsr_f (by omega) (by omega) (Or.inr (Or.inl ⟨s413.o, by omega⟩)))), (by omega), (by omega), (by first | assumption | exact (JR_FR (FR_e eU27) rfl rfl rfl (by assumption : JR T26 _ _)))⟩
set_option maxRecDepth 100000 in
theorem c313_mo_rest__p {S : sS} (hH : RI S) (fs : Nat) (ns : Nat) (hvl : VLR S fs ns) (hJR : JR S fs ns) (hb : Xi S 904 65 = 0) (d : Nat) (fu : Nat) : ∀  (T28 : sS) (_ : RI T28) (_ : FR md_mo_rest__p S T28), (Xi T28 904 8 = Xi S 904 8) → (Xi T28 904 65 = 0) → (Xi T28 904 69 = Xi S 904 69) → (Xi T28 904 73 = 0) → (Xi T28 904 70 = 15) → (JR T28 fs ns) → ((tR S fs ns (Xi S 904 8 - fs) = 6 ∧ Xi T28 904 75 = 1 ∧ Xi T28 904 76 = 0) ∨ (tR S fs ns (Xi S 904 8 - fs) = 32 ∧ Xi T28 904 75 = 0 ∧ Xi T28 904 76 = 1)) → Pl fu lay0 (d + 3) m_mo_rest 313 [(0, .ref 904)] [] T28 (Q_mo_rest__p S fs ns) := by
  have hF : FR md_mo_rest__p S S := FR.rf
  have w1 : -2147483648 ≤ Xi S 904 65 ∧ Xi S 904 65 ≤ 2147483647 := Xi_rgI
  have w2 : -2147483648 ≤ Xi S 904 66 ∧ Xi S 904 66 ≤ 2147483647 := Xi_rgI
  have w3 : -2147483648 ≤ Xi S 904 69 ∧ Xi S 904 69 ≤ 2147483647 := Xi_rgI
  have w4 : -2147483648 ≤ Xi S 904 70 ∧ Xi S 904 70 ≤ 2147483647 := Xi_rgI
  have w5 : -2147483648 ≤ Xi S 904 73 ∧ Xi S 904 73 ≤ 2147483647 := Xi_rgI
  have w6 : -2147483648 ≤ Xi S 904 74 ∧ Xi S 904 74 ≤ 2147483647 := Xi_rgI
  have w7 : -2147483648 ≤ Xi S 904 75 ∧ Xi S 904 75 ≤ 2147483647 := Xi_rgI
  have w8 : -2147483648 ≤ Xi S 904 76 ∧ Xi S 904 76 ≤ 2147483647 := Xi_rgI
  have w9 : -2147483648 ≤ Xi S 904 78 ∧ Xi S 904 78 ≤ 2147483647 := Xi_rgI
  have w10 : -2147483648 ≤ Xi S 904 8 ∧ Xi S 904 8 ≤ 2147483647 := Xi_rgI
  have w11 : -2147483648 ≤ Xi S 904 93 ∧ Xi S 904 93 ≤ 2147483647 := Xi_rgI
  have : Xi S 904 65 = 0 → (fs : Int) ≤ Xi S 904 8 ∧ Xi S 904 8 ≤ fs + ns := JR.i (by assumption)
  have hbd := hvl.2.2.2
  intro T28 hHT28 hFT28 w338 w339 w340 w341 w342 J313 k313
  have w343 : -2147483648 ≤ Xi T28 904 65 ∧ Xi T28 904 65 ≤ 2147483647 := Xi_rgI
  have w344 : -2147483648 ≤ Xi T28 904 66 ∧ Xi T28 904 66 ≤ 2147483647 := Xi_rgI
  have w345 : -2147483648 ≤ Xi T28 904 69 ∧ Xi T28 904 69 ≤ 2147483647 := Xi_rgI
  have w346 : -2147483648 ≤ Xi T28 904 70 ∧ Xi T28 904 70 ≤ 2147483647 := Xi_rgI
  have w347 : -2147483648 ≤ Xi T28 904 73 ∧ Xi T28 904 73 ≤ 2147483647 := Xi_rgI
  have w348 : -2147483648 ≤ Xi T28 904 74 ∧ Xi T28 904 74 ≤ 2147483647 := Xi_rgI
  have w349 : -2147483648 ≤ Xi T28 904 75 ∧ Xi T28 904 75 ≤ 2147483647 := Xi_rgI
  have w350 : -2147483648 ≤ Xi T28 904 76 ∧ Xi T28 904 76 ≤ 2147483647 := Xi_rgI
  have w351 : -2147483648 ≤ Xi T28 904 78 ∧ Xi T28 904 78 ≤ 2147483647 := Xi_rgI
  have w352 : -2147483648 ≤ Xi T28 904 8 ∧ Xi T28 904 8 ≤ 2147483647 := Xi_rgI
  have w353 : -2147483648 ≤ Xi T28 904 93 ∧ Xi T28 904 93 ≤ 2147483647 := Xi_rgI
  refine y_aload_n rfl rfl ?_
  refine y_dup rfl rfl ?_
  refine y_gfi rfl rfl rfl rfl rfl ?_
  refine y_iconst rfl ?_
  refine y_iadd rfl ?_
  refine y_pfi rfl rfl rfl rfl ?_
  obtain ⟨U29, eU29⟩ : ∃ T : sS, T = uI T28 904 8 (Int32.ofInt ((Xi T28 904 8) + 1)) := ⟨_, rfl⟩
  rw [← eU29]
  have hHU29 : RI U29 := by rw [eU29]; exact RI_w hHT28
  have hFU29 : FR md_mo_rest__p S U29 := by rw [eU29]; exact FR.wI hFT28 (mdf_i (r := (904, 905, 8, 9)) (List.mem_of_getElem? (i := 0) rfl) (inR_i (by omega) (by omega) (by omega) (by omega)))
  have w354 : Xi U29 904 8 = ((Xi T28 904 8) + 1) := by rw [eU29]; exact Xi_same (by unfold rg; omega)
  have b320_ : Xi U29 904 65 = Xi T28 904 65 := (by rw [eU29, Xi_ne (by omega)]); have J320 : JR U29 fs ns := jr_up (by assumption : JR T28 _ _) (VLR_FR hFT28 rfl (by assumption : VLR S _ _)) eU29 (by omega) (fun b => by rw [FRR hFT28 rfl, show Xi T28 904 8 - (fs : Int) = Xi S 904 8 - fs by omega]; omega)
  have : Xi U29 904 65 = 0 → (fs : Int) ≤ Xi U29 904 8 ∧ Xi U29 904 8 ≤ fs + ns := JR.i (by assumption)
  refine y_aload_n rfl rfl ?_
  refine y_aload_n rfl rfl ?_
  have w355 : Xi U29 904 65 = Xi T28 904 65 := (show Xi U29 904 65 = Xi T28 904 65 from by rw [eU29]; exact Xi_ne (by omega))
  have w357 : Xi U29 904 69 = Xi T28 904 69 := (show Xi U29 904 69 = Xi T28 904 69 from by rw [eU29]; exact Xi_ne (by omega))
  refine y_callV rfl rfl rfl (t_mo_run__p hHU29 fs ns (by first | assumption | exact (VLR_FR hFU29 rfl (by assumption : VLR S _ _))) (by first | assumption | exact (by assumption : JR U29 _ _)) _) ?_
  rintro _ T30 ⟨hHT30, w372, z371, rfl, w371, w365, w366, w367, w368, w369, w370⟩
  have hFT30 : FR md_mo_rest__p S T30 := FR.tr hFU29 w372 rfl
  show Pl _ _ _ _ _ _ [iv z371, .ref 904] _ _
  have : Xi T30 904 65 = 0 → (fs : Int) ≤ Xi T30 904 8 ∧ Xi T30 904 8 ≤ fs + ns := JR.i (by assumption)
  have gp325 := w365
  try rw [FRR hFU29 rfl] at gp325
  clear w365
  refine y_pfi rfl rfl rfl rfl ?_
  obtain ⟨U31, eU31⟩ : ∃ T : sS, T = uI T30 904 78 (Int32.ofInt z371) := ⟨_, rfl⟩
  rw [← eU31]
  have hHU31 : RI U31 := by rw [eU31]; exact RI_w hHT30
  have hFU31 : FR md_mo_rest__p S U31 := by rw [eU31]; exact FR.wI hFT30 (mdf_i (r := (904, 905, 78, 79)) (List.mem_of_getElem? (i := 9) rfl) (inR_i (by omega) (by omega) (by omega) (by omega)))
  have w373 : Xi U31 904 78 = z371 := by rw [eU31]; exact Xi_same (by unfold rg; omega)
  have K328 : True := trivial
  refine y_goto rfl rfl ?_
  refine y_return rfl rfl ?_
  have w374 : Xi U31 904 65 = Xi T30 904 65 := (show Xi U31 904 65 = Xi T30 904 65 from by rw [eU31]; exact Xi_ne (by omega))
  have w375 : Xi U31 904 66 = Xi T30 904 66 := (show Xi U31 904 66 = Xi T30 904 66 from by rw [eU31]; exact Xi_ne (by omega))
  have w376 : Xi U31 904 69 = Xi T30 904 69 := (show Xi U31 904 69 = Xi T30 904 69 from by rw [eU31]; exact Xi_ne (by omega))
  have w377 : Xi U31 904 70 = Xi T28 904 70 := (show Xi U31 904 70 = Xi T30 904 70 from by rw [eU31]; exact Xi_ne (by omega)).trans ( (show Xi T30 904 70 = Xi U29 904 70 from w372.x _ _ rfl).trans ((show Xi U29 904 70 = Xi T28 904 70 from by rw [eU29]; exact Xi_ne (by omega))))
  have w378 : Xi U31 904 73 = Xi T28 904 73 := (show Xi U31 904 73 = Xi T30 904 73 from by rw [eU31]; exact Xi_ne (by omega)).trans ( (show Xi T30 904 73 = Xi U29 904 73 from w372.x _ _ rfl).trans ((show Xi U29 904 73 = Xi T28 904 73 from by rw [eU29]; exact Xi_ne (by omega))))
  have w379 : Xi U31 904 74 = Xi T28 904 74 := (show Xi U31 904 74 = Xi T30 904 74 from by rw [eU31]; exact Xi_ne (by omega)).trans ( (show Xi T30 904 74 = Xi U29 904 74 from w372.x _ _ rfl).trans ((show Xi U29 904 74 = Xi T28 904 74 from by rw [eU29]; exact Xi_ne (by omega))))
  have w380 : Xi U31 904 75 = Xi T28 904 75 := (show Xi U31 904 75 = Xi T30 904 75 from by rw [eU31]; exact Xi_ne (by omega)).trans ( (show Xi T30 904 75 = Xi U29 904 75 from w372.x _ _ rfl).trans ((show Xi U29 904 75 = Xi T28 904 75 from by rw [eU29]; exact Xi_ne (by omega))))
  have w381 : Xi U31 904 76 = Xi T28 904 76 := (show Xi U31 904 76 = Xi T30 904 76 from by rw [eU31]; exact Xi_ne (by omega)).trans ( (show Xi T30 904 76 = Xi U29 904 76 from w372.x _ _ rfl).trans ((show Xi U29 904 76 = Xi T28 904 76 from by rw [eU29]; exact Xi_ne (by omega))))
  have w382 : Xi U31 904 8 = Xi T30 904 8 := (show Xi U31 904 8 = Xi T30 904 8 from by rw [eU31]; exact Xi_ne (by omega))
  have w383 : Xi U31 904 93 = Xi T28 904 93 := (show Xi U31 904 93 = Xi T30 904 93 from by rw [eU31]; exact Xi_ne (by omega)).trans ( (show Xi T30 904 93 = Xi U29 904 93 from w372.x _ _ rfl).trans ((show Xi U29 904 93 = Xi T28 904 93 from by rw [eU29]; exact Xi_ne (by omega))))
  exact ⟨hHU31, hFU31, rfl, (by first | (have t := K94; rw [gRe_10 ⟨by omega, by omega⟩, if_pos (by omega), if_pos (by omega)]; exact cu_1 (by omega) (by omega)) | (have t := K105; rw [gRe_10 ⟨by omega, by omega⟩, if_pos (by omega), if_neg (by omega)]; exact (cu_go gp102 (by omega) (by omega)).trans (cu_eq (by omega) (by omega) (by omega)).symm) | (have t := K191; rw [gRe_11 ⟨by omega, by omega⟩, if_pos (by omega), cu_go gp177 (by omega) (by omega), gp183, gp188]; exact (cu_eq (by omega) (by omega) (by omega)).symm) | (have t := K257; rw [gRe_12 b204 c204 a204, cu_go gp222 (by omega) (by omega)]; exact cu_br (fun b => by rw [if_neg (by omega)]; exact (cu_ch0 (cu_go gp246 (by omega) (by omega)) gp254).trans (cu_eq (by omega) (by omega) (by omega)).symm) (fun b => absurd (by omega) b)) | (have t := K328; rw [gRe_15 (by omega)]; exact (cu_go gp325 (by omega) (by omega)).trans (cu_eq (by omega) (by omega) (by omega)).symm) | (have t := K383; rw [gRe_f (by omega), cu_go gp341 (by omega) (by omega)]; exact cu_br (fun b => by rw [if_pos (by omega)]; exact (cu_go gp380 (by omega) (by omega)).trans (cu_eq (by omega) (by omega) (by omega)).symm) (fun b => absurd (by omega) b)) | (have t := K454; rw [gRe_13 a435 b435 c435 d435]; exact (cu_ch0 (cu_go gp443 (by omega) (by omega)) gp451).trans (cu_eq (by omega) (by omega) (by omega)).symm) | exact GZ.o (by omega) | exact (FU_e U413 (by omega) (fun b k => gRn_0 (gBt_zz (m421 b) (by omega)))).trans (cu_eqb (by omega) (fun b => n421.o (by omega)) (by omega)).symm | exact FU_b U413 (by omega)), (by omega), (by omega), (by first | (have t := K94; exact (fun b => rsr_10 ⟨by omega, by omega⟩ (by omega) (Or.inr (Or.inl ⟨by omega, by omega, by omega⟩)))) | (have t := K105; exact (fun b => rsr_10 ⟨by omega, by omega⟩ (by omega) (Or.inr (Or.inr ⟨by omega, by omega, by omega⟩)))) | (have t := K191; exact (fun b => rsr_11 ⟨by omega, by omega⟩ (by omega) (Or.inr ⟨by omega, by omega⟩))) | (have t := K257; exact (fun b => by have t := t222.o (by omega); exact rsr_12 a204 b204 c204 (by omega) (by omega) (Or.inr ⟨by omega, by rw [t]; omega, by omega⟩))) | (have t := K328; exact (fun b => rsr_15 (by omega) (by omega) (by omega))) | (have t := K383; exact (fun b => by have t := t341.o (by omega); exact rsr_f (by omega) (by omega) (Or.inl ⟨by omega, by omega, by omega⟩))) | (have t := K454; exact (fun b => rsr_13 a435 b435 c435 d435 (by omega) (by omega) (by omega))) | exact RS.o (by omega) | exact (fun b => rsr_f (by omega) (by omega) (Or.inr (Or.inl ⟨s413.o, by omega⟩)))), (by omega), (by omega), (by first | assumption | exact (JR_FR (FR_e eU31) rfl rfl rfl (by assumption : JR T30 _ _)))⟩
set_option maxRecDepth 100000 in
theorem c276_mo_rest__p {S : sS} (hH : RI S) (fs : Nat) (ns : Nat) (hvl : VLR S fs ns) (hJR : JR S fs ns) (hb : Xi S 904 65 = 0) (d : Nat) (fu : Nat) : ∀  (T32 : sS) (_ : RI T32) (_ : FR md_mo_rest__p S T32) (v1 : Int), (-2147483648 ≤ v1 ∧ v1 ≤ 2147483647) → (Xi T32 904 8 = Xi S 904 8) → (Xi T32 904 65 = 0) → (Xi T32 904 69 = Xi S 904 69) → (Xi T32 904 73 = 0) → (Xi T32 904 75 = Xi S 904 75) → (Xi T32 904 76 = Xi S 904 76) → (JR T32 fs ns) → ((tR S fs ns (Xi S 904 8 - fs) = 6 ∧ v1 = 106) ∨ (tR S fs ns (Xi S 904 8 - fs) = 32 ∧ v1 = 132)) → Pl fu lay0 (d + 3) m_mo_rest 276 [(0, .ref 904), (1, iv v1)] [] T32 (Q_mo_rest__p S fs ns) := by
  have C313 := c313_mo_rest__p hH fs ns hvl hJR hb d  fu
  have hF : FR md_mo_rest__p S S := FR.rf
  have w1 : -2147483648 ≤ Xi S 904 65 ∧ Xi S 904 65 ≤ 2147483647 := Xi_rgI
  have w2 : -2147483648 ≤ Xi S 904 66 ∧ Xi S 904 66 ≤ 2147483647 := Xi_rgI
  have w3 : -2147483648 ≤ Xi S 904 69 ∧ Xi S 904 69 ≤ 2147483647 := Xi_rgI
  have w4 : -2147483648 ≤ Xi S 904 70 ∧ Xi S 904 70 ≤ 2147483647 := Xi_rgI
  have w5 : -2147483648 ≤ Xi S 904 73 ∧ Xi S 904 73 ≤ 2147483647 := Xi_rgI
  have w6 : -2147483648 ≤ Xi S 904 74 ∧ Xi S 904 74 ≤ 2147483647 := Xi_rgI
  have w7 : -2147483648 ≤ Xi S 904 75 ∧ Xi S 904 75 ≤ 2147483647 := Xi_rgI
  have w8 : -2147483648 ≤ Xi S 904 76 ∧ Xi S 904 76 ≤ 2147483647 := Xi_rgI
  have w9 : -2147483648 ≤ Xi S 904 78 ∧ Xi S 904 78 ≤ 2147483647 := Xi_rgI
  have w10 : -2147483648 ≤ Xi S 904 8 ∧ Xi S 904 8 ≤ 2147483647 := Xi_rgI
  have w11 : -2147483648 ≤ Xi S 904 93 ∧ Xi S 904 93 ≤ 2147483647 := Xi_rgI
  have : Xi S 904 65 = 0 → (fs : Int) ≤ Xi S 904 8 ∧ Xi S 904 8 ≤ fs + ns := JR.i (by assumption)
  have hbd := hvl.2.2.2
  intro T32 hHT32 hFT32 v1 w384 w385 w386 w387 w388 w389 w390 J276 k276
  have w391 : -2147483648 ≤ Xi T32 904 65 ∧ Xi T32 904 65 ≤ 2147483647 := Xi_rgI
  have w392 : -2147483648 ≤ Xi T32 904 66 ∧ Xi T32 904 66 ≤ 2147483647 := Xi_rgI
  have w393 : -2147483648 ≤ Xi T32 904 69 ∧ Xi T32 904 69 ≤ 2147483647 := Xi_rgI
  have w394 : -2147483648 ≤ Xi T32 904 70 ∧ Xi T32 904 70 ≤ 2147483647 := Xi_rgI
  have w395 : -2147483648 ≤ Xi T32 904 73 ∧ Xi T32 904 73 ≤ 2147483647 := Xi_rgI
  have w396 : -2147483648 ≤ Xi T32 904 74 ∧ Xi T32 904 74 ≤ 2147483647 := Xi_rgI
  have w397 : -2147483648 ≤ Xi T32 904 75 ∧ Xi T32 904 75 ≤ 2147483647 := Xi_rgI
  have w398 : -2147483648 ≤ Xi T32 904 76 ∧ Xi T32 904 76 ≤ 2147483647 := Xi_rgI
  have w399 : -2147483648 ≤ Xi T32 904 78 ∧ Xi T32 904 78 ≤ 2147483647 := Xi_rgI
  have w400 : -2147483648 ≤ Xi T32 904 8 ∧ Xi T32 904 8 ≤ 2147483647 := Xi_rgI
  have w401 : -2147483648 ≤ Xi T32 904 93 ∧ Xi T32 904 93 ≤ 2147483647 := Xi_rgI
  refine y_aload_n rfl rfl ?_
  refine y_bipush rfl rfl ?_
  refine y_pfi rfl rfl rfl rfl ?_
  obtain ⟨U33, eU33⟩ : ∃ T : sS, T = uI T32 904 70 (Int32.ofInt 15) := ⟨_, rfl⟩
  rw [← eU33]
  have hHU33 : RI U33 := by rw [eU33]; exact RI_w hHT32
  have hFU33 : FR md_mo_rest__p S U33 := by rw [eU33]; exact FR.wI hFT32 (mdf_i (r := (904, 905, 70, 71)) (List.mem_of_getElem? (i := 4) rfl) (inR_i (by omega) (by omega) (by omega) (by omega)))
  have w402 : Xi U33 904 70 = 15 := by rw [eU33]; exact Xi_same (by unfold rg; omega)
  refine y_aload_n rfl rfl ?_
  refine y_iload_n rfl rfl ?_
  refine y_bipush rfl rfl ?_
  refine y_icmp_ne rfl rfl (by unfold rg; omega) (by unfold rg; omega) (fun w403 => ?_) (fun w404 => ?_)
  · refine y_iconst rfl ?_
    refine y_pfz rfl rfl rfl rfl (by omega) ?_
    obtain ⟨U34, eU34⟩ : ∃ T : sS, T = uI U33 904 75 (Int32.ofInt 0) := ⟨_, rfl⟩
    rw [← eU34]
    have hHU34 : RI U34 := by rw [eU34]; exact RI_w hHU33
    have hFU34 : FR md_mo_rest__p S U34 := by rw [eU34]; exact FR.wI hFU33 (mdf_i (r := (904, 905, 75, 76)) (List.mem_of_getElem? (i := 7) rfl) (inR_i (by omega) (by omega) (by omega) (by omega)))
    have w405 : Xi U34 904 75 = 0 := by rw [eU34]; exact Xi_same (by unfold rg; omega)
    refine y_aload_n rfl rfl ?_
    refine y_iload_n rfl rfl ?_
    refine y_sipush rfl rfl ?_
    refine y_icmp_ne rfl rfl (by unfold rg; omega) (by unfold rg; omega) (fun w406 => ?_) (fun w407 => ?_)
    · refine y_iconst rfl ?_
      refine y_pfz rfl rfl rfl rfl (by omega) ?_
      obtain ⟨U35, eU35⟩ : ∃ T : sS, T = uI U34 904 76 (Int32.ofInt 0) := ⟨_, rfl⟩
      rw [← eU35]
      have hHU35 : RI U35 := by rw [eU35]; exact RI_w hHU34
      have hFU35 : FR md_mo_rest__p S U35 := by rw [eU35]; exact FR.wI hFU34 (mdf_i (r := (904, 905, 76, 77)) (List.mem_of_getElem? (i := 8) rfl) (inR_i (by omega) (by omega) (by omega) (by omega)))
      have w408 : Xi U35 904 76 = 0 := by rw [eU35]; exact Xi_same (by unfold rg; omega)
      have w409 : Xi U35 904 65 = Xi T32 904 65 := (show Xi U35 904 65 = Xi U34 904 65 from by rw [eU35]; exact Xi_ne (by omega)).trans ( (show Xi U34 904 65 = Xi U33 904 65 from by rw [eU34]; exact Xi_ne (by omega)).trans ((show Xi U33 904 65 = Xi T32 904 65 from by rw [eU33]; exact Xi_ne (by omega))))
      have w410 : Xi U35 904 66 = Xi T32 904 66 := (show Xi U35 904 66 = Xi U34 904 66 from by rw [eU35]; exact Xi_ne (by omega)).trans ( (show Xi U34 904 66 = Xi U33 904 66 from by rw [eU34]; exact Xi_ne (by omega)).trans ((show Xi U33 904 66 = Xi T32 904 66 from by rw [eU33]; exact Xi_ne (by omega))))
      have w411 : Xi U35 904 69 = Xi T32 904 69 := (show Xi U35 904 69 = Xi U34 904 69 from by rw [eU35]; exact Xi_ne (by omega)).trans ( (show Xi U34 904 69 = Xi U33 904 69 from by rw [eU34]; exact Xi_ne (by omega)).trans ((show Xi U33 904 69 = Xi T32 904 69 from by rw [eU33]; exact Xi_ne (by omega))))
      have w412 : Xi U35 904 70 = Xi U33 904 70 := (show Xi U35 904 70 = Xi U34 904 70 from by rw [eU35]; exact Xi_ne (by omega)).trans ((show Xi U34 904 70 = Xi U33 904 70 from by rw [eU34]; exact Xi_ne (by omega)))
      have w413 : Xi U35 904 73 = Xi T32 904 73 := (show Xi U35 904 73 = Xi U34 904 73 from by rw [eU35]; exact Xi_ne (by omega)).trans ( (show Xi U34 904 73 = Xi U33 904 73 from by rw [eU34]; exact Xi_ne (by omega)).trans ((show Xi U33 904 73 = Xi T32 904 73 from by rw [eU33]; exact Xi_ne (by omega))))
      have w414 : Xi U35 904 74 = Xi T32 904 74 := (show Xi U35 904 74 = Xi U34 904 74 from by rw [eU35]; exact Xi_ne (by omega)).trans ( (show Xi U34 904 74 = Xi U33 904 74 from by rw [eU34]; exact Xi_ne (by omega)).trans ((show Xi U33 904 74 = Xi T32 904 74 from by rw [eU33]; exact Xi_ne (by omega))))
      have w415 : Xi U35 904 75 = Xi U34 904 75 := (show Xi U35 904 75 = Xi U34 904 75 from by rw [eU35]; exact Xi_ne (by omega))
      have w416 : Xi U35 904 78 = Xi T32 904 78 := (show Xi U35 904 78 = Xi U34 904 78 from by rw [eU35]; exact Xi_ne (by omega)).trans ( (show Xi U34 904 78 = Xi U33 904 78 from by rw [eU34]; exact Xi_ne (by omega)).trans ((show Xi U33 904 78 = Xi T32 904 78 from by rw [eU33]; exact Xi_ne (by omega))))
      have w417 : Xi U35 904 8 = Xi T32 904 8 := (show Xi U35 904 8 = Xi U34 904 8 from by rw [eU35]; exact Xi_ne (by omega)).trans ( (show Xi U34 904 8 = Xi U33 904 8 from by rw [eU34]; exact Xi_ne (by omega)).trans ((show Xi U33 904 8 = Xi T32 904 8 from by rw [eU33]; exact Xi_ne (by omega))))
      have w418 : Xi U35 904 93 = Xi T32 904 93 := (show Xi U35 904 93 = Xi U34 904 93 from by rw [eU35]; exact Xi_ne (by omega)).trans ( (show Xi U34 904 93 = Xi U33 904 93 from by rw [eU34]; exact Xi_ne (by omega)).trans ((show Xi U33 904 93 = Xi T32 904 93 from by rw [eU33]; exact Xi_ne (by omega))))
      exact Pl_weak (C313 U35 hHU35 hFU35  (by omega) (by omega) (by omega) (by omega) (by omega) (by first | assumption | exact (JR_FR (FR_e eU35) rfl rfl rfl (JR_FR (FR_e eU34) rfl rfl rfl (JR_FR (FR_e eU33) rfl rfl rfl (by assumption : JR T32 _ _))))) (by omega)) (by omega) (And.intro rfl (True.intro))
    · refine y_iconst rfl ?_
      refine y_goto rfl rfl ?_
      refine y_pfz rfl rfl rfl rfl (by omega) ?_
      obtain ⟨U36, eU36⟩ : ∃ T : sS, T = uI U34 904 76 (Int32.ofInt 1) := ⟨_, rfl⟩
      rw [← eU36]
      have hHU36 : RI U36 := by rw [eU36]; exact RI_w hHU34
      have hFU36 : FR md_mo_rest__p S U36 := by rw [eU36]; exact FR.wI hFU34 (mdf_i (r := (904, 905, 76, 77)) (List.mem_of_getElem? (i := 8) rfl) (inR_i (by omega) (by omega) (by omega) (by omega)))
      have w419 : Xi U36 904 76 = 1 := by rw [eU36]; exact Xi_same (by unfold rg; omega)
      have w420 : Xi U36 904 65 = Xi T32 904 65 := (show Xi U36 904 65 = Xi U34 904 65 from by rw [eU36]; exact Xi_ne (by omega)).trans ( (show Xi U34 904 65 = Xi U33 904 65 from by rw [eU34]; exact Xi_ne (by omega)).trans ((show Xi U33 904 65 = Xi T32 904 65 from by rw [eU33]; exact Xi_ne (by omega))))
      have w421 : Xi U36 904 66 = Xi T32 904 66 := (show Xi U36 904 66 = Xi U34 904 66 from by rw [eU36]; exact Xi_ne (by omega)).trans ( (show Xi U34 904 66 = Xi U33 904 66 from by rw [eU34]; exact Xi_ne (by omega)).trans ((show Xi U33 904 66 = Xi T32 904 66 from by rw [eU33]; exact Xi_ne (by omega))))
      have w422 : Xi U36 904 69 = Xi T32 904 69 := (show Xi U36 904 69 = Xi U34 904 69 from by rw [eU36]; exact Xi_ne (by omega)).trans ( (show Xi U34 904 69 = Xi U33 904 69 from by rw [eU34]; exact Xi_ne (by omega)).trans ((show Xi U33 904 69 = Xi T32 904 69 from by rw [eU33]; exact Xi_ne (by omega))))
      have w423 : Xi U36 904 70 = Xi U33 904 70 := (show Xi U36 904 70 = Xi U34 904 70 from by rw [eU36]; exact Xi_ne (by omega)).trans ((show Xi U34 904 70 = Xi U33 904 70 from by rw [eU34]; exact Xi_ne (by omega)))
      have w424 : Xi U36 904 73 = Xi T32 904 73 := (show Xi U36 904 73 = Xi U34 904 73 from by rw [eU36]; exact Xi_ne (by omega)).trans ( (show Xi U34 904 73 = Xi U33 904 73 from by rw [eU34]; exact Xi_ne (by omega)).trans ((show Xi U33 904 73 = Xi T32 904 73 from by rw [eU33]; exact Xi_ne (by omega))))
      have w425 : Xi U36 904 74 = Xi T32 904 74 := (show Xi U36 904 74 = Xi U34 904 74 from by rw [eU36]; exact Xi_ne (by omega)).trans ( (show Xi U34 904 74 = Xi U33 904 74 from by rw [eU34]; exact Xi_ne (by omega)).trans ((show Xi U33 904 74 = Xi T32 904 74 from by rw [eU33]; exact Xi_ne (by omega))))
      have w426 : Xi U36 904 75 = Xi U34 904 75 := (show Xi U36 904 75 = Xi U34 904 75 from by rw [eU36]; exact Xi_ne (by omega))
      have w427 : Xi U36 904 78 = Xi T32 904 78 := (show Xi U36 904 78 = Xi U34 904 78 from by rw [eU36]; exact Xi_ne (by omega)).trans ( (show Xi U34 904 78 = Xi U33 904 78 from by rw [eU34]; exact Xi_ne (by omega)).trans ((show Xi U33 904 78 = Xi T32 904 78 from by rw [eU33]; exact Xi_ne (by omega))))
      have w428 : Xi U36 904 8 = Xi T32 904 8 := (show Xi U36 904 8 = Xi U34 904 8 from by rw [eU36]; exact Xi_ne (by omega)).trans ( (show Xi U34 904 8 = Xi U33 904 8 from by rw [eU34]; exact Xi_ne (by omega)).trans ((show Xi U33 904 8 = Xi T32 904 8 from by rw [eU33]; exact Xi_ne (by omega))))
      have w429 : Xi U36 904 93 = Xi T32 904 93 := (show Xi U36 904 93 = Xi U34 904 93 from by rw [eU36]; exact Xi_ne (by omega)).trans ( (show Xi U34 904 93 = Xi U33 904 93 from by rw [eU34]; exact Xi_ne (by omega)).trans ((show Xi U33 904 93 = Xi T32 904 93 from by rw [eU33]; exact Xi_ne (by omega))))
      exact Pl_weak (C313 U36 hHU36 hFU36  (by omega) (by omega) (by omega) (by omega) (by omega) (by first | assumption | exact (JR_FR (FR_e eU36) rfl rfl rfl (JR_FR (FR_e eU34) rfl rfl rfl (JR_FR (FR_e eU33) rfl rfl rfl (by assumption : JR T32 _ _))))) (by omega)) (by omega) (And.intro rfl (True.intro))
  · refine y_iconst rfl ?_
    refine y_goto rfl rfl ?_
    refine y_pfz rfl rfl rfl rfl (by omega) ?_
    obtain ⟨U37, eU37⟩ : ∃ T : sS, T = uI U33 904 75 (Int32.ofInt 1) := ⟨_, rfl⟩
    rw [← eU37]
    have hHU37 : RI U37 := by rw [eU37]; exact RI_w hHU33
    have hFU37 : FR md_mo_rest__p S U37 := by rw [eU37]; exact FR.wI hFU33 (mdf_i (r := (904, 905, 75, 76)) (List.mem_of_getElem? (i := 7) rfl) (inR_i (by omega) (by omega) (by omega) (by omega)))
    have w430 : Xi U37 904 75 = 1 := by rw [eU37]; exact Xi_same (by unfold rg; omega)
    refine y_aload_n rfl rfl ?_
    refine y_iload_n rfl rfl ?_
    refine y_sipush rfl rfl ?_
    refine y_icmp_ne rfl rfl (by unfold rg; omega) (by unfold rg; omega) (fun w431 => ?_) (fun w432 => ?_)
    · refine y_iconst rfl ?_
      refine y_pfz rfl rfl rfl rfl (by omega) ?_
      obtain ⟨U38, eU38⟩ : ∃ T : sS, T = uI U37 904 76 (Int32.ofInt 0) := ⟨_, rfl⟩
      rw [← eU38]
      have hHU38 : RI U38 := by rw [eU38]; exact RI_w hHU37
      have hFU38 : FR md_mo_rest__p S U38 := by rw [eU38]; exact FR.wI hFU37 (mdf_i (r := (904, 905, 76, 77)) (List.mem_of_getElem? (i := 8) rfl) (inR_i (by omega) (by omega) (by omega) (by omega)))
      have w433 : Xi U38 904 76 = 0 := by rw [eU38]; exact Xi_same (by unfold rg; omega)
      have w434 : Xi U38 904 65 = Xi T32 904 65 := (show Xi U38 904 65 = Xi U37 904 65 from by rw [eU38]; exact Xi_ne (by omega)).trans ( (show Xi U37 904 65 = Xi U33 904 65 from by rw [eU37]; exact Xi_ne (by omega)).trans ((show Xi U33 904 65 = Xi T32 904 65 from by rw [eU33]; exact Xi_ne (by omega))))
      have w435 : Xi U38 904 66 = Xi T32 904 66 := (show Xi U38 904 66 = Xi U37 904 66 from by rw [eU38]; exact Xi_ne (by omega)).trans ( (show Xi U37 904 66 = Xi U33 904 66 from by rw [eU37]; exact Xi_ne (by omega)).trans ((show Xi U33 904 66 = Xi T32 904 66 from by rw [eU33]; exact Xi_ne (by omega))))
      have w436 : Xi U38 904 69 = Xi T32 904 69 := (show Xi U38 904 69 = Xi U37 904 69 from by rw [eU38]; exact Xi_ne (by omega)).trans ( (show Xi U37 904 69 = Xi U33 904 69 from by rw [eU37]; exact Xi_ne (by omega)).trans ((show Xi U33 904 69 = Xi T32 904 69 from by rw [eU33]; exact Xi_ne (by omega))))
      have w437 : Xi U38 904 70 = Xi U33 904 70 := (show Xi U38 904 70 = Xi U37 904 70 from by rw [eU38]; exact Xi_ne (by omega)).trans ((show Xi U37 904 70 = Xi U33 904 70 from by rw [eU37]; exact Xi_ne (by omega)))
      have w438 : Xi U38 904 73 = Xi T32 904 73 := (show Xi U38 904 73 = Xi U37 904 73 from by rw [eU38]; exact Xi_ne (by omega)).trans ( (show Xi U37 904 73 = Xi U33 904 73 from by rw [eU37]; exact Xi_ne (by omega)).trans ((show Xi U33 904 73 = Xi T32 904 73 from by rw [eU33]; exact Xi_ne (by omega))))
      have w439 : Xi U38 904 74 = Xi T32 904 74 := (show Xi U38 904 74 = Xi U37 904 74 from by rw [eU38]; exact Xi_ne (by omega)).trans ( (show Xi U37 904 74 = Xi U33 904 74 from by rw [eU37]; exact Xi_ne (by omega)).trans ((show Xi U33 904 74 = Xi T32 904 74 from by rw [eU33]; exact Xi_ne (by omega))))
      have w440 : Xi U38 904 75 = Xi U37 904 75 := (show Xi U38 904 75 = Xi U37 904 75 from by rw [eU38]; exact Xi_ne (by omega))
      have w441 : Xi U38 904 78 = Xi T32 904 78 := (show Xi U38 904 78 = Xi U37 904 78 from by rw [eU38]; exact Xi_ne (by omega)).trans ( (show Xi U37 904 78 = Xi U33 904 78 from by rw [eU37]; exact Xi_ne (by omega)).trans ((show Xi U33 904 78 = Xi T32 904 78 from by rw [eU33]; exact Xi_ne (by omega))))
      have w442 : Xi U38 904 8 = Xi T32 904 8 := (show Xi U38 904 8 = Xi U37 904 8 from by rw [eU38]; exact Xi_ne (by omega)).trans ( (show Xi U37 904 8 = Xi U33 904 8 from by rw [eU37]; exact Xi_ne (by omega)).trans ((show Xi U33 904 8 = Xi T32 904 8 from by rw [eU33]; exact Xi_ne (by omega))))
      have w443 : Xi U38 904 93 = Xi T32 904 93 := (show Xi U38 904 93 = Xi U37 904 93 from by rw [eU38]; exact Xi_ne (by omega)).trans ( (show Xi U37 904 93 = Xi U33 904 93 from by rw [eU37]; exact Xi_ne (by omega)).trans ((show Xi U33 904 93 = Xi T32 904 93 from by rw [eU33]; exact Xi_ne (by omega))))
      exact Pl_weak (C313 U38 hHU38 hFU38  (by omega) (by omega) (by omega) (by omega) (by omega) (by first | assumption | exact (JR_FR (FR_e eU38) rfl rfl rfl (JR_FR (FR_e eU37) rfl rfl rfl (JR_FR (FR_e eU33) rfl rfl rfl (by assumption : JR T32 _ _))))) (by omega)) (by omega) (And.intro rfl (True.intro))
    · refine y_iconst rfl ?_
      refine y_goto rfl rfl ?_
      refine y_pfz rfl rfl rfl rfl (by omega) ?_
      obtain ⟨U39, eU39⟩ : ∃ T : sS, T = uI U37 904 76 (Int32.ofInt 1) := ⟨_, rfl⟩
      rw [← eU39]
      have hHU39 : RI U39 := by rw [eU39]; exact RI_w hHU37
      have hFU39 : FR md_mo_rest__p S U39 := by rw [eU39]; exact FR.wI hFU37 (mdf_i (r := (904, 905, 76, 77)) (List.mem_of_getElem? (i := 8) rfl) (inR_i (by omega) (by omega) (by omega) (by omega)))
      have w444 : Xi U39 904 76 = 1 := by rw [eU39]; exact Xi_same (by unfold rg; omega)
      have w445 : Xi U39 904 65 = Xi T32 904 65 := (show Xi U39 904 65 = Xi U37 904 65 from by rw [eU39]; exact Xi_ne (by omega)).trans ( (show Xi U37 904 65 = Xi U33 904 65 from by rw [eU37]; exact Xi_ne (by omega)).trans ((show Xi U33 904 65 = Xi T32 904 65 from by rw [eU33]; exact Xi_ne (by omega))))
      have w446 : Xi U39 904 66 = Xi T32 904 66 := (show Xi U39 904 66 = Xi U37 904 66 from by rw [eU39]; exact Xi_ne (by omega)).trans ( (show Xi U37 904 66 = Xi U33 904 66 from by rw [eU37]; exact Xi_ne (by omega)).trans ((show Xi U33 904 66 = Xi T32 904 66 from by rw [eU33]; exact Xi_ne (by omega))))
      have w447 : Xi U39 904 69 = Xi T32 904 69 := (show Xi U39 904 69 = Xi U37 904 69 from by rw [eU39]; exact Xi_ne (by omega)).trans ( (show Xi U37 904 69 = Xi U33 904 69 from by rw [eU37]; exact Xi_ne (by omega)).trans ((show Xi U33 904 69 = Xi T32 904 69 from by rw [eU33]; exact Xi_ne (by omega))))
      have w448 : Xi U39 904 70 = Xi U33 904 70 := (show Xi U39 904 70 = Xi U37 904 70 from by rw [eU39]; exact Xi_ne (by omega)).trans ((show Xi U37 904 70 = Xi U33 904 70 from by rw [eU37]; exact Xi_ne (by omega)))
      have w449 : Xi U39 904 73 = Xi T32 904 73 := (show Xi U39 904 73 = Xi U37 904 73 from by rw [eU39]; exact Xi_ne (by omega)).trans ( (show Xi U37 904 73 = Xi U33 904 73 from by rw [eU37]; exact Xi_ne (by omega)).trans ((show Xi U33 904 73 = Xi T32 904 73 from by rw [eU33]; exact Xi_ne (by omega))))
      have w450 : Xi U39 904 74 = Xi T32 904 74 := (show Xi U39 904 74 = Xi U37 904 74 from by rw [eU39]; exact Xi_ne (by omega)).trans ( (show Xi U37 904 74 = Xi U33 904 74 from by rw [eU37]; exact Xi_ne (by omega)).trans ((show Xi U33 904 74 = Xi T32 904 74 from by rw [eU33]; exact Xi_ne (by omega))))
      have w451 : Xi U39 904 75 = Xi U37 904 75 := (show Xi U39 904 75 = Xi U37 904 75 from by rw [eU39]; exact Xi_ne (by omega))
      have w452 : Xi U39 904 78 = Xi T32 904 78 := (show Xi U39 904 78 = Xi U37 904 78 from by rw [eU39]; exact Xi_ne (by omega)).trans ( (show Xi U37 904 78 = Xi U33 904 78 from by rw [eU37]; exact Xi_ne (by omega)).trans ((show Xi U33 904 78 = Xi T32 904 78 from by rw [eU33]; exact Xi_ne (by omega))))
      have w453 : Xi U39 904 8 = Xi T32 904 8 := (show Xi U39 904 8 = Xi U37 904 8 from by rw [eU39]; exact Xi_ne (by omega)).trans ( (show Xi U37 904 8 = Xi U33 904 8 from by rw [eU37]; exact Xi_ne (by omega)).trans ((show Xi U33 904 8 = Xi T32 904 8 from by rw [eU33]; exact Xi_ne (by omega))))
      have w454 : Xi U39 904 93 = Xi T32 904 93 := (show Xi U39 904 93 = Xi U37 904 93 from by rw [eU39]; exact Xi_ne (by omega)).trans ( (show Xi U37 904 93 = Xi U33 904 93 from by rw [eU37]; exact Xi_ne (by omega)).trans ((show Xi U33 904 93 = Xi T32 904 93 from by rw [eU33]; exact Xi_ne (by omega))))
      exact Pl_weak (C313 U39 hHU39 hFU39  (by omega) (by omega) (by omega) (by omega) (by omega) (by first | assumption | exact (JR_FR (FR_e eU39) rfl rfl rfl (JR_FR (FR_e eU37) rfl rfl rfl (JR_FR (FR_e eU33) rfl rfl rfl (by assumption : JR T32 _ _))))) (by omega)) (by omega) (And.intro rfl (True.intro))
set_option maxRecDepth 100000 in
theorem c413_mo_rest__p {S : sS} (hH : RI S) (fs : Nat) (ns : Nat) (hvl : VLR S fs ns) (hJR : JR S fs ns) (hb : Xi S 904 65 = 0) (d : Nat) (fu : Nat) : ∀ (n413 : Nat) (_ : n413 ≤ fu) (T40 : sS) (_ : RI T40) (_ : FR md_mo_rest__p S T40), (Xi T40 904 75 = Xi S 904 75) → (Xi T40 904 76 = Xi S 904 76) → (Xi T40 904 65 = 0 → Xi S 904 8 ≤ Xi T40 904 8) → (Xi S 904 69 ≤ Xi T40 904 69) → (Xi T40 904 70 = 16) → (Xi T40 904 78 = Xi S 904 69) → (JR T40 fs ns) → (Xi T40 904 65 = 0 → (fs : Int) ≤ Xi T40 904 8 ∧ Xi T40 904 8 ≤ fs + ns) → (tR S fs ns (Xi S 904 8 - fs) = 100) → (Hid ((tR S fs ns) (re7 (tR S fs ns) (Xi S 904 8 - fs)) = 16 ∨ (tR S fs ns) (re7 (tR S fs ns) (Xi S 904 8 - fs)) = 104)) → (FUL (gRe (tR S fs ns) (Xi S 904 8 - fs)) (gRn (tR S fs ns)) ns T40 fs) → Pl n413 lay0 (d + 3) m_mo_rest 413 [(0, .ref 904)] [] T40 (Q_mo_rest__p S fs ns) := by
  have hF : FR md_mo_rest__p S S := FR.rf
  have w1 : -2147483648 ≤ Xi S 904 65 ∧ Xi S 904 65 ≤ 2147483647 := Xi_rgI
  have w2 : -2147483648 ≤ Xi S 904 66 ∧ Xi S 904 66 ≤ 2147483647 := Xi_rgI
  have w3 : -2147483648 ≤ Xi S 904 69 ∧ Xi S 904 69 ≤ 2147483647 := Xi_rgI
  have w4 : -2147483648 ≤ Xi S 904 70 ∧ Xi S 904 70 ≤ 2147483647 := Xi_rgI
  have w5 : -2147483648 ≤ Xi S 904 73 ∧ Xi S 904 73 ≤ 2147483647 := Xi_rgI
  have w6 : -2147483648 ≤ Xi S 904 74 ∧ Xi S 904 74 ≤ 2147483647 := Xi_rgI
  have w7 : -2147483648 ≤ Xi S 904 75 ∧ Xi S 904 75 ≤ 2147483647 := Xi_rgI
  have w8 : -2147483648 ≤ Xi S 904 76 ∧ Xi S 904 76 ≤ 2147483647 := Xi_rgI
  have w9 : -2147483648 ≤ Xi S 904 78 ∧ Xi S 904 78 ≤ 2147483647 := Xi_rgI
  have w10 : -2147483648 ≤ Xi S 904 8 ∧ Xi S 904 8 ≤ 2147483647 := Xi_rgI
  have w11 : -2147483648 ≤ Xi S 904 93 ∧ Xi S 904 93 ≤ 2147483647 := Xi_rgI
  have : Xi S 904 65 = 0 → (fs : Int) ≤ Xi S 904 8 ∧ Xi S 904 8 ≤ fs + ns := JR.i (by assumption)
  have hbd := hvl.2.2.2
  intro n413
  induction n413 with
  | zero => intros; exact Pl_0
  | succ n413 ih413 =>
    intro hm413 T40 hHT40 hFT40 w455 w456 w457 w458 w459 w460 J413 j413 a413 s413 U413
    have w461 : -2147483648 ≤ Xi T40 904 65 ∧ Xi T40 904 65 ≤ 2147483647 := Xi_rgI
    have w462 : -2147483648 ≤ Xi T40 904 66 ∧ Xi T40 904 66 ≤ 2147483647 := Xi_rgI
    have w463 : -2147483648 ≤ Xi T40 904 69 ∧ Xi T40 904 69 ≤ 2147483647 := Xi_rgI
    have w464 : -2147483648 ≤ Xi T40 904 70 ∧ Xi T40 904 70 ≤ 2147483647 := Xi_rgI
    have w465 : -2147483648 ≤ Xi T40 904 73 ∧ Xi T40 904 73 ≤ 2147483647 := Xi_rgI
    have w466 : -2147483648 ≤ Xi T40 904 74 ∧ Xi T40 904 74 ≤ 2147483647 := Xi_rgI
    have w467 : -2147483648 ≤ Xi T40 904 75 ∧ Xi T40 904 75 ≤ 2147483647 := Xi_rgI
    have w468 : -2147483648 ≤ Xi T40 904 76 ∧ Xi T40 904 76 ≤ 2147483647 := Xi_rgI
    have w469 : -2147483648 ≤ Xi T40 904 78 ∧ Xi T40 904 78 ≤ 2147483647 := Xi_rgI
    have w470 : -2147483648 ≤ Xi T40 904 8 ∧ Xi T40 904 8 ≤ 2147483647 := Xi_rgI
    have w471 : -2147483648 ≤ Xi T40 904 93 ∧ Xi T40 904 93 ≤ 2147483647 := Xi_rgI
    refine ys_aload_n rfl rfl ?_
    refine y_gfi rfl rfl rfl rfl rfl ?_
    refine y_if_ne rfl rfl (by unfold rg; omega) (fun w472 => ?_) (fun w473 => ?_)
    · refine y_return rfl rfl ?_
      exact ⟨hHT40, hFT40, rfl, (by first | (have t := K94; rw [gRe_10 ⟨by omega, by omega⟩, if_pos (by omega), if_pos (by omega)]; exact cu_1 (by omega) (by omega)) | (have t := K105; rw [gRe_10 ⟨by omega, by omega⟩, if_pos (by omega), if_neg (by omega)]; exact (cu_go gp102 (by omega) (by omega)).trans (cu_eq (by omega) (by omega) (by omega)).symm) | (have t := K191; rw [gRe_11 ⟨by omega, by omega⟩, if_pos (by omega), cu_go gp177 (by omega) (by omega), gp183, gp188]; exact (cu_eq (by omega) (by omega) (by omega)).symm) | (have t := K257; rw [gRe_12 b204 c204 a204, cu_go gp222 (by omega) (by omega)]; exact cu_br (fun b => by rw [if_neg (by omega)]; exact (cu_ch0 (cu_go gp246 (by omega) (by omega)) gp254).trans (cu_eq (by omega) (by omega) (by omega)).symm) (fun b => absurd (by omega) b)) | (have t := K328; rw [gRe_15 (by omega)]; exact (cu_go gp325 (by omega) (by omega)).trans (cu_eq (by omega) (by omega) (by omega)).symm) | (have t := K383; rw [gRe_f (by omega), cu_go gp341 (by omega) (by omega)]; exact cu_br (fun b => by rw [if_pos (by omega)]; exact (cu_go gp380 (by omega) (by omega)).trans (cu_eq (by omega) (by omega) (by omega)).symm) (fun b => absurd (by omega) b)) | (have t := K454; rw [gRe_13 a435 b435 c435 d435]; exact (cu_ch0 (cu_go gp443 (by omega) (by omega)) gp451).trans (cu_eq (by omega) (by omega) (by omega)).symm) | exact GZ.o (by omega) | exact (FU_e U413 (by omega) (fun b k => gRn_0 (gBt_zz (m421 b) (by omega)))).trans (cu_eqb (by omega) (fun b => n421.o (by omega)) (by omega)).symm | exact FU_b U413 (by omega)), (by omega), (by omega), (by first | (have t := K94; exact (fun b => rsr_10 ⟨by omega, by omega⟩ (by omega) (Or.inr (Or.inl ⟨by omega, by omega, by omega⟩)))) | (have t := K105; exact (fun b => rsr_10 ⟨by omega, by omega⟩ (by omega) (Or.inr (Or.inr ⟨by omega, by omega, by omega⟩)))) | (have t := K191; exact (fun b => rsr_11 ⟨by omega, by omega⟩ (by omega) (Or.inr ⟨by omega, by omega⟩))) | (have t := K257; exact (fun b => by have t := t222.o (by omega); exact rsr_12 a204 b204 c204 (by omega) (by omega) (Or.inr ⟨by omega, by rw [t]; omega, by omega⟩))) | (have t := K328; exact (fun b => rsr_15 (by omega) (by omega) (by omega))) | (have t := K383; exact (fun b => by have t := t341.o (by omega); exact rsr_f (by omega) (by omega) (Or.inl ⟨by omega, by omega, by omega⟩))) | (have t := K454; exact (fun b => rsr_13 a435 b435 c435 d435 (by omega) (by omega) (by omega))) | exact RS.o (by omega) | exact (fun b => rsr_f (by omega) (by omega) (Or.inr (Or.inl ⟨s413.o, by omega⟩)))), (by omega), (by omega), (by first | assumption | exact (by assumption : JR T40 _ _))⟩
    · refine y_aload_n rfl rfl ?_
      refine y_callV rfl rfl rfl (t_mo_isMore__p hHT40 fs ns (by first | assumption | exact (VLR_FR hFT40 rfl (by assumption : VLR S _ _))) (by first | assumption | exact (by assumption : JR T40 _ _)) _) ?_
      rintro _ T41 ⟨hHT41, w480, z479, rfl, w479, m421_, w474, w475, w476, w477, w478⟩
      have hFT41 : FR md_mo_rest__p S T41 := FR.tr hFT40 w480 rfl
      show Pl _ _ _ _ _ _ [iv z479] _ _
      have : Xi T41 904 65 = 0 → (fs : Int) ≤ Xi T41 904 8 ∧ Xi T41 904 8 ≤ fs + ns := JR.i (by assumption)
      have m421 := m421_
      try rw [FRR hFT40 rfl] at m421
      have y421 : Hid (z479 = 1 → Xi T40 904 8 < Xi T41 904 8) := fun q => gBt_up (m421 (by omega)) q
      have n421 : Hid (z479 = 0 → Xi T41 904 8 = Xi T40 904 8) := fun q => gBt_z8 (m421 (by omega)) q
      refine y_if_eq rfl rfl (by unfold rg; omega) (fun w481 => ?_) (fun w482 => ?_)
      · refine y_return rfl rfl ?_
        have w483 : Xi T41 904 65 = Xi T40 904 65 := (show Xi T41 904 65 = Xi T40 904 65 from w480.x _ _ rfl)
        have w484 : Xi T41 904 66 = Xi T40 904 66 := (show Xi T41 904 66 = Xi T40 904 66 from w480.x _ _ rfl)
        have w485 : Xi T41 904 69 = Xi T40 904 69 := (show Xi T41 904 69 = Xi T40 904 69 from w480.x _ _ rfl)
        have w486 : Xi T41 904 70 = Xi T40 904 70 := (show Xi T41 904 70 = Xi T40 904 70 from w480.x _ _ rfl)
        have w487 : Xi T41 904 73 = Xi T40 904 73 := (show Xi T41 904 73 = Xi T40 904 73 from w480.x _ _ rfl)
        have w488 : Xi T41 904 74 = Xi T40 904 74 := (show Xi T41 904 74 = Xi T40 904 74 from w480.x _ _ rfl)
        have w489 : Xi T41 904 75 = Xi T40 904 75 := (show Xi T41 904 75 = Xi T40 904 75 from w480.x _ _ rfl)
        have w490 : Xi T41 904 76 = Xi T40 904 76 := (show Xi T41 904 76 = Xi T40 904 76 from w480.x _ _ rfl)
        have w491 : Xi T41 904 78 = Xi T40 904 78 := (show Xi T41 904 78 = Xi T40 904 78 from w480.x _ _ rfl)
        have w492 : Xi T41 904 93 = Xi T40 904 93 := (show Xi T41 904 93 = Xi T40 904 93 from w480.x _ _ rfl)
        exact ⟨hHT41, hFT41, rfl, (by first | (have t := K94; rw [gRe_10 ⟨by omega, by omega⟩, if_pos (by omega), if_pos (by omega)]; exact cu_1 (by omega) (by omega)) | (have t := K105; rw [gRe_10 ⟨by omega, by omega⟩, if_pos (by omega), if_neg (by omega)]; exact (cu_go gp102 (by omega) (by omega)).trans (cu_eq (by omega) (by omega) (by omega)).symm) | (have t := K191; rw [gRe_11 ⟨by omega, by omega⟩, if_pos (by omega), cu_go gp177 (by omega) (by omega), gp183, gp188]; exact (cu_eq (by omega) (by omega) (by omega)).symm) | (have t := K257; rw [gRe_12 b204 c204 a204, cu_go gp222 (by omega) (by omega)]; exact cu_br (fun b => by rw [if_neg (by omega)]; exact (cu_ch0 (cu_go gp246 (by omega) (by omega)) gp254).trans (cu_eq (by omega) (by omega) (by omega)).symm) (fun b => absurd (by omega) b)) | (have t := K328; rw [gRe_15 (by omega)]; exact (cu_go gp325 (by omega) (by omega)).trans (cu_eq (by omega) (by omega) (by omega)).symm) | (have t := K383; rw [gRe_f (by omega), cu_go gp341 (by omega) (by omega)]; exact cu_br (fun b => by rw [if_pos (by omega)]; exact (cu_go gp380 (by omega) (by omega)).trans (cu_eq (by omega) (by omega) (by omega)).symm) (fun b => absurd (by omega) b)) | (have t := K454; rw [gRe_13 a435 b435 c435 d435]; exact (cu_ch0 (cu_go gp443 (by omega) (by omega)) gp451).trans (cu_eq (by omega) (by omega) (by omega)).symm) | exact GZ.o (by omega) | exact (FU_e U413 (by omega) (fun b k => gRn_0 (gBt_zz (m421 b) (by omega)))).trans (cu_eqb (by omega) (fun b => n421.o (by omega)) (by omega)).symm | exact FU_b U413 (by omega)), (by omega), (by omega), (by first | (have t := K94; exact (fun b => rsr_10 ⟨by omega, by omega⟩ (by omega) (Or.inr (Or.inl ⟨by omega, by omega, by omega⟩)))) | (have t := K105; exact (fun b => rsr_10 ⟨by omega, by omega⟩ (by omega) (Or.inr (Or.inr ⟨by omega, by omega, by omega⟩)))) | (have t := K191; exact (fun b => rsr_11 ⟨by omega, by omega⟩ (by omega) (Or.inr ⟨by omega, by omega⟩))) | (have t := K257; exact (fun b => by have t := t222.o (by omega); exact rsr_12 a204 b204 c204 (by omega) (by omega) (Or.inr ⟨by omega, by rw [t]; omega, by omega⟩))) | (have t := K328; exact (fun b => rsr_15 (by omega) (by omega) (by omega))) | (have t := K383; exact (fun b => by have t := t341.o (by omega); exact rsr_f (by omega) (by omega) (Or.inl ⟨by omega, by omega, by omega⟩))) | (have t := K454; exact (fun b => rsr_13 a435 b435 c435 d435 (by omega) (by omega) (by omega))) | exact RS.o (by omega) | exact (fun b => rsr_f (by omega) (by omega) (Or.inr (Or.inl ⟨s413.o, by omega⟩)))), (by omega), (by omega), (by first | assumption | exact (by assumption : JR T41 _ _))⟩
      · refine y_aload_n rfl rfl ?_
        have w493 : Xi T41 904 65 = Xi T40 904 65 := (show Xi T41 904 65 = Xi T40 904 65 from w480.x _ _ rfl)
        have w495 : Xi T41 904 69 = Xi T40 904 69 := (show Xi T41 904 69 = Xi T40 904 69 from w480.x _ _ rfl)
        refine y_callV rfl rfl rfl (t_mo_run__p hHT41 fs ns (by first | assumption | exact (VLR_FR hFT41 rfl (by assumption : VLR S _ _))) (by first | assumption | exact (by assumption : JR T41 _ _)) _) ?_
        rintro _ T42 ⟨hHT42, w510, z509, rfl, w509, w503, w504, w505, w506, w507, w508⟩
        have hFT42 : FR md_mo_rest__p S T42 := FR.tr hFT41 w510 rfl
        show Pl _ _ _ _ _ _ [iv z509] _ _
        have : Xi T42 904 65 = 0 → (fs : Int) ≤ Xi T42 904 8 ∧ Xi T42 904 8 ≤ fs + ns := JR.i (by assumption)
        have gp428 := w503
        try rw [FRR hFT41 rfl] at gp428
        clear w503
        refine y_pop rfl rfl ?_
        refine y_goto rfl rfl ?_
        have w511 : Xi T42 904 70 = Xi T40 904 70 := (show Xi T42 904 70 = Xi T41 904 70 from w510.x _ _ rfl).trans ((show Xi T41 904 70 = Xi T40 904 70 from w480.x _ _ rfl))
        have w512 : Xi T42 904 73 = Xi T40 904 73 := (show Xi T42 904 73 = Xi T41 904 73 from w510.x _ _ rfl).trans ((show Xi T41 904 73 = Xi T40 904 73 from w480.x _ _ rfl))
        have w513 : Xi T42 904 74 = Xi T40 904 74 := (show Xi T42 904 74 = Xi T41 904 74 from w510.x _ _ rfl).trans ((show Xi T41 904 74 = Xi T40 904 74 from w480.x _ _ rfl))
        have w514 : Xi T42 904 75 = Xi T40 904 75 := (show Xi T42 904 75 = Xi T41 904 75 from w510.x _ _ rfl).trans ((show Xi T41 904 75 = Xi T40 904 75 from w480.x _ _ rfl))
        have w515 : Xi T42 904 76 = Xi T40 904 76 := (show Xi T42 904 76 = Xi T41 904 76 from w510.x _ _ rfl).trans ((show Xi T41 904 76 = Xi T40 904 76 from w480.x _ _ rfl))
        have w516 : Xi T42 904 78 = Xi T40 904 78 := (show Xi T42 904 78 = Xi T41 904 78 from w510.x _ _ rfl).trans ((show Xi T41 904 78 = Xi T40 904 78 from w480.x _ _ rfl))
        have w517 : Xi T42 904 93 = Xi T40 904 93 := (show Xi T42 904 93 = Xi T41 904 93 from w510.x _ _ rfl).trans ((show Xi T41 904 93 = Xi T40 904 93 from w480.x _ _ rfl))
        exact Pl_weak (ih413 (by omega) T42 hHT42 hFT42  (by omega) (by omega) (by omega) (by omega) (by omega) (by omega) (by first | assumption | exact (by assumption : JR T42 _ _)) (by omega) (by omega) (by first | exact s413 | exact s407) (by first | (have t := gp428; exact FU_s U413 (by omega) (by omega) (fun k => by rw [gRn_1 (gBt_11 (m421 (by omega)) (by omega)), cu_go gp428 (by omega) rfl]) (fun b => by have q := y421.o (by omega); omega)) | exact FU_0 (by rw [gRe_f (by omega), g407]; exact cu_f16 (by omega) (by omega) (by omega) (fun b => by omega) (fun b => by omega)) (by omega))) (by omega) (And.intro rfl (True.intro))
set_option maxRecDepth 100000 in
theorem c407_mo_rest__p {S : sS} (hH : RI S) (fs : Nat) (ns : Nat) (hvl : VLR S fs ns) (hJR : JR S fs ns) (hb : Xi S 904 65 = 0) (d : Nat) (fu : Nat) : ∀  (T43 : sS) (_ : RI T43) (_ : FR md_mo_rest__p S T43), (Xi T43 904 75 = Xi S 904 75) → (Xi T43 904 76 = Xi S 904 76) → (Xi T43 904 65 = 0) → (Xi S 904 8 ≤ Xi T43 904 8) → (Xi S 904 69 ≤ Xi T43 904 69) → (Xi T43 904 78 = Xi S 904 69) → (JR T43 fs ns) → ((fs : Int) ≤ Xi T43 904 8 ∧ Xi T43 904 8 ≤ fs + ns) → (gR (tR S fs ns) (Xi S 904 8 - fs) = cu T43 fs) → (tR S fs ns (Xi S 904 8 - fs) = 100) → ((tR S fs ns (Xi T43 904 8 - fs) = 16 ∨ tR S fs ns (Xi T43 904 8 - fs) = 104) ∧ tR S fs ns (Xi T43 904 8 - fs) ≠ 7) → (Hid ((tR S fs ns) (re7 (tR S fs ns) (Xi S 904 8 - fs)) = 16 ∨ (tR S fs ns) (re7 (tR S fs ns) (Xi S 904 8 - fs)) = 104)) → Pl fu lay0 (d + 3) m_mo_rest 407 [(0, .ref 904)] [] T43 (Q_mo_rest__p S fs ns) := by
  have C413 := c413_mo_rest__p hH fs ns hvl hJR hb d  fu
  have hF : FR md_mo_rest__p S S := FR.rf
  have w1 : -2147483648 ≤ Xi S 904 65 ∧ Xi S 904 65 ≤ 2147483647 := Xi_rgI
  have w2 : -2147483648 ≤ Xi S 904 66 ∧ Xi S 904 66 ≤ 2147483647 := Xi_rgI
  have w3 : -2147483648 ≤ Xi S 904 69 ∧ Xi S 904 69 ≤ 2147483647 := Xi_rgI
  have w4 : -2147483648 ≤ Xi S 904 70 ∧ Xi S 904 70 ≤ 2147483647 := Xi_rgI
  have w5 : -2147483648 ≤ Xi S 904 73 ∧ Xi S 904 73 ≤ 2147483647 := Xi_rgI
  have w6 : -2147483648 ≤ Xi S 904 74 ∧ Xi S 904 74 ≤ 2147483647 := Xi_rgI
  have w7 : -2147483648 ≤ Xi S 904 75 ∧ Xi S 904 75 ≤ 2147483647 := Xi_rgI
  have w8 : -2147483648 ≤ Xi S 904 76 ∧ Xi S 904 76 ≤ 2147483647 := Xi_rgI
  have w9 : -2147483648 ≤ Xi S 904 78 ∧ Xi S 904 78 ≤ 2147483647 := Xi_rgI
  have w10 : -2147483648 ≤ Xi S 904 8 ∧ Xi S 904 8 ≤ 2147483647 := Xi_rgI
  have w11 : -2147483648 ≤ Xi S 904 93 ∧ Xi S 904 93 ≤ 2147483647 := Xi_rgI
  have : Xi S 904 65 = 0 → (fs : Int) ≤ Xi S 904 8 ∧ Xi S 904 8 ≤ fs + ns := JR.i (by assumption)
  have hbd := hvl.2.2.2
  intro T43 hHT43 hFT43 w518 w519 w520 w521 w522 w523 J407 j407 g407 a407 c407 s407
  have w524 : -2147483648 ≤ Xi T43 904 65 ∧ Xi T43 904 65 ≤ 2147483647 := Xi_rgI
  have w525 : -2147483648 ≤ Xi T43 904 66 ∧ Xi T43 904 66 ≤ 2147483647 := Xi_rgI
  have w526 : -2147483648 ≤ Xi T43 904 69 ∧ Xi T43 904 69 ≤ 2147483647 := Xi_rgI
  have w527 : -2147483648 ≤ Xi T43 904 70 ∧ Xi T43 904 70 ≤ 2147483647 := Xi_rgI
  have w528 : -2147483648 ≤ Xi T43 904 73 ∧ Xi T43 904 73 ≤ 2147483647 := Xi_rgI
  have w529 : -2147483648 ≤ Xi T43 904 74 ∧ Xi T43 904 74 ≤ 2147483647 := Xi_rgI
  have w530 : -2147483648 ≤ Xi T43 904 75 ∧ Xi T43 904 75 ≤ 2147483647 := Xi_rgI
  have w531 : -2147483648 ≤ Xi T43 904 76 ∧ Xi T43 904 76 ≤ 2147483647 := Xi_rgI
  have w532 : -2147483648 ≤ Xi T43 904 78 ∧ Xi T43 904 78 ≤ 2147483647 := Xi_rgI
  have w533 : -2147483648 ≤ Xi T43 904 8 ∧ Xi T43 904 8 ≤ 2147483647 := Xi_rgI
  have w534 : -2147483648 ≤ Xi T43 904 93 ∧ Xi T43 904 93 ≤ 2147483647 := Xi_rgI
  refine y_aload_n rfl rfl ?_
  refine y_bipush rfl rfl ?_
  refine y_pfi rfl rfl rfl rfl ?_
  obtain ⟨U44, eU44⟩ : ∃ T : sS, T = uI T43 904 70 (Int32.ofInt 16) := ⟨_, rfl⟩
  rw [← eU44]
  have hHU44 : RI U44 := by rw [eU44]; exact RI_w hHT43
  have hFU44 : FR md_mo_rest__p S U44 := by rw [eU44]; exact FR.wI hFT43 (mdf_i (r := (904, 905, 70, 71)) (List.mem_of_getElem? (i := 4) rfl) (inR_i (by omega) (by omega) (by omega) (by omega)))
  have w535 : Xi U44 904 70 = 16 := by rw [eU44]; exact Xi_same (by unfold rg; omega)
  have w536 : Xi U44 904 65 = Xi T43 904 65 := (show Xi U44 904 65 = Xi T43 904 65 from by rw [eU44]; exact Xi_ne (by omega))
  have w537 : Xi U44 904 66 = Xi T43 904 66 := (show Xi U44 904 66 = Xi T43 904 66 from by rw [eU44]; exact Xi_ne (by omega))
  have w538 : Xi U44 904 69 = Xi T43 904 69 := (show Xi U44 904 69 = Xi T43 904 69 from by rw [eU44]; exact Xi_ne (by omega))
  have w539 : Xi U44 904 73 = Xi T43 904 73 := (show Xi U44 904 73 = Xi T43 904 73 from by rw [eU44]; exact Xi_ne (by omega))
  have w540 : Xi U44 904 74 = Xi T43 904 74 := (show Xi U44 904 74 = Xi T43 904 74 from by rw [eU44]; exact Xi_ne (by omega))
  have w541 : Xi U44 904 75 = Xi T43 904 75 := (show Xi U44 904 75 = Xi T43 904 75 from by rw [eU44]; exact Xi_ne (by omega))
  have w542 : Xi U44 904 76 = Xi T43 904 76 := (show Xi U44 904 76 = Xi T43 904 76 from by rw [eU44]; exact Xi_ne (by omega))
  have w543 : Xi U44 904 78 = Xi T43 904 78 := (show Xi U44 904 78 = Xi T43 904 78 from by rw [eU44]; exact Xi_ne (by omega))
  have w544 : Xi U44 904 8 = Xi T43 904 8 := (show Xi U44 904 8 = Xi T43 904 8 from by rw [eU44]; exact Xi_ne (by omega))
  have w545 : Xi U44 904 93 = Xi T43 904 93 := (show Xi U44 904 93 = Xi T43 904 93 from by rw [eU44]; exact Xi_ne (by omega))
  exact Pl_weak (C413 fu (by omega) U44 hHU44 hFU44  (by omega) (by omega) (by omega) (by omega) (by omega) (by omega) (by first | assumption | exact (JR_FR (FR_e eU44) rfl rfl rfl (by assumption : JR T43 _ _))) (by omega) (by omega) (by first | exact s413 | exact s407) (by first | (have t := gp428; exact FU_s U413 (by omega) (by omega) (fun k => by rw [gRn_1 (gBt_11 (m421 (by omega)) (by omega)), cu_go gp428 (by omega) rfl]) (fun b => by have q := y421.o (by omega); omega)) | exact FU_0 (by rw [gRe_f (by omega), g407]; exact cu_f16 (by omega) (by omega) (by omega) (fun b => by omega) (fun b => by omega)) (by omega))) (by omega) (And.intro rfl (True.intro))
set_option maxRecDepth 100000 in
theorem c339_mo_rest__p {S : sS} (hH : RI S) (fs : Nat) (ns : Nat) (hvl : VLR S fs ns) (hJR : JR S fs ns) (hb : Xi S 904 65 = 0) (d : Nat) (fu : Nat) : ∀  (T45 : sS) (_ : RI T45) (_ : FR md_mo_rest__p S T45), (Xi T45 904 8 = Xi S 904 8) → (Xi T45 904 65 = 0) → (Xi T45 904 69 = Xi S 904 69) → (Xi T45 904 73 = 0) → (Xi T45 904 75 = Xi S 904 75) → (Xi T45 904 76 = Xi S 904 76) → (JR T45 fs ns) → (tR S fs ns (Xi S 904 8 - fs) = 100) → Pl fu lay0 (d + 3) m_mo_rest 339 [(0, .ref 904)] [] T45 (Q_mo_rest__p S fs ns) := by
  have C407 := c407_mo_rest__p hH fs ns hvl hJR hb d  fu
  have hF : FR md_mo_rest__p S S := FR.rf
  have w1 : -2147483648 ≤ Xi S 904 65 ∧ Xi S 904 65 ≤ 2147483647 := Xi_rgI
  have w2 : -2147483648 ≤ Xi S 904 66 ∧ Xi S 904 66 ≤ 2147483647 := Xi_rgI
  have w3 : -2147483648 ≤ Xi S 904 69 ∧ Xi S 904 69 ≤ 2147483647 := Xi_rgI
  have w4 : -2147483648 ≤ Xi S 904 70 ∧ Xi S 904 70 ≤ 2147483647 := Xi_rgI
  have w5 : -2147483648 ≤ Xi S 904 73 ∧ Xi S 904 73 ≤ 2147483647 := Xi_rgI
  have w6 : -2147483648 ≤ Xi S 904 74 ∧ Xi S 904 74 ≤ 2147483647 := Xi_rgI
  have w7 : -2147483648 ≤ Xi S 904 75 ∧ Xi S 904 75 ≤ 2147483647 := Xi_rgI
  have w8 : -2147483648 ≤ Xi S 904 76 ∧ Xi S 904 76 ≤ 2147483647 := Xi_rgI
  have w9 : -2147483648 ≤ Xi S 904 78 ∧ Xi S 904 78 ≤ 2147483647 := Xi_rgI
  have w10 : -2147483648 ≤ Xi S 904 8 ∧ Xi S 904 8 ≤ 2147483647 := Xi_rgI
  have w11 : -2147483648 ≤ Xi S 904 93 ∧ Xi S 904 93 ≤ 2147483647 := Xi_rgI
  have : Xi S 904 65 = 0 → (fs : Int) ≤ Xi S 904 8 ∧ Xi S 904 8 ≤ fs + ns := JR.i (by assumption)
  have hbd := hvl.2.2.2
  intro T45 hHT45 hFT45 w546 w547 w548 w549 w550 w551 J339 a339
  have w552 : -2147483648 ≤ Xi T45 904 65 ∧ Xi T45 904 65 ≤ 2147483647 := Xi_rgI
  have w553 : -2147483648 ≤ Xi T45 904 66 ∧ Xi T45 904 66 ≤ 2147483647 := Xi_rgI
  have w554 : -2147483648 ≤ Xi T45 904 69 ∧ Xi T45 904 69 ≤ 2147483647 := Xi_rgI
  have w555 : -2147483648 ≤ Xi T45 904 70 ∧ Xi T45 904 70 ≤ 2147483647 := Xi_rgI
  have w556 : -2147483648 ≤ Xi T45 904 73 ∧ Xi T45 904 73 ≤ 2147483647 := Xi_rgI
  have w557 : -2147483648 ≤ Xi T45 904 74 ∧ Xi T45 904 74 ≤ 2147483647 := Xi_rgI
  have w558 : -2147483648 ≤ Xi T45 904 75 ∧ Xi T45 904 75 ≤ 2147483647 := Xi_rgI
  have w559 : -2147483648 ≤ Xi T45 904 76 ∧ Xi T45 904 76 ≤ 2147483647 := Xi_rgI
  have w560 : -2147483648 ≤ Xi T45 904 78 ∧ Xi T45 904 78 ≤ 2147483647 := Xi_rgI
  have w561 : -2147483648 ≤ Xi T45 904 8 ∧ Xi T45 904 8 ≤ 2147483647 := Xi_rgI
  have w562 : -2147483648 ≤ Xi T45 904 93 ∧ Xi T45 904 93 ≤ 2147483647 := Xi_rgI
  refine y_aload_n rfl rfl ?_
  refine y_aload_n rfl rfl ?_
  refine y_callV rfl rfl rfl (t_mo_run__p hHT45 fs ns (by first | assumption | exact (VLR_FR hFT45 rfl (by assumption : VLR S _ _))) (by first | assumption | exact (by assumption : JR T45 _ _)) _) ?_
  rintro _ T46 ⟨hHT46, w570, z569, rfl, w569, w563, w564, w565, w566, w567, w568⟩
  have hFT46 : FR md_mo_rest__p S T46 := FR.tr hFT45 w570 rfl
  show Pl _ _ _ _ _ _ [iv z569, .ref 904] _ _
  have : Xi T46 904 65 = 0 → (fs : Int) ≤ Xi T46 904 8 ∧ Xi T46 904 8 ≤ fs + ns := JR.i (by assumption)
  have gp341 := w563
  try rw [FRR hFT45 rfl] at gp341
  clear w563
  have t341 : Hid (Xi T46 904 65 = 0 → (tR S fs ns) (re7 (tR S fs ns) (Xi S 904 8 - fs)) = (tR S fs ns) (Xi T46 904 8 - fs)) := fun b => by rw [gR_at (a := Xi S 904 8 - fs) (cu_go gp341 (by omega) (by omega)) b]
  refine y_pfi rfl rfl rfl rfl ?_
  obtain ⟨U47, eU47⟩ : ∃ T : sS, T = uI T46 904 78 (Int32.ofInt z569) := ⟨_, rfl⟩
  rw [← eU47]
  have hHU47 : RI U47 := by rw [eU47]; exact RI_w hHT46
  have hFU47 : FR md_mo_rest__p S U47 := by rw [eU47]; exact FR.wI hFT46 (mdf_i (r := (904, 905, 78, 79)) (List.mem_of_getElem? (i := 9) rfl) (inR_i (by omega) (by omega) (by omega) (by omega)))
  have w571 : Xi U47 904 78 = z569 := by rw [eU47]; exact Xi_same (by unfold rg; omega)
  refine y_aload_n rfl rfl ?_
  refine y_bipush rfl rfl ?_
  refine y_pfi rfl rfl rfl rfl ?_
  obtain ⟨U48, eU48⟩ : ∃ T : sS, T = uI U47 904 70 (Int32.ofInt 15) := ⟨_, rfl⟩
  rw [← eU48]
  have hHU48 : RI U48 := by rw [eU48]; exact RI_w hHU47
  have hFU48 : FR md_mo_rest__p S U48 := by rw [eU48]; exact FR.wI hFU47 (mdf_i (r := (904, 905, 70, 71)) (List.mem_of_getElem? (i := 4) rfl) (inR_i (by omega) (by omega) (by omega) (by omega)))
  have w572 : Xi U48 904 70 = 15 := by rw [eU48]; exact Xi_same (by unfold rg; omega)
  refine y_aload_n rfl rfl ?_
  refine y_bipush rfl rfl ?_
  have w573 : Xi U48 904 65 = Xi T46 904 65 := (show Xi U48 904 65 = Xi U47 904 65 from by rw [eU48]; exact Xi_ne (by omega)).trans ((show Xi U47 904 65 = Xi T46 904 65 from by rw [eU47]; exact Xi_ne (by omega)))
  have w574 : Xi U48 904 66 = Xi T46 904 66 := (show Xi U48 904 66 = Xi U47 904 66 from by rw [eU48]; exact Xi_ne (by omega)).trans ((show Xi U47 904 66 = Xi T46 904 66 from by rw [eU47]; exact Xi_ne (by omega)))
  have w575 : Xi U48 904 69 = Xi T46 904 69 := (show Xi U48 904 69 = Xi U47 904 69 from by rw [eU48]; exact Xi_ne (by omega)).trans ((show Xi U47 904 69 = Xi T46 904 69 from by rw [eU47]; exact Xi_ne (by omega)))
  have w576 : Xi U48 904 73 = Xi T45 904 73 := (show Xi U48 904 73 = Xi U47 904 73 from by rw [eU48]; exact Xi_ne (by omega)).trans ( (show Xi U47 904 73 = Xi T46 904 73 from by rw [eU47]; exact Xi_ne (by omega)).trans ((show Xi T46 904 73 = Xi T45 904 73 from w570.x _ _ rfl)))
  have w577 : Xi U48 904 74 = Xi T45 904 74 := (show Xi U48 904 74 = Xi U47 904 74 from by rw [eU48]; exact Xi_ne (by omega)).trans ( (show Xi U47 904 74 = Xi T46 904 74 from by rw [eU47]; exact Xi_ne (by omega)).trans ((show Xi T46 904 74 = Xi T45 904 74 from w570.x _ _ rfl)))
  have w578 : Xi U48 904 75 = Xi T45 904 75 := (show Xi U48 904 75 = Xi U47 904 75 from by rw [eU48]; exact Xi_ne (by omega)).trans ( (show Xi U47 904 75 = Xi T46 904 75 from by rw [eU47]; exact Xi_ne (by omega)).trans ((show Xi T46 904 75 = Xi T45 904 75 from w570.x _ _ rfl)))
  have w579 : Xi U48 904 76 = Xi T45 904 76 := (show Xi U48 904 76 = Xi U47 904 76 from by rw [eU48]; exact Xi_ne (by omega)).trans ( (show Xi U47 904 76 = Xi T46 904 76 from by rw [eU47]; exact Xi_ne (by omega)).trans ((show Xi T46 904 76 = Xi T45 904 76 from w570.x _ _ rfl)))
  have w580 : Xi U48 904 78 = Xi U47 904 78 := (show Xi U48 904 78 = Xi U47 904 78 from by rw [eU48]; exact Xi_ne (by omega))
  have w581 : Xi U48 904 8 = Xi T46 904 8 := (show Xi U48 904 8 = Xi U47 904 8 from by rw [eU48]; exact Xi_ne (by omega)).trans ((show Xi U47 904 8 = Xi T46 904 8 from by rw [eU47]; exact Xi_ne (by omega)))
  have w582 : Xi U48 904 93 = Xi T45 904 93 := (show Xi U48 904 93 = Xi U47 904 93 from by rw [eU48]; exact Xi_ne (by omega)).trans ( (show Xi U47 904 93 = Xi T46 904 93 from by rw [eU47]; exact Xi_ne (by omega)).trans ((show Xi T46 904 93 = Xi T45 904 93 from w570.x _ _ rfl)))
  refine y_callV rfl rfl rfl (t_mo_isNext__p hHU48 fs ns 107 ⟨by omega, by omega⟩ (by first | assumption | exact (VLR_FR hFU48 rfl (by assumption : VLR S _ _))) (by first | assumption | exact JR.i (by first | assumption | exact (JR_FR (FR_e eU48) rfl rfl rfl (JR_FR (FR_e eU47) rfl rfl rfl (by assumption : JR T46 _ _))))) (rfl) _) ?_
  rintro _ _ ⟨rfl, z584, rfl, w584, w583⟩
  show Pl _ _ _ _ _ _ [iv z584] _ _
  have gb356 := w583
  try rw [FRR hFU48 rfl] at gb356
  try rw [show Xi U48 904 8 = Xi T46 904 8 by omega] at gb356
  try rw [show un7 107 = 7 from rfl] at gb356
  clear w583
  refine y_if_eq rfl rfl (by unfold rg; omega) (fun w585 => ?_) (fun w586 => ?_)
  · refine y_aload_n rfl rfl ?_
    refine y_bipush rfl rfl ?_
    refine y_callV rfl rfl rfl (t_mo_isNext__p hHU48 fs ns 116 ⟨by omega, by omega⟩ (by first | assumption | exact (VLR_FR hFU48 rfl (by assumption : VLR S _ _))) (by first | assumption | exact JR.i (by first | assumption | exact (JR_FR (FR_e eU48) rfl rfl rfl (JR_FR (FR_e eU47) rfl rfl rfl (by assumption : JR T46 _ _))))) (rfl) _) ?_
    rintro _ _ ⟨rfl, z598, rfl, w598, w597⟩
    show Pl _ _ _ _ _ _ [iv z598] _ _
    have gb392 := w597
    try rw [FRR hFU48 rfl] at gb392
    try rw [show Xi U48 904 8 = Xi T46 904 8 by omega] at gb392
    try rw [show un7 116 = 16 from rfl] at gb392
    clear w597
    refine y_if_ne rfl rfl (by unfold rg; omega) (fun w599 => ?_) (fun w600 => ?_)
    · have w601 : Xi U48 904 65 = Xi T46 904 65 := (show Xi U48 904 65 = Xi U47 904 65 from by rw [eU48]; exact Xi_ne (by omega)).trans ((show Xi U47 904 65 = Xi T46 904 65 from by rw [eU47]; exact Xi_ne (by omega)))
      exact Pl_weak (C407 U48 hHU48 hFU48  (by omega) (by omega) (by omega) (by omega) (by omega) (by omega) (by first | assumption | exact (JR_FR (FR_e eU48) rfl rfl rfl (JR_FR (FR_e eU47) rfl rfl rfl (by assumption : JR T46 _ _)))) (by omega) ((cu_go gp341 (by omega) (by omega)).trans (cu_eq (by omega) (by omega) (by omega)).symm) (by omega) (by rw [show Xi U48 904 8 = Xi T46 904 8 by omega]; omega) (by have t := t341.o (by omega); unfold Hid; omega)) (by omega) (And.intro rfl (True.intro))
    · refine y_aload_n rfl rfl ?_
      refine y_bipush rfl rfl ?_
      refine y_callV rfl rfl rfl (t_mo_isNext__p hHU48 fs ns 44 ⟨by omega, by omega⟩ (by first | assumption | exact (VLR_FR hFU48 rfl (by assumption : VLR S _ _))) (by first | assumption | exact JR.i (by first | assumption | exact (JR_FR (FR_e eU48) rfl rfl rfl (JR_FR (FR_e eU47) rfl rfl rfl (by assumption : JR T46 _ _))))) (rfl) _) ?_
      rintro _ _ ⟨rfl, z622, rfl, w622, w621⟩
      show Pl _ _ _ _ _ _ [iv z622] _ _
      have gb401 := w621
      try rw [FRR hFU48 rfl] at gb401
      try rw [show Xi U48 904 8 = Xi T46 904 8 by omega] at gb401
      try rw [show un7 44 = 104 from rfl] at gb401
      clear w621
      have GZ : Hid ((z622 = 0) → gRe (tR S fs ns) (Xi S 904 8 - fs) = cu U48 fs) := fun q => by rw [gRe_f (by omega), cu_go gp341 (by omega) (by omega)]; exact cu_br (fun b => by rw [if_neg (by omega), if_neg (by omega)]; exact cu_1 (by omega) (by omega)) (fun b => cu_eq (by omega) (by omega) (by omega))
      have RS : Hid ((z622 = 0) → Xi U48 904 65 = 0 → RSR U48 (tR S fs ns) (Xi S 904 8 - fs) (Xi S 904 69)) := fun q b => by have t := t341.o (by omega); exact rsr_f (by omega) (by omega) (Or.inr (Or.inr ⟨by omega, by omega, by omega, by omega⟩))
      refine y_if_eq rfl rfl (by unfold rg; omega) (fun w623 => ?_) (fun w624 => ?_)
      · refine y_return rfl rfl ?_
        exact ⟨hHU48, hFU48, rfl, (by first | (have t := K94; rw [gRe_10 ⟨by omega, by omega⟩, if_pos (by omega), if_pos (by omega)]; exact cu_1 (by omega) (by omega)) | (have t := K105; rw [gRe_10 ⟨by omega, by omega⟩, if_pos (by omega), if_neg (by omega)]; exact (cu_go gp102 (by omega) (by omega)).trans (cu_eq (by omega) (by omega) (by omega)).symm) | (have t := K191; rw [gRe_11 ⟨by omega, by omega⟩, if_pos (by omega), cu_go gp177 (by omega) (by omega), gp183, gp188]; exact (cu_eq (by omega) (by omega) (by omega)).symm) | (have t := K257; rw [gRe_12 b204 c204 a204, cu_go gp222 (by omega) (by omega)]; exact cu_br (fun b => by rw [if_neg (by omega)]; exact (cu_ch0 (cu_go gp246 (by omega) (by omega)) gp254).trans (cu_eq (by omega) (by omega) (by omega)).symm) (fun b => absurd (by omega) b)) | (have t := K328; rw [gRe_15 (by omega)]; exact (cu_go gp325 (by omega) (by omega)).trans (cu_eq (by omega) (by omega) (by omega)).symm) | (have t := K383; rw [gRe_f (by omega), cu_go gp341 (by omega) (by omega)]; exact cu_br (fun b => by rw [if_pos (by omega)]; exact (cu_go gp380 (by omega) (by omega)).trans (cu_eq (by omega) (by omega) (by omega)).symm) (fun b => absurd (by omega) b)) | (have t := K454; rw [gRe_13 a435 b435 c435 d435]; exact (cu_ch0 (cu_go gp443 (by omega) (by omega)) gp451).trans (cu_eq (by omega) (by omega) (by omega)).symm) | exact GZ.o (by omega) | exact (FU_e U413 (by omega) (fun b k => gRn_0 (gBt_zz (m421 b) (by omega)))).trans (cu_eqb (by omega) (fun b => n421.o (by omega)) (by omega)).symm | exact FU_b U413 (by omega)), (by omega), (by omega), (by first | (have t := K94; exact (fun b => rsr_10 ⟨by omega, by omega⟩ (by omega) (Or.inr (Or.inl ⟨by omega, by omega, by omega⟩)))) | (have t := K105; exact (fun b => rsr_10 ⟨by omega, by omega⟩ (by omega) (Or.inr (Or.inr ⟨by omega, by omega, by omega⟩)))) | (have t := K191; exact (fun b => rsr_11 ⟨by omega, by omega⟩ (by omega) (Or.inr ⟨by omega, by omega⟩))) | (have t := K257; exact (fun b => by have t := t222.o (by omega); exact rsr_12 a204 b204 c204 (by omega) (by omega) (Or.inr ⟨by omega, by rw [t]; omega, by omega⟩))) | (have t := K328; exact (fun b => rsr_15 (by omega) (by omega) (by omega))) | (have t := K383; exact (fun b => by have t := t341.o (by omega); exact rsr_f (by omega) (by omega) (Or.inl ⟨by omega, by omega, by omega⟩))) | (have t := K454; exact (fun b => rsr_13 a435 b435 c435 d435 (by omega) (by omega) (by omega))) | exact RS.o (by omega) | exact (fun b => rsr_f (by omega) (by omega) (Or.inr (Or.inl ⟨s413.o, by omega⟩)))), (by omega), (by omega), (by first | assumption | exact (JR_FR (FR_e eU48) rfl rfl rfl (JR_FR (FR_e eU47) rfl rfl rfl (by assumption : JR T46 _ _))))⟩
      · have w635 : Xi U48 904 65 = Xi T46 904 65 := (show Xi U48 904 65 = Xi U47 904 65 from by rw [eU48]; exact Xi_ne (by omega)).trans ((show Xi U47 904 65 = Xi T46 904 65 from by rw [eU47]; exact Xi_ne (by omega)))
        exact Pl_weak (C407 U48 hHU48 hFU48  (by omega) (by omega) (by omega) (by omega) (by omega) (by omega) (by first | assumption | exact (JR_FR (FR_e eU48) rfl rfl rfl (JR_FR (FR_e eU47) rfl rfl rfl (by assumption : JR T46 _ _)))) (by omega) ((cu_go gp341 (by omega) (by omega)).trans (cu_eq (by omega) (by omega) (by omega)).symm) (by omega) (by rw [show Xi U48 904 8 = Xi T46 904 8 by omega]; omega) (by have t := t341.o (by omega); unfold Hid; omega)) (by omega) (And.intro rfl (True.intro))
  · refine y_aload_n rfl rfl ?_
    refine y_bipush rfl rfl ?_
    refine y_pfi rfl rfl rfl rfl ?_
    obtain ⟨U49, eU49⟩ : ∃ T : sS, T = uI U48 904 70 (Int32.ofInt 14) := ⟨_, rfl⟩
    rw [← eU49]
    have hHU49 : RI U49 := by rw [eU49]; exact RI_w hHU48
    have hFU49 : FR md_mo_rest__p S U49 := by rw [eU49]; exact FR.wI hFU48 (mdf_i (r := (904, 905, 70, 71)) (List.mem_of_getElem? (i := 4) rfl) (inR_i (by omega) (by omega) (by omega) (by omega)))
    have w645 : Xi U49 904 70 = 14 := by rw [eU49]; exact Xi_same (by unfold rg; omega)
    have x365_8 : Xi U49 904 8 = Xi U48 904 8 := by rw [eU49, Xi_ne (by omega)]
    have x365_65 : Xi U49 904 65 = Xi U48 904 65 := by rw [eU49, Xi_ne (by omega)]
    have x365_66 : Xi U49 904 66 = Xi U48 904 66 := by rw [eU49, Xi_ne (by omega)]
    have x365_69 : Xi U49 904 69 = Xi U48 904 69 := by rw [eU49, Xi_ne (by omega)]
    refine y_aload_n rfl rfl ?_
    refine y_dup rfl rfl ?_
    refine y_gfi rfl rfl rfl rfl rfl ?_
    have w646 : -2147483648 ≤ (Xi U49 904 8) ∧ (Xi U49 904 8) ≤ 2147483647 := Xi_rgI
    refine y_iconst rfl ?_
    refine y_iadd rfl ?_
    refine y_pfi rfl rfl rfl rfl ?_
    obtain ⟨U50, eU50⟩ : ∃ T : sS, T = uI U49 904 8 (Int32.ofInt ((Xi U49 904 8) + 1)) := ⟨_, rfl⟩
    rw [← eU50]
    have hHU50 : RI U50 := by rw [eU50]; exact RI_w hHU49
    have hFU50 : FR md_mo_rest__p S U50 := by rw [eU50]; exact FR.wI hFU49 (mdf_i (r := (904, 905, 8, 9)) (List.mem_of_getElem? (i := 0) rfl) (inR_i (by omega) (by omega) (by omega) (by omega)))
    have w647 : Xi U50 904 8 = ((Xi U49 904 8) + 1) := by rw [eU50]; exact Xi_same (by unfold rg; omega)
    have b375_ : Xi U50 904 65 = Xi U49 904 65 := (by rw [eU50, Xi_ne (by omega)]); have J375 : JR U50 fs ns := jr_up (JR_FR (FR_e eU49) rfl rfl rfl (JR_FR (FR_e eU48) rfl rfl rfl (JR_FR (FR_e eU47) rfl rfl rfl (by assumption : JR T46 _ _)))) (VLR_FR hFU49 rfl (by assumption : VLR S _ _)) eU50 (by omega) (fun b => by rw [FRR hFU49 rfl, show Xi U49 904 8 = Xi T46 904 8 by omega]; omega)
    have : Xi U50 904 65 = 0 → (fs : Int) ≤ Xi U50 904 8 ∧ Xi U50 904 8 ≤ fs + ns := JR.i (by assumption)
    refine y_aload_n rfl rfl ?_
    refine y_aload_n rfl rfl ?_
    have w648 : Xi U50 904 65 = Xi T46 904 65 := (show Xi U50 904 65 = Xi U49 904 65 from by rw [eU50]; exact Xi_ne (by omega)).trans ( (show Xi U49 904 65 = Xi U48 904 65 from by rw [eU49]; exact Xi_ne (by omega)).trans ( (show Xi U48 904 65 = Xi U47 904 65 from by rw [eU48]; exact Xi_ne (by omega)).trans ((show Xi U47 904 65 = Xi T46 904 65 from by rw [eU47]; exact Xi_ne (by omega)))))
    have w650 : Xi U50 904 69 = Xi T46 904 69 := (show Xi U50 904 69 = Xi U49 904 69 from by rw [eU50]; exact Xi_ne (by omega)).trans ( (show Xi U49 904 69 = Xi U48 904 69 from by rw [eU49]; exact Xi_ne (by omega)).trans ( (show Xi U48 904 69 = Xi U47 904 69 from by rw [eU48]; exact Xi_ne (by omega)).trans ((show Xi U47 904 69 = Xi T46 904 69 from by rw [eU47]; exact Xi_ne (by omega)))))
    refine y_callV rfl rfl rfl (t_mo_name__p hHU50 fs ns (by first | assumption | exact (VLR_FR hFU50 rfl (by assumption : VLR S _ _))) (by first | assumption | exact (by assumption : JR U50 _ _)) _) ?_
    rintro _ T51 ⟨hHT51, w665, z664, rfl, w664, w658, w659, w660, w661, w662, w663⟩
    have hFT51 : FR md_mo_rest__p S T51 := FR.tr hFU50 w665 rfl
    show Pl _ _ _ _ _ _ [iv z664, .ref 904] _ _
    have : Xi T51 904 65 = 0 → (fs : Int) ≤ Xi T51 904 8 ∧ Xi T51 904 8 ≤ fs + ns := JR.i (by assumption)
    have gp380 := w658
    try rw [FRR hFU50 rfl] at gp380
    clear w658
    refine y_pfi rfl rfl rfl rfl ?_
    obtain ⟨U52, eU52⟩ : ∃ T : sS, T = uI T51 904 74 (Int32.ofInt z664) := ⟨_, rfl⟩
    rw [← eU52]
    have hHU52 : RI U52 := by rw [eU52]; exact RI_w hHT51
    have hFU52 : FR md_mo_rest__p S U52 := by rw [eU52]; exact FR.wI hFT51 (mdf_i (r := (904, 905, 74, 75)) (List.mem_of_getElem? (i := 6) rfl) (inR_i (by omega) (by omega) (by omega) (by omega)))
    have w666 : Xi U52 904 74 = z664 := by rw [eU52]; exact Xi_same (by unfold rg; omega)
    have K383 : True := trivial
    refine y_goto rfl rfl ?_
    refine y_return rfl rfl ?_
    have w667 : Xi U52 904 65 = Xi T51 904 65 := (show Xi U52 904 65 = Xi T51 904 65 from by rw [eU52]; exact Xi_ne (by omega))
    have w668 : Xi U52 904 66 = Xi T51 904 66 := (show Xi U52 904 66 = Xi T51 904 66 from by rw [eU52]; exact Xi_ne (by omega))
    have w669 : Xi U52 904 69 = Xi T51 904 69 := (show Xi U52 904 69 = Xi T51 904 69 from by rw [eU52]; exact Xi_ne (by omega))
    have w670 : Xi U52 904 70 = Xi U49 904 70 := (show Xi U52 904 70 = Xi T51 904 70 from by rw [eU52]; exact Xi_ne (by omega)).trans ( (show Xi T51 904 70 = Xi U50 904 70 from w665.x _ _ rfl).trans ((show Xi U50 904 70 = Xi U49 904 70 from by rw [eU50]; exact Xi_ne (by omega))))
    have w671 : Xi U52 904 73 = Xi T45 904 73 := (show Xi U52 904 73 = Xi T51 904 73 from by rw [eU52]; exact Xi_ne (by omega)).trans ( (show Xi T51 904 73 = Xi U50 904 73 from w665.x _ _ rfl).trans ( (show Xi U50 904 73 = Xi U49 904 73 from by rw [eU50]; exact Xi_ne (by omega)).trans ( (show Xi U49 904 73 = Xi U48 904 73 from by rw [eU49]; exact Xi_ne (by omega)).trans ( (show Xi U48 904 73 = Xi U47 904 73 from by rw [eU48]; exact Xi_ne (by omega)).trans ( (show Xi U47 904 73 = Xi T46 904 73 from by rw [eU47]; exact Xi_ne (by omega)).trans ((show Xi T46 904 73 = Xi T45 904 73 from w570.x _ _ rfl)))))))
    have w672 : Xi U52 904 75 = Xi T45 904 75 := (show Xi U52 904 75 = Xi T51 904 75 from by rw [eU52]; exact Xi_ne (by omega)).trans ( (show Xi T51 904 75 = Xi U50 904 75 from w665.x _ _ rfl).trans ( (show Xi U50 904 75 = Xi U49 904 75 from by rw [eU50]; exact Xi_ne (by omega)).trans ( (show Xi U49 904 75 = Xi U48 904 75 from by rw [eU49]; exact Xi_ne (by omega)).trans ( (show Xi U48 904 75 = Xi U47 904 75 from by rw [eU48]; exact Xi_ne (by omega)).trans ( (show Xi U47 904 75 = Xi T46 904 75 from by rw [eU47]; exact Xi_ne (by omega)).trans ((show Xi T46 904 75 = Xi T45 904 75 from w570.x _ _ rfl)))))))
    have w673 : Xi U52 904 76 = Xi T45 904 76 := (show Xi U52 904 76 = Xi T51 904 76 from by rw [eU52]; exact Xi_ne (by omega)).trans ( (show Xi T51 904 76 = Xi U50 904 76 from w665.x _ _ rfl).trans ( (show Xi U50 904 76 = Xi U49 904 76 from by rw [eU50]; exact Xi_ne (by omega)).trans ( (show Xi U49 904 76 = Xi U48 904 76 from by rw [eU49]; exact Xi_ne (by omega)).trans ( (show Xi U48 904 76 = Xi U47 904 76 from by rw [eU48]; exact Xi_ne (by omega)).trans ( (show Xi U47 904 76 = Xi T46 904 76 from by rw [eU47]; exact Xi_ne (by omega)).trans ((show Xi T46 904 76 = Xi T45 904 76 from w570.x _ _ rfl)))))))
    have w674 : Xi U52 904 78 = Xi U47 904 78 := (show Xi U52 904 78 = Xi T51 904 78 from by rw [eU52]; exact Xi_ne (by omega)).trans ( (show Xi T51 904 78 = Xi U50 904 78 from w665.x _ _ rfl).trans ( (show Xi U50 904 78 = Xi U49 904 78 from by rw [eU50]; exact Xi_ne (by omega)).trans ( (show Xi U49 904 78 = Xi U48 904 78 from by rw [eU49]; exact Xi_ne (by omega)).trans ((show Xi U48 904 78 = Xi U47 904 78 from by rw [eU48]; exact Xi_ne (by omega))))))
    have w675 : Xi U52 904 8 = Xi T51 904 8 := (show Xi U52 904 8 = Xi T51 904 8 from by rw [eU52]; exact Xi_ne (by omega))
    have w676 : Xi U52 904 93 = Xi T45 904 93 := (show Xi U52 904 93 = Xi T51 904 93 from by rw [eU52]; exact Xi_ne (by omega)).trans ( (show Xi T51 904 93 = Xi U50 904 93 from w665.x _ _ rfl).trans ( (show Xi U50 904 93 = Xi U49 904 93 from by rw [eU50]; exact Xi_ne (by omega)).trans ( (show Xi U49 904 93 = Xi U48 904 93 from by rw [eU49]; exact Xi_ne (by omega)).trans ( (show Xi U48 904 93 = Xi U47 904 93 from by rw [eU48]; exact Xi_ne (by omega)).trans ( (show Xi U47 904 93 = Xi T46 904 93 from by rw [eU47]; exact Xi_ne (by omega)).trans ((show Xi T46 904 93 = Xi T45 904 93 from w570.x _ _ rfl)))))))
    exact ⟨hHU52, hFU52, rfl, (by first | (have t := K94; rw [gRe_10 ⟨by omega, by omega⟩, if_pos (by omega), if_pos (by omega)]; exact cu_1 (by omega) (by omega)) | (have t := K105; rw [gRe_10 ⟨by omega, by omega⟩, if_pos (by omega), if_neg (by omega)]; exact (cu_go gp102 (by omega) (by omega)).trans (cu_eq (by omega) (by omega) (by omega)).symm) | (have t := K191; rw [gRe_11 ⟨by omega, by omega⟩, if_pos (by omega), cu_go gp177 (by omega) (by omega), gp183, gp188]; exact (cu_eq (by omega) (by omega) (by omega)).symm) | (have t := K257; rw [gRe_12 b204 c204 a204, cu_go gp222 (by omega) (by omega)]; exact cu_br (fun b => by rw [if_neg (by omega)]; exact (cu_ch0 (cu_go gp246 (by omega) (by omega)) gp254).trans (cu_eq (by omega) (by omega) (by omega)).symm) (fun b => absurd (by omega) b)) | (have t := K328; rw [gRe_15 (by omega)]; exact (cu_go gp325 (by omega) (by omega)).trans (cu_eq (by omega) (by omega) (by omega)).symm) | (have t := K383; rw [gRe_f (by omega), cu_go gp341 (by omega) (by omega)]; exact cu_br (fun b => by rw [if_pos (by omega)]; exact (cu_go gp380 (by omega) (by omega)).trans (cu_eq (by omega) (by omega) (by omega)).symm) (fun b => absurd (by omega) b)) | (have t := K454; rw [gRe_13 a435 b435 c435 d435]; exact (cu_ch0 (cu_go gp443 (by omega) (by omega)) gp451).trans (cu_eq (by omega) (by omega) (by omega)).symm) | exact GZ.o (by omega) | exact (FU_e U413 (by omega) (fun b k => gRn_0 (gBt_zz (m421 b) (by omega)))).trans (cu_eqb (by omega) (fun b => n421.o (by omega)) (by omega)).symm | exact FU_b U413 (by omega)), (by omega), (by omega), (by first | (have t := K94; exact (fun b => rsr_10 ⟨by omega, by omega⟩ (by omega) (Or.inr (Or.inl ⟨by omega, by omega, by omega⟩)))) | (have t := K105; exact (fun b => rsr_10 ⟨by omega, by omega⟩ (by omega) (Or.inr (Or.inr ⟨by omega, by omega, by omega⟩)))) | (have t := K191; exact (fun b => rsr_11 ⟨by omega, by omega⟩ (by omega) (Or.inr ⟨by omega, by omega⟩))) | (have t := K257; exact (fun b => by have t := t222.o (by omega); exact rsr_12 a204 b204 c204 (by omega) (by omega) (Or.inr ⟨by omega, by rw [t]; omega, by omega⟩))) | (have t := K328; exact (fun b => rsr_15 (by omega) (by omega) (by omega))) | (have t := K383; exact (fun b => by have t := t341.o (by omega); exact rsr_f (by omega) (by omega) (Or.inl ⟨by omega, by omega, by omega⟩))) | (have t := K454; exact (fun b => rsr_13 a435 b435 c435 d435 (by omega) (by omega) (by omega))) | exact RS.o (by omega) | exact (fun b => rsr_f (by omega) (by omega) (Or.inr (Or.inl ⟨s413.o, by omega⟩)))), (by omega), (by omega), (by first | assumption | exact (JR_FR (FR_e eU52) rfl rfl rfl (by assumption : JR T51 _ _)))⟩
set_option maxRecDepth 100000 in
theorem c435_mo_rest__p {S : sS} (hH : RI S) (fs : Nat) (ns : Nat) (hvl : VLR S fs ns) (hJR : JR S fs ns) (hb : Xi S 904 65 = 0) (d : Nat) (fu : Nat) : ∀  (T53 : sS) (_ : RI T53) (_ : FR md_mo_rest__p S T53), (Xi T53 904 8 = Xi S 904 8) → (Xi T53 904 65 = 0) → (Xi T53 904 69 = Xi S 904 69) → (Xi T53 904 73 = 0) → (Xi T53 904 75 = Xi S 904 75) → (Xi T53 904 76 = Xi S 904 76) → (JR T53 fs ns) → (tR S fs ns (Xi S 904 8 - fs) ≠ 100) → (tR S fs ns (Xi S 904 8 - fs) ≠ 6) → (tR S fs ns (Xi S 904 8 - fs) ≠ 32) → (¬ art7 (tR S fs ns (Xi S 904 8 - fs))) → Pl fu lay0 (d + 3) m_mo_rest 435 [(0, .ref 904)] [] T53 (Q_mo_rest__p S fs ns) := by
  have hF : FR md_mo_rest__p S S := FR.rf
  have w1 : -2147483648 ≤ Xi S 904 65 ∧ Xi S 904 65 ≤ 2147483647 := Xi_rgI
  have w2 : -2147483648 ≤ Xi S 904 66 ∧ Xi S 904 66 ≤ 2147483647 := Xi_rgI
  have w3 : -2147483648 ≤ Xi S 904 69 ∧ Xi S 904 69 ≤ 2147483647 := Xi_rgI
  have w4 : -2147483648 ≤ Xi S 904 70 ∧ Xi S 904 70 ≤ 2147483647 := Xi_rgI
  have w5 : -2147483648 ≤ Xi S 904 73 ∧ Xi S 904 73 ≤ 2147483647 := Xi_rgI
  have w6 : -2147483648 ≤ Xi S 904 74 ∧ Xi S 904 74 ≤ 2147483647 := Xi_rgI
  have w7 : -2147483648 ≤ Xi S 904 75 ∧ Xi S 904 75 ≤ 2147483647 := Xi_rgI
  have w8 : -2147483648 ≤ Xi S 904 76 ∧ Xi S 904 76 ≤ 2147483647 := Xi_rgI
  have w9 : -2147483648 ≤ Xi S 904 78 ∧ Xi S 904 78 ≤ 2147483647 := Xi_rgI
  have w10 : -2147483648 ≤ Xi S 904 8 ∧ Xi S 904 8 ≤ 2147483647 := Xi_rgI
  have w11 : -2147483648 ≤ Xi S 904 93 ∧ Xi S 904 93 ≤ 2147483647 := Xi_rgI
  have : Xi S 904 65 = 0 → (fs : Int) ≤ Xi S 904 8 ∧ Xi S 904 8 ≤ fs + ns := JR.i (by assumption)
  have hbd := hvl.2.2.2
  intro T53 hHT53 hFT53 w677 w678 w679 w680 w681 w682 J435 a435 b435 c435 d435
  have w683 : -2147483648 ≤ Xi T53 904 65 ∧ Xi T53 904 65 ≤ 2147483647 := Xi_rgI
  have w684 : -2147483648 ≤ Xi T53 904 66 ∧ Xi T53 904 66 ≤ 2147483647 := Xi_rgI
  have w685 : -2147483648 ≤ Xi T53 904 69 ∧ Xi T53 904 69 ≤ 2147483647 := Xi_rgI
  have w686 : -2147483648 ≤ Xi T53 904 70 ∧ Xi T53 904 70 ≤ 2147483647 := Xi_rgI
  have w687 : -2147483648 ≤ Xi T53 904 73 ∧ Xi T53 904 73 ≤ 2147483647 := Xi_rgI
  have w688 : -2147483648 ≤ Xi T53 904 74 ∧ Xi T53 904 74 ≤ 2147483647 := Xi_rgI
  have w689 : -2147483648 ≤ Xi T53 904 75 ∧ Xi T53 904 75 ≤ 2147483647 := Xi_rgI
  have w690 : -2147483648 ≤ Xi T53 904 76 ∧ Xi T53 904 76 ≤ 2147483647 := Xi_rgI
  have w691 : -2147483648 ≤ Xi T53 904 78 ∧ Xi T53 904 78 ≤ 2147483647 := Xi_rgI
  have w692 : -2147483648 ≤ Xi T53 904 8 ∧ Xi T53 904 8 ≤ 2147483647 := Xi_rgI
  have w693 : -2147483648 ≤ Xi T53 904 93 ∧ Xi T53 904 93 ≤ 2147483647 := Xi_rgI
  refine y_aload_n rfl rfl ?_
  refine y_bipush rfl rfl ?_
  refine y_pfi rfl rfl rfl rfl ?_
  obtain ⟨U54, eU54⟩ : ∃ T : sS, T = uI T53 904 70 (Int32.ofInt 13) := ⟨_, rfl⟩
  rw [← eU54]
  have hHU54 : RI U54 := by rw [eU54]; exact RI_w hHT53
  have hFU54 : FR md_mo_rest__p S U54 := by rw [eU54]; exact FR.wI hFT53 (mdf_i (r := (904, 905, 70, 71)) (List.mem_of_getElem? (i := 4) rfl) (inR_i (by omega) (by omega) (by omega) (by omega)))
  have w694 : Xi U54 904 70 = 13 := by rw [eU54]; exact Xi_same (by unfold rg; omega)
  refine y_aload_n rfl rfl ?_
  refine y_aload_n rfl rfl ?_
  have w695 : Xi U54 904 65 = Xi T53 904 65 := (show Xi U54 904 65 = Xi T53 904 65 from by rw [eU54]; exact Xi_ne (by omega))
  have w696 : Xi U54 904 66 = Xi T53 904 66 := (show Xi U54 904 66 = Xi T53 904 66 from by rw [eU54]; exact Xi_ne (by omega))
  have w697 : Xi U54 904 69 = Xi T53 904 69 := (show Xi U54 904 69 = Xi T53 904 69 from by rw [eU54]; exact Xi_ne (by omega))
  have w698 : Xi U54 904 73 = Xi T53 904 73 := (show Xi U54 904 73 = Xi T53 904 73 from by rw [eU54]; exact Xi_ne (by omega))
  have w699 : Xi U54 904 74 = Xi T53 904 74 := (show Xi U54 904 74 = Xi T53 904 74 from by rw [eU54]; exact Xi_ne (by omega))
  have w700 : Xi U54 904 75 = Xi T53 904 75 := (show Xi U54 904 75 = Xi T53 904 75 from by rw [eU54]; exact Xi_ne (by omega))
  have w701 : Xi U54 904 76 = Xi T53 904 76 := (show Xi U54 904 76 = Xi T53 904 76 from by rw [eU54]; exact Xi_ne (by omega))
  have w702 : Xi U54 904 78 = Xi T53 904 78 := (show Xi U54 904 78 = Xi T53 904 78 from by rw [eU54]; exact Xi_ne (by omega))
  have w703 : Xi U54 904 8 = Xi T53 904 8 := (show Xi U54 904 8 = Xi T53 904 8 from by rw [eU54]; exact Xi_ne (by omega))
  have w704 : Xi U54 904 93 = Xi T53 904 93 := (show Xi U54 904 93 = Xi T53 904 93 from by rw [eU54]; exact Xi_ne (by omega))
  refine y_callV rfl rfl rfl (t_mo_placing__p hHU54 fs ns (by first | assumption | exact (VLR_FR hFU54 rfl (by assumption : VLR S _ _))) (by first | assumption | exact (JR_FR (FR_e eU54) rfl rfl rfl (by assumption : JR T53 _ _))) _) ?_
  rintro _ T55 ⟨hHT55, w709, z708, rfl, w708, w705, w443_, w706, w707⟩
  have hFT55 : FR md_mo_rest__p S T55 := FR.tr hFU54 w709 rfl
  show Pl _ _ _ _ _ _ [iv z708, .ref 904] _ _
  have : Xi T55 904 65 = 0 → (fs : Int) ≤ Xi T55 904 8 ∧ Xi T55 904 8 ≤ fs + ns := JR.i (by assumption)
  have gp443 := w705
  try rw [FRR hFU54 rfl] at gp443
  try rw [show cu U54 fs = cu T53 fs from cu_eq (by omega) (by omega) (by omega)] at gp443
  clear w705
  have w443 := w443_
  rw [FRR hFU54 rfl, show Xi U54 904 8 = Xi S 904 8 by omega] at w443
  clear w443_
  refine y_pfi rfl rfl rfl rfl ?_
  obtain ⟨U56, eU56⟩ : ∃ T : sS, T = uI T55 904 73 (Int32.ofInt z708) := ⟨_, rfl⟩
  rw [← eU56]
  have hHU56 : RI U56 := by rw [eU56]; exact RI_w hHT55
  have hFU56 : FR md_mo_rest__p S U56 := by rw [eU56]; exact FR.wI hFT55 (mdf_i (r := (904, 905, 73, 74)) (List.mem_of_getElem? (i := 5) rfl) (inR_i (by omega) (by omega) (by omega) (by omega)))
  have w710 : Xi U56 904 73 = z708 := by rw [eU56]; exact Xi_same (by unfold rg; omega)
  refine y_aload_n rfl rfl ?_
  refine y_aload_n rfl rfl ?_
  have w711 : Xi U56 904 65 = Xi T55 904 65 := (show Xi U56 904 65 = Xi T55 904 65 from by rw [eU56]; exact Xi_ne (by omega))
  have w712 : Xi U56 904 66 = Xi T55 904 66 := (show Xi U56 904 66 = Xi T55 904 66 from by rw [eU56]; exact Xi_ne (by omega))
  have w713 : Xi U56 904 69 = Xi T53 904 69 := (show Xi U56 904 69 = Xi T55 904 69 from by rw [eU56]; exact Xi_ne (by omega)).trans ( (show Xi T55 904 69 = Xi U54 904 69 from w709.x _ _ rfl).trans ((show Xi U54 904 69 = Xi T53 904 69 from by rw [eU54]; exact Xi_ne (by omega))))
  have w714 : Xi U56 904 70 = Xi U54 904 70 := (show Xi U56 904 70 = Xi T55 904 70 from by rw [eU56]; exact Xi_ne (by omega)).trans ((show Xi T55 904 70 = Xi U54 904 70 from w709.x _ _ rfl))
  have w715 : Xi U56 904 74 = Xi T53 904 74 := (show Xi U56 904 74 = Xi T55 904 74 from by rw [eU56]; exact Xi_ne (by omega)).trans ( (show Xi T55 904 74 = Xi U54 904 74 from w709.x _ _ rfl).trans ((show Xi U54 904 74 = Xi T53 904 74 from by rw [eU54]; exact Xi_ne (by omega))))
  have w716 : Xi U56 904 75 = Xi T53 904 75 := (show Xi U56 904 75 = Xi T55 904 75 from by rw [eU56]; exact Xi_ne (by omega)).trans ( (show Xi T55 904 75 = Xi U54 904 75 from w709.x _ _ rfl).trans ((show Xi U54 904 75 = Xi T53 904 75 from by rw [eU54]; exact Xi_ne (by omega))))
  have w717 : Xi U56 904 76 = Xi T53 904 76 := (show Xi U56 904 76 = Xi T55 904 76 from by rw [eU56]; exact Xi_ne (by omega)).trans ( (show Xi T55 904 76 = Xi U54 904 76 from w709.x _ _ rfl).trans ((show Xi U54 904 76 = Xi T53 904 76 from by rw [eU54]; exact Xi_ne (by omega))))
  have w718 : Xi U56 904 78 = Xi T53 904 78 := (show Xi U56 904 78 = Xi T55 904 78 from by rw [eU56]; exact Xi_ne (by omega)).trans ( (show Xi T55 904 78 = Xi U54 904 78 from w709.x _ _ rfl).trans ((show Xi U54 904 78 = Xi T53 904 78 from by rw [eU54]; exact Xi_ne (by omega))))
  have w719 : Xi U56 904 8 = Xi T55 904 8 := (show Xi U56 904 8 = Xi T55 904 8 from by rw [eU56]; exact Xi_ne (by omega))
  have w720 : Xi U56 904 93 = Xi T53 904 93 := (show Xi U56 904 93 = Xi T55 904 93 from by rw [eU56]; exact Xi_ne (by omega)).trans ( (show Xi T55 904 93 = Xi U54 904 93 from w709.x _ _ rfl).trans ((show Xi U54 904 93 = Xi T53 904 93 from by rw [eU54]; exact Xi_ne (by omega))))
  refine y_callV rfl rfl rfl (t_mo_name__p hHU56 fs ns (by first | assumption | exact (VLR_FR hFU56 rfl (by assumption : VLR S _ _))) (by first | assumption | exact (JR_FR (FR_e eU56) rfl rfl rfl (by assumption : JR T55 _ _))) _) ?_
  rintro _ T57 ⟨hHT57, w728, z727, rfl, w727, w721, w722, w723, w724, w725, w726⟩
  have hFT57 : FR md_mo_rest__p S T57 := FR.tr hFU56 w728 rfl
  show Pl _ _ _ _ _ _ [iv z727, .ref 904] _ _
  have : Xi T57 904 65 = 0 → (fs : Int) ≤ Xi T57 904 8 ∧ Xi T57 904 8 ≤ fs + ns := JR.i (by assumption)
  have gp451 := w721
  try rw [FRR hFU56 rfl] at gp451
  try rw [show cu U56 fs = cu T55 fs from cu_eq (by omega) (by omega) (by omega)] at gp451
  clear w721
  refine y_pfi rfl rfl rfl rfl ?_
  obtain ⟨U58, eU58⟩ : ∃ T : sS, T = uI T57 904 74 (Int32.ofInt z727) := ⟨_, rfl⟩
  rw [← eU58]
  have hHU58 : RI U58 := by rw [eU58]; exact RI_w hHT57
  have hFU58 : FR md_mo_rest__p S U58 := by rw [eU58]; exact FR.wI hFT57 (mdf_i (r := (904, 905, 74, 75)) (List.mem_of_getElem? (i := 6) rfl) (inR_i (by omega) (by omega) (by omega) (by omega)))
  have w729 : Xi U58 904 74 = z727 := by rw [eU58]; exact Xi_same (by unfold rg; omega)
  have K454 : True := trivial
  refine y_return rfl rfl ?_
  have w730 : Xi U58 904 65 = Xi T57 904 65 := (show Xi U58 904 65 = Xi T57 904 65 from by rw [eU58]; exact Xi_ne (by omega))
  have w731 : Xi U58 904 66 = Xi T57 904 66 := (show Xi U58 904 66 = Xi T57 904 66 from by rw [eU58]; exact Xi_ne (by omega))
  have w732 : Xi U58 904 69 = Xi T57 904 69 := (show Xi U58 904 69 = Xi T57 904 69 from by rw [eU58]; exact Xi_ne (by omega))
  have w733 : Xi U58 904 70 = Xi U54 904 70 := (show Xi U58 904 70 = Xi T57 904 70 from by rw [eU58]; exact Xi_ne (by omega)).trans ( (show Xi T57 904 70 = Xi U56 904 70 from w728.x _ _ rfl).trans ( (show Xi U56 904 70 = Xi T55 904 70 from by rw [eU56]; exact Xi_ne (by omega)).trans ((show Xi T55 904 70 = Xi U54 904 70 from w709.x _ _ rfl))))
  have w734 : Xi U58 904 73 = Xi U56 904 73 := (show Xi U58 904 73 = Xi T57 904 73 from by rw [eU58]; exact Xi_ne (by omega)).trans ((show Xi T57 904 73 = Xi U56 904 73 from w728.x _ _ rfl))
  have w735 : Xi U58 904 75 = Xi T53 904 75 := (show Xi U58 904 75 = Xi T57 904 75 from by rw [eU58]; exact Xi_ne (by omega)).trans ( (show Xi T57 904 75 = Xi U56 904 75 from w728.x _ _ rfl).trans ( (show Xi U56 904 75 = Xi T55 904 75 from by rw [eU56]; exact Xi_ne (by omega)).trans ( (show Xi T55 904 75 = Xi U54 904 75 from w709.x _ _ rfl).trans ((show Xi U54 904 75 = Xi T53 904 75 from by rw [eU54]; exact Xi_ne (by omega))))))
  have w736 : Xi U58 904 76 = Xi T53 904 76 := (show Xi U58 904 76 = Xi T57 904 76 from by rw [eU58]; exact Xi_ne (by omega)).trans ( (show Xi T57 904 76 = Xi U56 904 76 from w728.x _ _ rfl).trans ( (show Xi U56 904 76 = Xi T55 904 76 from by rw [eU56]; exact Xi_ne (by omega)).trans ( (show Xi T55 904 76 = Xi U54 904 76 from w709.x _ _ rfl).trans ((show Xi U54 904 76 = Xi T53 904 76 from by rw [eU54]; exact Xi_ne (by omega))))))
  have w737 : Xi U58 904 78 = Xi T53 904 78 := (show Xi U58 904 78 = Xi T57 904 78 from by rw [eU58]; exact Xi_ne (by omega)).trans ( (show Xi T57 904 78 = Xi U56 904 78 from w728.x _ _ rfl).trans ( (show Xi U56 904 78 = Xi T55 904 78 from by rw [eU56]; exact Xi_ne (by omega)).trans ( (show Xi T55 904 78 = Xi U54 904 78 from w709.x _ _ rfl).trans ((show Xi U54 904 78 = Xi T53 904 78 from by rw [eU54]; exact Xi_ne (by omega))))))
  have w738 : Xi U58 904 8 = Xi T57 904 8 := (show Xi U58 904 8 = Xi T57 904 8 from by rw [eU58]; exact Xi_ne (by omega))
  have w739 : Xi U58 904 93 = Xi T53 904 93 := (show Xi U58 904 93 = Xi T57 904 93 from by rw [eU58]; exact Xi_ne (by omega)).trans ( (show Xi T57 904 93 = Xi U56 904 93 from w728.x _ _ rfl).trans ( (show Xi U56 904 93 = Xi T55 904 93 from by rw [eU56]; exact Xi_ne (by omega)).trans ( (show Xi T55 904 93 = Xi U54 904 93 from w709.x _ _ rfl).trans ((show Xi U54 904 93 = Xi T53 904 93 from by rw [eU54]; exact Xi_ne (by omega))))))
  exact ⟨hHU58, hFU58, rfl, (by first | (have t := K94; rw [gRe_10 ⟨by omega, by omega⟩, if_pos (by omega), if_pos (by omega)]; exact cu_1 (by omega) (by omega)) | (have t := K105; rw [gRe_10 ⟨by omega, by omega⟩, if_pos (by omega), if_neg (by omega)]; exact (cu_go gp102 (by omega) (by omega)).trans (cu_eq (by omega) (by omega) (by omega)).symm) | (have t := K191; rw [gRe_11 ⟨by omega, by omega⟩, if_pos (by omega), cu_go gp177 (by omega) (by omega), gp183, gp188]; exact (cu_eq (by omega) (by omega) (by omega)).symm) | (have t := K257; rw [gRe_12 b204 c204 a204, cu_go gp222 (by omega) (by omega)]; exact cu_br (fun b => by rw [if_neg (by omega)]; exact (cu_ch0 (cu_go gp246 (by omega) (by omega)) gp254).trans (cu_eq (by omega) (by omega) (by omega)).symm) (fun b => absurd (by omega) b)) | (have t := K328; rw [gRe_15 (by omega)]; exact (cu_go gp325 (by omega) (by omega)).trans (cu_eq (by omega) (by omega) (by omega)).symm) | (have t := K383; rw [gRe_f (by omega), cu_go gp341 (by omega) (by omega)]; exact cu_br (fun b => by rw [if_pos (by omega)]; exact (cu_go gp380 (by omega) (by omega)).trans (cu_eq (by omega) (by omega) (by omega)).symm) (fun b => absurd (by omega) b)) | (have t := K454; rw [gRe_13 a435 b435 c435 d435]; exact (cu_ch0 (cu_go gp443 (by omega) (by omega)) gp451).trans (cu_eq (by omega) (by omega) (by omega)).symm) | exact GZ.o (by omega) | exact (FU_e U413 (by omega) (fun b k => gRn_0 (gBt_zz (m421 b) (by omega)))).trans (cu_eqb (by omega) (fun b => n421.o (by omega)) (by omega)).symm | exact FU_b U413 (by omega)), (by omega), (by omega), (by first | (have t := K94; exact (fun b => rsr_10 ⟨by omega, by omega⟩ (by omega) (Or.inr (Or.inl ⟨by omega, by omega, by omega⟩)))) | (have t := K105; exact (fun b => rsr_10 ⟨by omega, by omega⟩ (by omega) (Or.inr (Or.inr ⟨by omega, by omega, by omega⟩)))) | (have t := K191; exact (fun b => rsr_11 ⟨by omega, by omega⟩ (by omega) (Or.inr ⟨by omega, by omega⟩))) | (have t := K257; exact (fun b => by have t := t222.o (by omega); exact rsr_12 a204 b204 c204 (by omega) (by omega) (Or.inr ⟨by omega, by rw [t]; omega, by omega⟩))) | (have t := K328; exact (fun b => rsr_15 (by omega) (by omega) (by omega))) | (have t := K383; exact (fun b => by have t := t341.o (by omega); exact rsr_f (by omega) (by omega) (Or.inl ⟨by omega, by omega, by omega⟩))) | (have t := K454; exact (fun b => rsr_13 a435 b435 c435 d435 (by omega) (by omega) (by omega))) | exact RS.o (by omega) | exact (fun b => rsr_f (by omega) (by omega) (Or.inr (Or.inl ⟨s413.o, by omega⟩)))), (by omega), (by omega), (by first | assumption | exact (JR_FR (FR_e eU58) rfl rfl rfl (by assumption : JR T57 _ _)))⟩
set_option maxRecDepth 100000 in
theorem c197_mo_rest__p {S : sS} (hH : RI S) (fs : Nat) (ns : Nat) (hvl : VLR S fs ns) (hJR : JR S fs ns) (hb : Xi S 904 65 = 0) (d : Nat) (fu : Nat) : ∀  (T59 : sS) (_ : RI T59) (_ : FR md_mo_rest__p S T59) (v1 : Int), (-2147483648 ≤ v1 ∧ v1 ≤ 2147483647) → (Xi T59 904 8 = Xi S 904 8) → (Xi T59 904 65 = 0) → (Xi T59 904 69 = Xi S 904 69) → (Xi T59 904 73 = 0) → (Xi T59 904 75 = Xi S 904 75) → (Xi T59 904 76 = Xi S 904 76) → (JR T59 fs ns) → (¬ (tR S fs ns (Xi S 904 8 - fs) = 0 ∧ tR S fs ns (Xi S 904 8 - fs + 1) = 18)) → (¬ (tR S fs ns (Xi S 904 8 - fs) = 1 ∧ tR S fs ns (Xi S 904 8 - fs + 1) = 27)) → (tR S fs ns (Xi S 904 8 - fs) = un7 v1 ∧ v1 = tr7 (un7 v1)) → ((100 ≤ v1 → un7 v1 = v1 - 100) ∧ (v1 < 100 → 100 ≤ un7 v1) ∧ (v1 = 3 → un7 v1 = 100) ∧ (v1 ≠ 3 → v1 = tr7 (un7 v1) → un7 v1 ≠ 100)) → Pl fu lay0 (d + 3) m_mo_rest 197 [(0, .ref 904), (1, iv v1)] [] T59 (Q_mo_rest__p S fs ns) := by
  have C204 := c204_mo_rest__p hH fs ns hvl hJR hb d  fu
  have C276 := c276_mo_rest__p hH fs ns hvl hJR hb d  fu
  have C339 := c339_mo_rest__p hH fs ns hvl hJR hb d  fu
  have C435 := c435_mo_rest__p hH fs ns hvl hJR hb d  fu
  have hF : FR md_mo_rest__p S S := FR.rf
  have w1 : -2147483648 ≤ Xi S 904 65 ∧ Xi S 904 65 ≤ 2147483647 := Xi_rgI
  have w2 : -2147483648 ≤ Xi S 904 66 ∧ Xi S 904 66 ≤ 2147483647 := Xi_rgI
  have w3 : -2147483648 ≤ Xi S 904 69 ∧ Xi S 904 69 ≤ 2147483647 := Xi_rgI
  have w4 : -2147483648 ≤ Xi S 904 70 ∧ Xi S 904 70 ≤ 2147483647 := Xi_rgI
  have w5 : -2147483648 ≤ Xi S 904 73 ∧ Xi S 904 73 ≤ 2147483647 := Xi_rgI
  have w6 : -2147483648 ≤ Xi S 904 74 ∧ Xi S 904 74 ≤ 2147483647 := Xi_rgI
  have w7 : -2147483648 ≤ Xi S 904 75 ∧ Xi S 904 75 ≤ 2147483647 := Xi_rgI
  have w8 : -2147483648 ≤ Xi S 904 76 ∧ Xi S 904 76 ≤ 2147483647 := Xi_rgI
  have w9 : -2147483648 ≤ Xi S 904 78 ∧ Xi S 904 78 ≤ 2147483647 := Xi_rgI
  have w10 : -2147483648 ≤ Xi S 904 8 ∧ Xi S 904 8 ≤ 2147483647 := Xi_rgI
  have w11 : -2147483648 ≤ Xi S 904 93 ∧ Xi S 904 93 ≤ 2147483647 := Xi_rgI
  have : Xi S 904 65 = 0 → (fs : Int) ≤ Xi S 904 8 ∧ Xi S 904 8 ≤ fs + ns := JR.i (by assumption)
  have hbd := hvl.2.2.2
  intro T59 hHT59 hFT59 v1 w740 w741 w742 w743 w744 w745 w746 J197 a197 b197 k197 u197
  have w747 : -2147483648 ≤ Xi T59 904 65 ∧ Xi T59 904 65 ≤ 2147483647 := Xi_rgI
  have w748 : -2147483648 ≤ Xi T59 904 66 ∧ Xi T59 904 66 ≤ 2147483647 := Xi_rgI
  have w749 : -2147483648 ≤ Xi T59 904 69 ∧ Xi T59 904 69 ≤ 2147483647 := Xi_rgI
  have w750 : -2147483648 ≤ Xi T59 904 70 ∧ Xi T59 904 70 ≤ 2147483647 := Xi_rgI
  have w751 : -2147483648 ≤ Xi T59 904 73 ∧ Xi T59 904 73 ≤ 2147483647 := Xi_rgI
  have w752 : -2147483648 ≤ Xi T59 904 74 ∧ Xi T59 904 74 ≤ 2147483647 := Xi_rgI
  have w753 : -2147483648 ≤ Xi T59 904 75 ∧ Xi T59 904 75 ≤ 2147483647 := Xi_rgI
  have w754 : -2147483648 ≤ Xi T59 904 76 ∧ Xi T59 904 76 ≤ 2147483647 := Xi_rgI
  have w755 : -2147483648 ≤ Xi T59 904 78 ∧ Xi T59 904 78 ≤ 2147483647 := Xi_rgI
  have w756 : -2147483648 ≤ Xi T59 904 8 ∧ Xi T59 904 8 ≤ 2147483647 := Xi_rgI
  have w757 : -2147483648 ≤ Xi T59 904 93 ∧ Xi T59 904 93 ≤ 2147483647 := Xi_rgI
  refine y_iload_n rfl rfl ?_
  refine y_callS rfl rfl (by decide) rfl (t_mo_isArt__p hHT59 v1 ⟨by omega, by omega⟩ _) ?_
  rintro _ _ ⟨rfl, z760, rfl, w760, w758, w759⟩
  show Pl _ _ _ _ _ _ [iv z760] _ _
  refine y_if_eq rfl rfl (by unfold rg; omega) (fun w761 => ?_) (fun w762 => ?_)
  · refine y_iload_n rfl rfl ?_
    refine y_bipush rfl rfl ?_
    refine y_icmp_eq rfl rfl (by unfold rg; omega) (by unfold rg; omega) (fun w763 => ?_) (fun w764 => ?_)
    · exact Pl_weak (C276 T59 hHT59 hFT59 (v1) (by omega) (by omega) (by omega) (by omega) (by omega) (by omega) (by omega) (by first | assumption | exact (by assumption : JR T59 _ _)) (by omega)) (by omega) (And.intro rfl (And.intro rfl (True.intro)))
    · refine y_iload_n rfl rfl ?_
      refine y_sipush rfl rfl ?_
      refine y_icmp_ne rfl rfl (by unfold rg; omega) (by unfold rg; omega) (fun w765 => ?_) (fun w766 => ?_)
      · refine y_iload_n rfl rfl ?_
        refine y_iconst rfl ?_
        refine y_icmp_ne rfl rfl (by unfold rg; omega) (by unfold rg; omega) (fun w767 => ?_) (fun w768 => ?_)
        · exact Pl_weak (C435 T59 hHT59 hFT59  (by omega) (by omega) (by omega) (by omega) (by omega) (by omega) (by first | assumption | exact (by assumption : JR T59 _ _)) (by omega) (by omega) (by omega) (by omega)) (by omega) (And.intro rfl (True.intro))
        · exact Pl_weak (C339 T59 hHT59 hFT59  (by omega) (by omega) (by omega) (by omega) (by omega) (by omega) (by first | assumption | exact (by assumption : JR T59 _ _)) (by omega)) (by omega) (And.intro rfl (True.intro))
      · exact Pl_weak (C276 T59 hHT59 hFT59 (v1) (by omega) (by omega) (by omega) (by omega) (by omega) (by omega) (by omega) (by first | assumption | exact (by assumption : JR T59 _ _)) (by omega)) (by omega) (And.intro rfl (And.intro rfl (True.intro)))
  · exact Pl_weak (C204 T59 hHT59 hFT59  (by omega) (by omega) (by omega) (by omega) (by omega) (by omega) (by first | assumption | exact (by assumption : JR T59 _ _)) (by omega) (by omega) (by omega)) (by omega) (And.intro rfl (True.intro))
set_option maxRecDepth 100000 in
theorem c111_mo_rest__p {S : sS} (hH : RI S) (fs : Nat) (ns : Nat) (hvl : VLR S fs ns) (hJR : JR S fs ns) (hb : Xi S 904 65 = 0) (d : Nat) (fu : Nat) : ∀  (T60 : sS) (_ : RI T60) (_ : FR md_mo_rest__p S T60) (v1 : Int), (-2147483648 ≤ v1 ∧ v1 ≤ 2147483647) → (Xi T60 904 8 = Xi S 904 8) → (Xi T60 904 65 = 0) → (Xi T60 904 69 = Xi S 904 69) → (Xi T60 904 73 = 0) → (Xi T60 904 75 = Xi S 904 75) → (Xi T60 904 76 = Xi S 904 76) → (JR T60 fs ns) → (¬ (tR S fs ns (Xi S 904 8 - fs) = 0 ∧ tR S fs ns (Xi S 904 8 - fs + 1) = 18)) → (tR S fs ns (Xi S 904 8 - fs) = un7 v1 ∧ v1 = tr7 (un7 v1)) → ((100 ≤ v1 → un7 v1 = v1 - 100) ∧ (v1 < 100 → 100 ≤ un7 v1) ∧ (v1 = 3 → un7 v1 = 100) ∧ (v1 ≠ 3 → v1 = tr7 (un7 v1) → un7 v1 ≠ 100)) → Pl fu lay0 (d + 3) m_mo_rest 111 [(0, .ref 904), (1, iv v1)] [] T60 (Q_mo_rest__p S fs ns) := by
  have C133 := c133_mo_rest__p hH fs ns hvl hJR hb d  fu
  have C197 := c197_mo_rest__p hH fs ns hvl hJR hb d  fu
  have hF : FR md_mo_rest__p S S := FR.rf
  have w1 : -2147483648 ≤ Xi S 904 65 ∧ Xi S 904 65 ≤ 2147483647 := Xi_rgI
  have w2 : -2147483648 ≤ Xi S 904 66 ∧ Xi S 904 66 ≤ 2147483647 := Xi_rgI
  have w3 : -2147483648 ≤ Xi S 904 69 ∧ Xi S 904 69 ≤ 2147483647 := Xi_rgI
  have w4 : -2147483648 ≤ Xi S 904 70 ∧ Xi S 904 70 ≤ 2147483647 := Xi_rgI
  have w5 : -2147483648 ≤ Xi S 904 73 ∧ Xi S 904 73 ≤ 2147483647 := Xi_rgI
  have w6 : -2147483648 ≤ Xi S 904 74 ∧ Xi S 904 74 ≤ 2147483647 := Xi_rgI
  have w7 : -2147483648 ≤ Xi S 904 75 ∧ Xi S 904 75 ≤ 2147483647 := Xi_rgI
  have w8 : -2147483648 ≤ Xi S 904 76 ∧ Xi S 904 76 ≤ 2147483647 := Xi_rgI
  have w9 : -2147483648 ≤ Xi S 904 78 ∧ Xi S 904 78 ≤ 2147483647 := Xi_rgI
  have w10 : -2147483648 ≤ Xi S 904 8 ∧ Xi S 904 8 ≤ 2147483647 := Xi_rgI
  have w11 : -2147483648 ≤ Xi S 904 93 ∧ Xi S 904 93 ≤ 2147483647 := Xi_rgI
  have : Xi S 904 65 = 0 → (fs : Int) ≤ Xi S 904 8 ∧ Xi S 904 8 ≤ fs + ns := JR.i (by assumption)
  have hbd := hvl.2.2.2
  intro T60 hHT60 hFT60 v1 w769 w770 w771 w772 w773 w774 w775 J111 a111 k111 u111
  have w776 : -2147483648 ≤ Xi T60 904 65 ∧ Xi T60 904 65 ≤ 2147483647 := Xi_rgI
  have w777 : -2147483648 ≤ Xi T60 904 66 ∧ Xi T60 904 66 ≤ 2147483647 := Xi_rgI
  have w778 : -2147483648 ≤ Xi T60 904 69 ∧ Xi T60 904 69 ≤ 2147483647 := Xi_rgI
  have w779 : -2147483648 ≤ Xi T60 904 70 ∧ Xi T60 904 70 ≤ 2147483647 := Xi_rgI
  have w780 : -2147483648 ≤ Xi T60 904 73 ∧ Xi T60 904 73 ≤ 2147483647 := Xi_rgI
  have w781 : -2147483648 ≤ Xi T60 904 74 ∧ Xi T60 904 74 ≤ 2147483647 := Xi_rgI
  have w782 : -2147483648 ≤ Xi T60 904 75 ∧ Xi T60 904 75 ≤ 2147483647 := Xi_rgI
  have w783 : -2147483648 ≤ Xi T60 904 76 ∧ Xi T60 904 76 ≤ 2147483647 := Xi_rgI
  have w784 : -2147483648 ≤ Xi T60 904 78 ∧ Xi T60 904 78 ≤ 2147483647 := Xi_rgI
  have w785 : -2147483648 ≤ Xi T60 904 8 ∧ Xi T60 904 8 ≤ 2147483647 := Xi_rgI
  have w786 : -2147483648 ≤ Xi T60 904 93 ∧ Xi T60 904 93 ≤ 2147483647 := Xi_rgI
  refine y_iload_n rfl rfl ?_
  refine y_bipush rfl rfl ?_
  refine y_icmp_ne rfl rfl (by unfold rg; omega) (by unfold rg; omega) (fun w787 => ?_) (fun w788 => ?_)
  · exact Pl_weak (C197 T60 hHT60 hFT60 (v1) (by omega) (by omega) (by omega) (by omega) (by omega) (by omega) (by omega) (by first | assumption | exact (by assumption : JR T60 _ _)) (by omega) (by omega) (by omega) (un_a4 _)) (by omega) (And.intro rfl (And.intro rfl (True.intro)))
  · refine y_aload_n rfl rfl ?_
    refine y_gfr rfl rfl rfl rfl rfl (hHT60.r 904 4 907 rfl) ?_
    refine y_aload_n rfl rfl ?_
    refine y_gfi rfl rfl rfl rfl rfl ?_
    refine y_iconst rfl ?_
    refine y_iadd rfl ?_
    refine y_ialoadP (n := 5002) rfl rfl (by unfold rg; omega) (fun w789 w790 => ?_)
    have w791 : -2147483648 ≤ (Xi T60 907 ((((Xi T60 904 8) + 1)).toNat)) ∧ (Xi T60 907 ((((Xi T60 904 8) + 1)).toNat)) ≤ 2147483647 := Xi_rgI
    have u127 : Xi S 904 8 + 1 ≤ fs + ns := in_u2 hvl (by omega) (by omega) (by omega) (by omega)
    have T127 := tR_k (k := 127) (z := (Xi T60 907 ((((Xi T60 904 8) + 1)).toNat))) (a := Xi T60 904 8 + 1) hvl (by omega) (by omega) rfl (by first | exact ((hFT60.cx 907 rfl _).1).symm | rfl)
    rw [show un7 127 = 27 from rfl] at T127
    try rw [show Xi T60 904 8 + 1 - (fs : Int) = Xi S 904 8 - fs + 1 by omega] at T127
    refine y_bipush rfl rfl ?_
    refine y_icmp_ne rfl rfl (by unfold rg; omega) (by unfold rg; omega) (fun w792 => ?_) (fun w793 => ?_)
    · exact Pl_weak (C197 T60 hHT60 hFT60 (v1) (by omega) (by omega) (by omega) (by omega) (by omega) (by omega) (by omega) (by first | assumption | exact (by assumption : JR T60 _ _)) (by omega) (by omega) (by omega) (un_a4 _)) (by omega) (And.intro rfl (And.intro rfl (True.intro)))
    · exact Pl_weak (C133 T60 hHT60 hFT60  (by omega) (by omega) (by omega) (by omega) (by omega) (by omega) (by first | assumption | exact (by assumption : JR T60 _ _)) (by omega)) (by omega) (And.intro rfl (True.intro))
set_option maxRecDepth 100000 in
theorem t_mo_rest__p {S : sS} (hH : RI S) (fs : Nat) (ns : Nat) (hvl : VLR S fs ns) (hJR : JR S fs ns) (hb : Xi S 904 65 = 0) (d : Nat) : Mp lay0 (d + 4) m_mo_rest [.ref 904] S (Q_mo_rest__p S fs ns) := by
  refine Mp_R rfl rfl (fun fu => ?_)
  have C32 := c32_mo_rest__p hH fs ns hvl hJR hb d  fu
  have C133 := c133_mo_rest__p hH fs ns hvl hJR hb d  fu
  have C204 := c204_mo_rest__p hH fs ns hvl hJR hb d  fu
  have C313 := c313_mo_rest__p hH fs ns hvl hJR hb d  fu
  have C276 := c276_mo_rest__p hH fs ns hvl hJR hb d  fu
  have C413 := c413_mo_rest__p hH fs ns hvl hJR hb d  fu
  have C407 := c407_mo_rest__p hH fs ns hvl hJR hb d  fu
  have C339 := c339_mo_rest__p hH fs ns hvl hJR hb d  fu
  have C435 := c435_mo_rest__p hH fs ns hvl hJR hb d  fu
  have C197 := c197_mo_rest__p hH fs ns hvl hJR hb d  fu
  have C111 := c111_mo_rest__p hH fs ns hvl hJR hb d  fu
  have hF : FR md_mo_rest__p S S := FR.rf
  have w1 : -2147483648 ≤ Xi S 904 65 ∧ Xi S 904 65 ≤ 2147483647 := Xi_rgI
  have w2 : -2147483648 ≤ Xi S 904 66 ∧ Xi S 904 66 ≤ 2147483647 := Xi_rgI
  have w3 : -2147483648 ≤ Xi S 904 69 ∧ Xi S 904 69 ≤ 2147483647 := Xi_rgI
  have w4 : -2147483648 ≤ Xi S 904 70 ∧ Xi S 904 70 ≤ 2147483647 := Xi_rgI
  have w5 : -2147483648 ≤ Xi S 904 73 ∧ Xi S 904 73 ≤ 2147483647 := Xi_rgI
  have w6 : -2147483648 ≤ Xi S 904 74 ∧ Xi S 904 74 ≤ 2147483647 := Xi_rgI
  have w7 : -2147483648 ≤ Xi S 904 75 ∧ Xi S 904 75 ≤ 2147483647 := Xi_rgI
  have w8 : -2147483648 ≤ Xi S 904 76 ∧ Xi S 904 76 ≤ 2147483647 := Xi_rgI
  have w9 : -2147483648 ≤ Xi S 904 78 ∧ Xi S 904 78 ≤ 2147483647 := Xi_rgI
  have w10 : -2147483648 ≤ Xi S 904 8 ∧ Xi S 904 8 ≤ 2147483647 := Xi_rgI
  have w11 : -2147483648 ≤ Xi S 904 93 ∧ Xi S 904 93 ≤ 2147483647 := Xi_rgI
  have : Xi S 904 65 = 0 → (fs : Int) ≤ Xi S 904 8 ∧ Xi S 904 8 ≤ fs + ns := JR.i (by assumption)
  have hbd := hvl.2.2.2
  refine y_aload_n rfl rfl ?_
  refine y_callV rfl rfl rfl (t_mo_look__p hH fs ns (by first | assumption | exact (VLR_FR hF rfl (by assumption : VLR S _ _))) (by first | assumption | exact JR.i (by first | assumption | exact (by assumption : JR S _ _))) _) ?_
  rintro _ _ ⟨rfl, z795, rfl, w795, w794⟩
  show Pl _ _ _ _ _ _ [iv z795] _ _
  have := un_ab z795
  have gb1 := w794
  clear w794
  refine y_istore_n rfl rfl rfl ?_
  refine y_aload_n rfl rfl ?_
  refine y_iconst rfl ?_
  refine y_pfi rfl rfl rfl rfl ?_
  obtain ⟨U61, eU61⟩ : ∃ T : sS, T = uI S 904 73 (Int32.ofInt 0) := ⟨_, rfl⟩
  rw [← eU61]
  have hHU61 : RI U61 := by rw [eU61]; exact RI_w hH
  have hFU61 : FR md_mo_rest__p S U61 := by rw [eU61]; exact FR.wI hF (mdf_i (r := (904, 905, 73, 74)) (List.mem_of_getElem? (i := 5) rfl) (inR_i (by omega) (by omega) (by omega) (by omega)))
  have w796 : Xi U61 904 73 = 0 := by rw [eU61]; exact Xi_same (by unfold rg; omega)
  refine y_iload_n rfl rfl ?_
  refine y_bipush rfl rfl ?_
  refine y_icmp_ne rfl rfl (by unfold rg; omega) (by unfold rg; omega) (fun w797 => ?_) (fun w798 => ?_)
  · have w799 : Xi U61 904 65 = Xi S 904 65 := (show Xi U61 904 65 = Xi S 904 65 from by rw [eU61]; exact Xi_ne (by omega))
    have w800 : Xi U61 904 66 = Xi S 904 66 := (show Xi U61 904 66 = Xi S 904 66 from by rw [eU61]; exact Xi_ne (by omega))
    have w801 : Xi U61 904 69 = Xi S 904 69 := (show Xi U61 904 69 = Xi S 904 69 from by rw [eU61]; exact Xi_ne (by omega))
    have w802 : Xi U61 904 70 = Xi S 904 70 := (show Xi U61 904 70 = Xi S 904 70 from by rw [eU61]; exact Xi_ne (by omega))
    have w803 : Xi U61 904 74 = Xi S 904 74 := (show Xi U61 904 74 = Xi S 904 74 from by rw [eU61]; exact Xi_ne (by omega))
    have w804 : Xi U61 904 75 = Xi S 904 75 := (show Xi U61 904 75 = Xi S 904 75 from by rw [eU61]; exact Xi_ne (by omega))
    have w805 : Xi U61 904 76 = Xi S 904 76 := (show Xi U61 904 76 = Xi S 904 76 from by rw [eU61]; exact Xi_ne (by omega))
    have w806 : Xi U61 904 78 = Xi S 904 78 := (show Xi U61 904 78 = Xi S 904 78 from by rw [eU61]; exact Xi_ne (by omega))
    have w807 : Xi U61 904 8 = Xi S 904 8 := (show Xi U61 904 8 = Xi S 904 8 from by rw [eU61]; exact Xi_ne (by omega))
    have w808 : Xi U61 904 93 = Xi S 904 93 := (show Xi U61 904 93 = Xi S 904 93 from by rw [eU61]; exact Xi_ne (by omega))
    exact Pl_weak (C111 U61 hHU61 hFU61 (z795) (by omega) (by omega) (by omega) (by omega) (by omega) (by omega) (by omega) (by first | assumption | exact (JR_FR (FR_e eU61) rfl rfl rfl (by assumption : JR S _ _))) (by omega) (by omega) (un_a4 _)) (by omega) (And.intro rfl (And.intro rfl (True.intro)))
  · refine y_aload_n rfl rfl ?_
    refine y_gfr rfl rfl rfl rfl rfl (hHU61.r 904 4 907 rfl) ?_
    refine y_aload_n rfl rfl ?_
    refine y_gfi rfl rfl rfl rfl rfl ?_
    have w809 : (Xi U61 904 8) = (Xi S 904 8) := (show Xi U61 904 8 = Xi S 904 8 from by rw [eU61]; exact Xi_ne (by omega))
    rw [w809]
    refine y_iconst rfl ?_
    refine y_iadd rfl ?_
    refine y_ialoadP (n := 5002) rfl rfl (by unfold rg; omega) (fun w810 w811 => ?_)
    have w812 : -2147483648 ≤ (Xi U61 907 ((((Xi S 904 8) + 1)).toNat)) ∧ (Xi U61 907 ((((Xi S 904 8) + 1)).toNat)) ≤ 2147483647 := Xi_rgI
    have u26 : Xi S 904 8 + 1 ≤ fs + ns := in_u2 hvl (by omega) (by omega) (by omega) (by omega)
    have T26 := tR_k (k := 118) (z := (Xi U61 907 ((((Xi S 904 8) + 1)).toNat))) (a := Xi S 904 8 + 1) hvl (by omega) (by omega) rfl (by first | exact ((hFU61.cx 907 rfl _).1).symm | rfl)
    rw [show un7 118 = 18 from rfl] at T26
    try rw [show Xi S 904 8 + 1 - (fs : Int) = Xi S 904 8 - fs + 1 by omega] at T26
    refine y_bipush rfl rfl ?_
    refine y_icmp_ne rfl rfl (by unfold rg; omega) (by unfold rg; omega) (fun w813 => ?_) (fun w814 => ?_)
    · have w815 : Xi U61 904 65 = Xi S 904 65 := (show Xi U61 904 65 = Xi S 904 65 from by rw [eU61]; exact Xi_ne (by omega))
      have w816 : Xi U61 904 66 = Xi S 904 66 := (show Xi U61 904 66 = Xi S 904 66 from by rw [eU61]; exact Xi_ne (by omega))
      have w817 : Xi U61 904 69 = Xi S 904 69 := (show Xi U61 904 69 = Xi S 904 69 from by rw [eU61]; exact Xi_ne (by omega))
      have w818 : Xi U61 904 70 = Xi S 904 70 := (show Xi U61 904 70 = Xi S 904 70 from by rw [eU61]; exact Xi_ne (by omega))
      have w819 : Xi U61 904 74 = Xi S 904 74 := (show Xi U61 904 74 = Xi S 904 74 from by rw [eU61]; exact Xi_ne (by omega))
      have w820 : Xi U61 904 75 = Xi S 904 75 := (show Xi U61 904 75 = Xi S 904 75 from by rw [eU61]; exact Xi_ne (by omega))
      have w821 : Xi U61 904 76 = Xi S 904 76 := (show Xi U61 904 76 = Xi S 904 76 from by rw [eU61]; exact Xi_ne (by omega))
      have w822 : Xi U61 904 78 = Xi S 904 78 := (show Xi U61 904 78 = Xi S 904 78 from by rw [eU61]; exact Xi_ne (by omega))
      have w823 : Xi U61 904 8 = Xi S 904 8 := (show Xi U61 904 8 = Xi S 904 8 from by rw [eU61]; exact Xi_ne (by omega))
      have w824 : Xi U61 904 93 = Xi S 904 93 := (show Xi U61 904 93 = Xi S 904 93 from by rw [eU61]; exact Xi_ne (by omega))
      exact Pl_weak (C111 U61 hHU61 hFU61 (z795) (by omega) (by omega) (by omega) (by omega) (by omega) (by omega) (by omega) (by first | assumption | exact (JR_FR (FR_e eU61) rfl rfl rfl (by assumption : JR S _ _))) (by omega) (by omega) (un_a4 _)) (by omega) (And.intro rfl (And.intro rfl (True.intro)))
    · have w825 : Xi U61 904 65 = Xi S 904 65 := (show Xi U61 904 65 = Xi S 904 65 from by rw [eU61]; exact Xi_ne (by omega))
      have w826 : Xi U61 904 66 = Xi S 904 66 := (show Xi U61 904 66 = Xi S 904 66 from by rw [eU61]; exact Xi_ne (by omega))
      have w827 : Xi U61 904 69 = Xi S 904 69 := (show Xi U61 904 69 = Xi S 904 69 from by rw [eU61]; exact Xi_ne (by omega))
      have w828 : Xi U61 904 70 = Xi S 904 70 := (show Xi U61 904 70 = Xi S 904 70 from by rw [eU61]; exact Xi_ne (by omega))
      have w829 : Xi U61 904 74 = Xi S 904 74 := (show Xi U61 904 74 = Xi S 904 74 from by rw [eU61]; exact Xi_ne (by omega))
      have w830 : Xi U61 904 75 = Xi S 904 75 := (show Xi U61 904 75 = Xi S 904 75 from by rw [eU61]; exact Xi_ne (by omega))
      have w831 : Xi U61 904 76 = Xi S 904 76 := (show Xi U61 904 76 = Xi S 904 76 from by rw [eU61]; exact Xi_ne (by omega))
      have w832 : Xi U61 904 78 = Xi S 904 78 := (show Xi U61 904 78 = Xi S 904 78 from by rw [eU61]; exact Xi_ne (by omega))
      have w833 : Xi U61 904 8 = Xi S 904 8 := (show Xi U61 904 8 = Xi S 904 8 from by rw [eU61]; exact Xi_ne (by omega))
      have w834 : Xi U61 904 93 = Xi S 904 93 := (show Xi U61 904 93 = Xi S 904 93 from by rw [eU61]; exact Xi_ne (by omega))
      exact Pl_weak (C32 U61 hHU61 hFU61  (by omega) (by omega) (by omega) (by omega) (by omega) (by omega) (by first | assumption | exact (JR_FR (FR_e eU61) rfl rfl rfl (by assumption : JR S _ _))) (by omega)) (by omega) (And.intro rfl (True.intro))
end
