/-! SAFETY of methods: printed by wip/safe (vc.py, decl.py) -/
def md_rr_nameAdjective__2 : List rec := [(276, 876, 0, 1), (276, 876, 3, 4), (276, 876, 4, 5)]
abbrev Q_rr_nameAdjective__2 (S : sS) (c : Nat) (met : Int) (prop : Int) : pst := fun r S1 => HI S1 ∧ FR md_rr_nameAdjective__2 S S1 ∧ (r = none ∧ (KCL S S1 c) ∧ (∀ j, j ≠ 0 → j ≠ 3 → j ≠ 4 → Xi S1 (276 + c) j = Xi S (276 + c) j) ∧ (prop = -1 → Xi S1 (276 + c) 0 = 0 ∧ Xi S1 (276 + c) 3 = met) ∧ (prop ≠ -1 → Xi S1 (276 + c) 0 = 1 ∧ Xi S1 (276 + c) 3 = prop))
set_option maxRecDepth 100000 in
theorem t_rr_nameAdjective__2 {S : sS} (hH : HI S) (c : Nat) (met : Int) (prop : Int) (hc : c < 600) (hmet : 0 ≤ met ∧ met ≤ 255) (hprop : -1 ≤ prop ∧ prop ≤ 11) (d : Nat) : Mt lay0 (d + 1) m_rr_nameAdjective [.ref (276 + c), iv met, iv prop] S (Q_rr_nameAdjective__2 S c met prop) := by
  refine Mt_R rfl rfl ?_
  have hF : FR md_rr_nameAdjective__2 S S := FR.rf
  refine l_aload_n rfl rfl ?_
  refine l_iload_n rfl rfl ?_
  refine l_iconst rfl ?_
  refine l_icmp_ne rfl rfl (by unfold rg; omega) (by unfold rg; omega) (fun w1 => ?_) (fun w2 => ?_)
  · refine l_iconst rfl ?_
    refine l_pfi rfl rfl (layClW (by omega) rfl) rfl ?_
    obtain ⟨U1, eU1⟩ : ∃ T : sS, T = uI S (276 + c) 0 (Int32.ofInt 1) := ⟨_, rfl⟩
    rw [← eU1]
    have hHU1 : HI U1 := by rw [eU1]; exact HI_w hH (by rw [lh_cl0 (by omega)]; omega) (by rw [lh_cl0 (by omega)]; omega)
    have hFU1 : FR md_rr_nameAdjective__2 S U1 := by rw [eU1]; exact FR.wI hF (mdf_i (r := (276, 876, 0, 1)) (List.mem_of_getElem? (i := 0) rfl) (inR_i (by omega) (by omega) (by omega) (by omega)))
    have w3 : Xi U1 (276 + c) 0 = 1 := by rw [eU1]; exact Xi_same (by unfold rg; omega)
    refine l_aload_n rfl rfl ?_
    refine l_iload_n rfl rfl ?_
    refine l_iconst rfl ?_
    refine l_icmp_ne rfl rfl (by unfold rg; omega) (by unfold rg; omega) (fun w4 => ?_) (fun w5 => ?_)
    · refine l_iload_n rfl rfl ?_
      refine l_pfi rfl rfl (layClW (by omega) rfl) rfl ?_
      obtain ⟨U2, eU2⟩ : ∃ T : sS, T = uI U1 (276 + c) 3 (Int32.ofInt prop) := ⟨_, rfl⟩
      rw [← eU2]
      have hHU2 : HI U2 := by rw [eU2]; exact HI_w hHU1 (by rw [lh_cl3 (by omega)]; omega) (by rw [lh_cl3 (by omega)]; omega)
      have hFU2 : FR md_rr_nameAdjective__2 S U2 := by rw [eU2]; exact FR.wI hFU1 (mdf_i (r := (276, 876, 3, 4)) (List.mem_of_getElem? (i := 1) rfl) (inR_i (by omega) (by omega) (by omega) (by omega)))
      have w6 : Xi U2 (276 + c) 3 = prop := by rw [eU2]; exact Xi_same (by unfold rg; omega)
      refine l_aload_n rfl rfl ?_
      refine l_iload_n rfl rfl ?_
      refine l_pfi rfl rfl (layClW (by omega) rfl) rfl ?_
      obtain ⟨U3, eU3⟩ : ∃ T : sS, T = uI U2 (276 + c) 4 (Int32.ofInt met) := ⟨_, rfl⟩
      rw [← eU3]
      have hHU3 : HI U3 := by rw [eU3]; exact HI_any hHU2 (lh_cl4 (by omega))
      have hFU3 : FR md_rr_nameAdjective__2 S U3 := by rw [eU3]; exact FR.wI hFU2 (mdf_i (r := (276, 876, 4, 5)) (List.mem_of_getElem? (i := 2) rfl) (inR_i (by omega) (by omega) (by omega) (by omega)))
      have w7 : Xi U3 (276 + c) 4 = met := by rw [eU3]; exact Xi_same (by unfold rg; omega)
      refine l_return rfl rfl ?_
      have w8 : Xi U3 (276 + c) 0 = Xi U1 (276 + c) 0 := (show Xi U3 (276 + c) 0 = Xi U2 (276 + c) 0 from by rw [eU3]; exact Xi_ne (by omega)).trans ((show Xi U2 (276 + c) 0 = Xi U1 (276 + c) 0 from by rw [eU2]; exact Xi_ne (by omega)))
      have w9 : Xi U3 (276 + c) 3 = Xi U2 (276 + c) 3 := (show Xi U3 (276 + c) 3 = Xi U2 (276 + c) 3 from by rw [eU3]; exact Xi_ne (by omega))
      exact ⟨hHU3, hFU3, rfl, ((kcl_w eU3 (kcl_w eU2 (kcl_w eU1 KCL.rf)))), (fun j h1 h2 h3 => by rw [eU3, Xi_ne (by omega), eU2, Xi_ne (by omega), eU1, Xi_ne (by omega)]), (by omega), (by omega)⟩
    · refine l_iload_n rfl rfl ?_
      refine l_goto rfl rfl ?_
      refine l_pfi rfl rfl (layClW (by omega) rfl) rfl ?_
      obtain ⟨U4, eU4⟩ : ∃ T : sS, T = uI U1 (276 + c) 3 (Int32.ofInt met) := ⟨_, rfl⟩
      rw [← eU4]
      have hHU4 : HI U4 := by rw [eU4]; exact HI_w hHU1 (by rw [lh_cl3 (by omega)]; omega) (by rw [lh_cl3 (by omega)]; omega)
      have hFU4 : FR md_rr_nameAdjective__2 S U4 := by rw [eU4]; exact FR.wI hFU1 (mdf_i (r := (276, 876, 3, 4)) (List.mem_of_getElem? (i := 1) rfl) (inR_i (by omega) (by omega) (by omega) (by omega)))
      have w10 : Xi U4 (276 + c) 3 = met := by rw [eU4]; exact Xi_same (by unfold rg; omega)
      refine l_aload_n rfl rfl ?_
      refine l_iload_n rfl rfl ?_
      refine l_pfi rfl rfl (layClW (by omega) rfl) rfl ?_
      obtain ⟨U5, eU5⟩ : ∃ T : sS, T = uI U4 (276 + c) 4 (Int32.ofInt met) := ⟨_, rfl⟩
      rw [← eU5]
      have hHU5 : HI U5 := by rw [eU5]; exact HI_any hHU4 (lh_cl4 (by omega))
      have hFU5 : FR md_rr_nameAdjective__2 S U5 := by rw [eU5]; exact FR.wI hFU4 (mdf_i (r := (276, 876, 4, 5)) (List.mem_of_getElem? (i := 2) rfl) (inR_i (by omega) (by omega) (by omega) (by omega)))
      have w11 : Xi U5 (276 + c) 4 = met := by rw [eU5]; exact Xi_same (by unfold rg; omega)
      refine l_return rfl rfl ?_
      have w12 : Xi U5 (276 + c) 0 = Xi U1 (276 + c) 0 := (show Xi U5 (276 + c) 0 = Xi U4 (276 + c) 0 from by rw [eU5]; exact Xi_ne (by omega)).trans ((show Xi U4 (276 + c) 0 = Xi U1 (276 + c) 0 from by rw [eU4]; exact Xi_ne (by omega)))
      have w13 : Xi U5 (276 + c) 3 = Xi U4 (276 + c) 3 := (show Xi U5 (276 + c) 3 = Xi U4 (276 + c) 3 from by rw [eU5]; exact Xi_ne (by omega))
      exact ⟨hHU5, hFU5, rfl, ((kcl_w eU5 (kcl_w eU4 (kcl_w eU1 KCL.rf)))), (fun j h1 h2 h3 => by rw [eU5, Xi_ne (by omega), eU4, Xi_ne (by omega), eU1, Xi_ne (by omega)]), (by omega), (by omega)⟩
  · refine l_iconst rfl ?_
    refine l_goto rfl rfl ?_
    refine l_pfi rfl rfl (layClW (by omega) rfl) rfl ?_
    obtain ⟨U6, eU6⟩ : ∃ T : sS, T = uI S (276 + c) 0 (Int32.ofInt 0) := ⟨_, rfl⟩
    rw [← eU6]
    have hHU6 : HI U6 := by rw [eU6]; exact HI_w hH (by rw [lh_cl0 (by omega)]; omega) (by rw [lh_cl0 (by omega)]; omega)
    have hFU6 : FR md_rr_nameAdjective__2 S U6 := by rw [eU6]; exact FR.wI hF (mdf_i (r := (276, 876, 0, 1)) (List.mem_of_getElem? (i := 0) rfl) (inR_i (by omega) (by omega) (by omega) (by omega)))
    have w14 : Xi U6 (276 + c) 0 = 0 := by rw [eU6]; exact Xi_same (by unfold rg; omega)
    refine l_aload_n rfl rfl ?_
    refine l_iload_n rfl rfl ?_
    refine l_iconst rfl ?_
    refine l_icmp_ne rfl rfl (by unfold rg; omega) (by unfold rg; omega) (fun w15 => ?_) (fun w16 => ?_)
    · refine l_iload_n rfl rfl ?_
      refine l_pfi rfl rfl (layClW (by omega) rfl) rfl ?_
      obtain ⟨U7, eU7⟩ : ∃ T : sS, T = uI U6 (276 + c) 3 (Int32.ofInt prop) := ⟨_, rfl⟩
      rw [← eU7]
      have hHU7 : HI U7 := by rw [eU7]; exact HI_w hHU6 (by rw [lh_cl3 (by omega)]; omega) (by rw [lh_cl3 (by omega)]; omega)
      have hFU7 : FR md_rr_nameAdjective__2 S U7 := by rw [eU7]; exact FR.wI hFU6 (mdf_i (r := (276, 876, 3, 4)) (List.mem_of_getElem? (i := 1) rfl) (inR_i (by omega) (by omega) (by omega) (by omega)))
      have w17 : Xi U7 (276 + c) 3 = prop := by rw [eU7]; exact Xi_same (by unfold rg; omega)
      refine l_aload_n rfl rfl ?_
      refine l_iload_n rfl rfl ?_
      refine l_pfi rfl rfl (layClW (by omega) rfl) rfl ?_
      obtain ⟨U8, eU8⟩ : ∃ T : sS, T = uI U7 (276 + c) 4 (Int32.ofInt met) := ⟨_, rfl⟩
      rw [← eU8]
      have hHU8 : HI U8 := by rw [eU8]; exact HI_any hHU7 (lh_cl4 (by omega))
      have hFU8 : FR md_rr_nameAdjective__2 S U8 := by rw [eU8]; exact FR.wI hFU7 (mdf_i (r := (276, 876, 4, 5)) (List.mem_of_getElem? (i := 2) rfl) (inR_i (by omega) (by omega) (by omega) (by omega)))
      have w18 : Xi U8 (276 + c) 4 = met := by rw [eU8]; exact Xi_same (by unfold rg; omega)
      refine l_return rfl rfl ?_
      have w19 : Xi U8 (276 + c) 0 = Xi U6 (276 + c) 0 := (show Xi U8 (276 + c) 0 = Xi U7 (276 + c) 0 from by rw [eU8]; exact Xi_ne (by omega)).trans ((show Xi U7 (276 + c) 0 = Xi U6 (276 + c) 0 from by rw [eU7]; exact Xi_ne (by omega)))
      have w20 : Xi U8 (276 + c) 3 = Xi U7 (276 + c) 3 := (show Xi U8 (276 + c) 3 = Xi U7 (276 + c) 3 from by rw [eU8]; exact Xi_ne (by omega))
      exact ⟨hHU8, hFU8, rfl, ((kcl_w eU8 (kcl_w eU7 (kcl_w eU6 KCL.rf)))), (fun j h1 h2 h3 => by rw [eU8, Xi_ne (by omega), eU7, Xi_ne (by omega), eU6, Xi_ne (by omega)]), (by omega), (by omega)⟩
    · refine l_iload_n rfl rfl ?_
      refine l_goto rfl rfl ?_
      refine l_pfi rfl rfl (layClW (by omega) rfl) rfl ?_
      obtain ⟨U9, eU9⟩ : ∃ T : sS, T = uI U6 (276 + c) 3 (Int32.ofInt met) := ⟨_, rfl⟩
      rw [← eU9]
      have hHU9 : HI U9 := by rw [eU9]; exact HI_w hHU6 (by rw [lh_cl3 (by omega)]; omega) (by rw [lh_cl3 (by omega)]; omega)
      have hFU9 : FR md_rr_nameAdjective__2 S U9 := by rw [eU9]; exact FR.wI hFU6 (mdf_i (r := (276, 876, 3, 4)) (List.mem_of_getElem? (i := 1) rfl) (inR_i (by omega) (by omega) (by omega) (by omega)))
      have w21 : Xi U9 (276 + c) 3 = met := by rw [eU9]; exact Xi_same (by unfold rg; omega)
      refine l_aload_n rfl rfl ?_
      refine l_iload_n rfl rfl ?_
      refine l_pfi rfl rfl (layClW (by omega) rfl) rfl ?_
      obtain ⟨U10, eU10⟩ : ∃ T : sS, T = uI U9 (276 + c) 4 (Int32.ofInt met) := ⟨_, rfl⟩
      rw [← eU10]
      have hHU10 : HI U10 := by rw [eU10]; exact HI_any hHU9 (lh_cl4 (by omega))
      have hFU10 : FR md_rr_nameAdjective__2 S U10 := by rw [eU10]; exact FR.wI hFU9 (mdf_i (r := (276, 876, 4, 5)) (List.mem_of_getElem? (i := 2) rfl) (inR_i (by omega) (by omega) (by omega) (by omega)))
      have w22 : Xi U10 (276 + c) 4 = met := by rw [eU10]; exact Xi_same (by unfold rg; omega)
      refine l_return rfl rfl ?_
      have w23 : Xi U10 (276 + c) 0 = Xi U6 (276 + c) 0 := (show Xi U10 (276 + c) 0 = Xi U9 (276 + c) 0 from by rw [eU10]; exact Xi_ne (by omega)).trans ((show Xi U9 (276 + c) 0 = Xi U6 (276 + c) 0 from by rw [eU9]; exact Xi_ne (by omega)))
      have w24 : Xi U10 (276 + c) 3 = Xi U9 (276 + c) 3 := (show Xi U10 (276 + c) 3 = Xi U9 (276 + c) 3 from by rw [eU10]; exact Xi_ne (by omega))
      exact ⟨hHU10, hFU10, rfl, ((kcl_w eU10 (kcl_w eU9 (kcl_w eU6 KCL.rf)))), (fun j h1 h2 h3 => by rw [eU10, Xi_ne (by omega), eU9, Xi_ne (by omega), eU6, Xi_ne (by omega)]), (by omega), (by omega)⟩
/-! SAFETY: rules: one clause by its form -/
theorem isK_v {S : sS} {k o z : Int} (h : z = isK S k o) (q : z ≠ 0) : 0 ≤ k := by
  rcases Int.lt_or_le k 0 with a | a
  · exact absurd (h.trans (show isKn S o 16 k = 0 from isKn_e (i := 0) (Or.inl a))) q
  · exact a
def fdis (l : List rec) (j : Nat) : Bool := l.all (fun r => Nat.ble r.2.1 276 || (Nat.ble 876 r.1 || (Nat.blt j r.2.2.1 || Nat.ble r.2.2.2 j)))
theorem FR_clj {l : List rec} {S T : sS} {i j : Nat} (F : FR l S T) (e : fdis l j = true) (hi : i < 600) : Xi T (276 + i) j = Xi S (276 + i) j := by
  refine F.x _ _ ?_
  cases hm : mdf l (276 + i) j with
  | false => rfl
  | true =>
    obtain ⟨r, hr, h3⟩ := List.any_eq_true.mp hm
    have h4 := List.all_eq_true.mp e r hr
    unfold inR at h3
    simp only [Bool.and_eq_true] at h3
    have c1 := Nat.le_of_ble_eq_true h3.1
    have c2 := Nat.le_of_ble_eq_true h3.2.1
    have c3 := Nat.le_of_ble_eq_true h3.2.2.1
    have c4 := Nat.le_of_ble_eq_true h3.2.2.2
    simp only [Bool.or_eq_true] at h4
    rcases h4 with h4 | h4 | h4 | h4 <;> (have c := Nat.le_of_ble_eq_true h4; omega)
theorem CLok_x {S S1 : sS} {b : Prop} {c : Nat} (h : sG S S1) (x : ∀ j, Xi S1 (276 + c) j = Xi S (276 + c) j) (hk : CLok S b c) : CLok S1 b c := by
  have g3 := h.2.2.2.1
  have g8 := h.2.2.2.2.1
  have g19 := h.2.2.2.2.2.1
  obtain ⟨k0, k1, k2, k3, k4, k5, k6, k7⟩ := hk
  unfold CLok
  simp only [x]
  refine ⟨fun e => ⟨(k0 e).1, (k0 e).2.1, by have := (k0 e).2.2; omega⟩, fun e => ⟨(k1 e).1, TXT_eq h.2.1 (k1 e).2⟩, k2, k3, k4, fun e => ⟨TXT_eq h.2.1 (k5 e).1, INS_sG h (k5 e).1 (k5 e).2⟩, k6, fun e => ?_⟩
  obtain ⟨q0, q1, q2, q3⟩ := k7 e
  rw [g19 _ (by omega)]
  exact ⟨q0, by omega, q2, q3⟩
theorem TSok_x {S S1 : sS} {b : Prop} {c : Nat} (h : sG S S1) (x : ∀ j, Xi S1 (276 + c) j = Xi S (276 + c) j) (hk : TSok S b c) : TSok S1 b c := ⟨CLok_x h x hk.1, by rw [x]; exact hk.2⟩
theorem TSok_f {l : List rec} {S T : sS} {b : Prop} {c : Nat} (hH : HI S) (h : FR l S T) (e : (kdis l kG && (!(mdf l 20 1) && (!(mdf l 246 8) && !(mdf l 246 5)))) = true) (e5 : kdis l [(5, 6)] = true) (ec : kdis l [(276, 876)] = true) (hc : c < 600) (hk : TSok S b c) : TSok T b c :=
  TSok_x (FR_sG hH h e (by rw [(h.smk e5).x 5 rfl]; exact Int.le_refl _) (by rw [(h.smk e5).x 5 rfl]; exact Int.le_refl _)) (cl_keep h ec hc) hk
theorem ts_0 {S : sS} {b : Prop} {c : Nat} {x : Int} (e : Xi S (276 + c) 0 = 0) (e2 : Xi S (276 + c) 2 = x) (h : WHO b x) (h3 : 0 ≤ Xi S (276 + c) 3 ∧ Xi S (276 + c) 3 < Xi S 5 3) : TSok S b c :=
  ⟨⟨fun _ => ⟨by rw [e2]; exact h, h3⟩, fun q => by omega, fun q => by omega, fun q => by omega, fun q => by omega, fun q => by omega, fun q => by omega, fun q => by omega⟩, by omega⟩
theorem ts_1 {S : sS} {b : Prop} {c : Nat} {x v n : Int} (e : Xi S (276 + c) 0 = 1 ∨ Xi S (276 + c) 0 = 4) (e2 : Xi S (276 + c) 2 = x) (h : WHO b x) (h3 : 0 ≤ Xi S (276 + c) 3 ∧ Xi S (276 + c) 3 ≤ 11) (e4 : Xi S (276 + c) 4 = v) (e5 : Xi S (276 + c) 5 = n) (ht : TXT S v n) : TSok S b c :=
  ⟨⟨fun q => by omega, fun _ => ⟨⟨by rw [e2]; exact h, h3⟩, by rw [e4, e5]; exact ht⟩, fun q => by omega, fun q => by omega, fun q => by omega, fun q => by omega, fun q => by omega, fun q => by omega⟩, by omega⟩
theorem ts_2 {S : sS} {b : Prop} {c : Nat} {x : Int} (e : Xi S (276 + c) 0 = 2 ∨ Xi S (276 + c) 0 = 3) (e2 : Xi S (276 + c) 2 = x) (h : WHO b x) (h3 : 0 ≤ Xi S (276 + c) 3 ∧ Xi S (276 + c) 3 ≤ 11) : TSok S b c :=
  ⟨⟨fun q => by omega, fun q => by omega, fun _ => ⟨by rw [e2]; exact h, h3⟩, fun q => by omega, fun q => by omega, fun q => by omega, fun q => by omega, fun q => by omega⟩, by omega⟩
theorem cl_9 {S : sS} {b : Prop} {c : Nat} {x : Int} (e : Xi S (276 + c) 0 = 9) (e2 : Xi S (276 + c) 2 = x) (h : WHO b x) (h3 : 0 ≤ Xi S (276 + c) 3 ∧ Xi S (276 + c) 3 ≤ 11) : CLok S b c :=
  ⟨fun q => by omega, fun q => by omega, fun _ => ⟨by rw [e2]; exact h, h3⟩, fun q => by omega, fun q => by omega, fun q => by omega, fun q => by omega, fun q => by omega⟩
theorem ts_5 {S : sS} {b : Prop} {c : Nat} {x : Int} (e : Xi S (276 + c) 0 = 5) (e2 : Xi S (276 + c) 2 = x) (h : WHO b x) : TSok S b c :=
  ⟨⟨fun q => by omega, fun q => by omega, fun q => by omega, fun _ => by rw [e2]; exact h, fun q => by omega, fun q => by omega, fun q => by omega, fun q => by omega⟩, by omega⟩
theorem ts_6 {S : sS} {b : Prop} {c : Nat} {x y : Int} (e : Xi S (276 + c) 0 = 6) (e2 : Xi S (276 + c) 2 = x) (h : WHO b x) (e6 : Xi S (276 + c) 6 = y) (h6 : WHO b y) (h3 : 0 ≤ Xi S (276 + c) 3 ∧ Xi S (276 + c) 3 ≤ 5) : TSok S b c :=
  ⟨⟨fun q => by omega, fun q => by omega, fun q => by omega, fun q => by omega, fun _ => ⟨by rw [e2]; exact h, by rw [e6]; exact h6, h3⟩, fun q => by omega, fun q => by omega, fun q => by omega⟩, by omega⟩
theorem cl_7 {S : sS} {b : Prop} {c : Nat} {w v n : Int} (e : Xi S (276 + c) 0 = 7) (e3 : Xi S (276 + c) 3 = w) (e4 : Xi S (276 + c) 4 = v) (e5 : Xi S (276 + c) 5 = n) (ht : TXT S v n) (hi : INS S b w v n) : CLok S b c :=
  ⟨fun q => by omega, fun q => by omega, fun q => by omega, fun q => by omega, fun q => by omega, fun _ => by rw [e3, e4, e5]; exact ⟨ht, hi⟩, fun q => by omega, fun q => by omega⟩
theorem cl_8 {S : sS} {b : Prop} {c : Nat} {x y : Int} (e : Xi S (276 + c) 0 = 8) (e2 : Xi S (276 + c) 2 = x) (h : WHO b x) (e6 : Xi S (276 + c) 6 = y) (h6 : WHO b y) : CLok S b c :=
  ⟨fun q => by omega, fun q => by omega, fun q => by omega, fun q => by omega, fun q => by omega, fun q => by omega, fun _ => ⟨by rw [e2]; exact h, by rw [e6]; exact h6⟩, fun q => by omega⟩
theorem cl_10 {S : sS} {b : Prop} {c : Nat} {x y : Int} (e : Xi S (276 + c) 0 = 10) (e2 : Xi S (276 + c) 2 = x) (e3 : Xi S (276 + c) 3 = y) (h3 : 0 ≤ y ∧ y < Xi S 5 8) (h : 0 ≤ Xi S 19 y.toNat → WHO b x) (hn : Xi S 19 y.toNat ≠ -2) : CLok S b c :=
  ⟨fun q => by omega, fun q => by omega, fun q => by omega, fun q => by omega, fun q => by omega, fun q => by omega, fun q => by omega, fun _ => by rw [e2, e3]; exact ⟨h3.1, h3.2, h, hn⟩⟩
theorem cl_11 {S : sS} {b : Prop} {c : Nat} (e : Xi S (276 + c) 0 = 11) : CLok S b c :=
  ⟨fun q => by omega, fun q => by omega, fun q => by omega, fun q => by omega, fun q => by omega, fun q => by omega, fun q => by omega, fun q => by omega⟩
def md_rr_saying : List rec := [(276, 876, 0, 1), (276, 876, 2, 3), (276, 876, 3, 4), (276, 876, 6, 7), (876, 877, 8, 9), (876, 877, 9, 10), (895, 896, 5, 6), (895, 896, 6, 7), (895, 896, 7, 8)]
abbrev Q_rr_saying (S : sS) (from_ : Int) (to : Int) (cl : Nat) : pst := fun r S1 => HI S1 ∧ FR md_rr_saying S S1 ∧ (∃ z : Int, r = some (iv z) ∧ (0 ≤ z ∧ z ≤ 1) ∧ (KCL S S1 cl) ∧ (z = 1 → TSok S1 (0 ≤ Xi S 895 4) cl) ∧ (z = 0 → Xi S1 876 8 ≠ 0))
set_option maxRecDepth 100000 in
theorem t_rr_saying {S : sS} (hH : HI S) (from_ : Int) (to : Int) (cl : Nat) (hfrom_ : 0 ≤ from_ ∧ from_ ≤ 5140) (hto : 0 ≤ to ∧ to ≤ 5130) (hcl : cl < 600) (hL : LEX S) (d : Nat) : Mt lay0 (d + 3) m_rr_saying [.ref 899, iv from_, iv to, .ref (276 + cl)] S (Q_rr_saying S from_ to cl) := by
  refine Mt_R rfl rfl ?_
  have hF : FR md_rr_saying S S := FR.rf
  have w1 : -1 ≤ Xi S 895 4 ∧ Xi S 895 4 ≤ 15 := hH.c _ _
  have C12 : ∀ (n12 : Nat) (T1 : sS) (_ : HI T1) (_ : FR md_rr_saying S T1) (v4 : Int) (v5 : Int), (0 ≤ v4 ∧ v4 ≤ 5140) → (0 ≤ v5 ∧ v5 ≤ 5140) → (v4 ≤ v5) → (KCL S T1 cl) → (Xi T1 (276 + cl) 0 = 6) → (v4 ≠ 0 → TSok T1 (0 ≤ Xi S 895 4) cl) → n12 = (5141 - v5).toNat → Rl lay0 (d + 2) m_rr_saying 12 [(0, .ref 899), (1, iv from_), (2, iv to), (3, .ref (276 + cl)), (4, iv v4), (5, iv v5)] [] T1 (Q_rr_saying S from_ to cl) := by
    intro n12
    induction n12 using Nat.strongRecOn with
    | ind n12 ih12 =>
      intro T1 hHT1 hFT1 v4 v5 w2 w3 w4 hk12 hf12 ho12 hm12
      have w5 : Xi T1 876 7 = Xi S 876 7 := hFT1.x _ _ rfl
      have w6 : Xi T1 895 4 = Xi S 895 4 := hFT1.x _ _ rfl
      refine l_iload rfl rfl ?_
      refine l_iload_n rfl rfl ?_
      refine l_icmp_ge rfl rfl (by unfold rg; omega) (by unfold rg; omega) (fun w7 => ?_) (fun w8 => ?_)
      · refine l_iload rfl rfl ?_
        refine l_iconst rfl ?_
        refine l_icmp_eq rfl rfl (by unfold rg; omega) (by unfold rg; omega) (fun w9 => ?_) (fun w10 => ?_)
        · refine l_iconst rfl ?_
          refine l_goto rfl rfl ?_
          refine l_ireturn rfl rfl ?_
          have w11 : 0 ≤ Xi T1 876 8 ∧ Xi T1 876 8 ≤ 9 := hHT1.c _ _
          have w12 : -1 ≤ Xi T1 895 4 ∧ Xi T1 895 4 ≤ 15 := hHT1.c _ _
          exact ⟨hHT1, hFT1, _, rfl, ⟨by omega, by omega⟩, (hk12), (fun q => by first | (exfalso; omega) | exact ho12 (by omega)), (fun q => by first | omega | (exfalso; omega))⟩
        · refine l_aload_n rfl rfl ?_
          refine l_gfr rfl rfl rfl rfl rfl (hHT1.r 899 0 876 rfl) ?_
          refine l_iload rfl rfl ?_
          refine l_if_ne rfl rfl (by unfold rg; omega) (fun w13 => ?_) (fun w14 => ?_)
          · refine l_bipush rfl rfl ?_
            refine l_iload_n rfl rfl ?_
            refine l_callV rfl rfl rfl (t_to_wrong hHT1 7 from_ ⟨by omega, by omega⟩ ⟨by omega, by omega⟩ _) ?_
            rintro _ T2 ⟨hHT2, w19, z18, rfl, w18, w16, w17⟩
            have hFT2 : FR md_rr_saying S T2 := FR.tr hFT1 w19 rfl
            show Rl _ _ _ _ _ [iv z18] _ _
            refine l_if_eq rfl rfl (by unfold rg; omega) (fun w20 => ?_) (fun w21 => ?_)
            · refine l_iconst rfl ?_
              refine l_ireturn rfl rfl ?_
              have w22 : Xi T2 (276 + cl) 0 = Xi T1 (276 + cl) 0 := (show Xi T2 (276 + cl) 0 = Xi T1 (276 + cl) 0 from FR_cl w19 rfl (by omega))
              have w23 : Xi T2 (276 + cl) 2 = Xi T1 (276 + cl) 2 := (show Xi T2 (276 + cl) 2 = Xi T1 (276 + cl) 2 from FR_cl w19 rfl (by omega))
              have w24 : Xi T2 (276 + cl) 3 = Xi T1 (276 + cl) 3 := (show Xi T2 (276 + cl) 3 = Xi T1 (276 + cl) 3 from FR_cl w19 rfl (by omega))
              have w25 : Xi T2 (276 + cl) 6 = Xi T1 (276 + cl) 6 := (show Xi T2 (276 + cl) 6 = Xi T1 (276 + cl) 6 from FR_cl w19 rfl (by omega))
              have w26 : 0 ≤ Xi T2 876 8 ∧ Xi T2 876 8 ≤ 9 := hHT2.c _ _
              have w27 : Xi T2 895 4 = Xi T1 895 4 := (show Xi T2 895 4 = Xi T1 895 4 from w19.x _ _ rfl)
              have w28 : -1 ≤ Xi T1 895 4 ∧ Xi T1 895 4 ≤ 15 := hHT1.c _ _
              exact ⟨hHT2, hFT2, _, rfl, ⟨by omega, by omega⟩, ((kcl_f w19 rfl hk12)), (fun q => by first | (exfalso; omega) | exact ho12 (by omega)), (fun q => by first | omega | (exfalso; omega))⟩
            · refine l_iconst rfl ?_
              refine l_goto rfl rfl ?_
              refine l_ireturn rfl rfl ?_
              have w29 : Xi T2 (276 + cl) 0 = Xi T1 (276 + cl) 0 := (show Xi T2 (276 + cl) 0 = Xi T1 (276 + cl) 0 from FR_cl w19 rfl (by omega))
              have w30 : Xi T2 (276 + cl) 2 = Xi T1 (276 + cl) 2 := (show Xi T2 (276 + cl) 2 = Xi T1 (276 + cl) 2 from FR_cl w19 rfl (by omega))
              have w31 : Xi T2 (276 + cl) 3 = Xi T1 (276 + cl) 3 := (show Xi T2 (276 + cl) 3 = Xi T1 (276 + cl) 3 from FR_cl w19 rfl (by omega))
              have w32 : Xi T2 (276 + cl) 6 = Xi T1 (276 + cl) 6 := (show Xi T2 (276 + cl) 6 = Xi T1 (276 + cl) 6 from FR_cl w19 rfl (by omega))
              have w33 : 0 ≤ Xi T2 876 8 ∧ Xi T2 876 8 ≤ 9 := hHT2.c _ _
              have w34 : Xi T2 895 4 = Xi T1 895 4 := (show Xi T2 895 4 = Xi T1 895 4 from w19.x _ _ rfl)
              have w35 : -1 ≤ Xi T1 895 4 ∧ Xi T1 895 4 ≤ 15 := hHT1.c _ _
              exact ⟨hHT2, hFT2, _, rfl, ⟨by omega, by omega⟩, ((kcl_f w19 rfl hk12)), (fun q => by first | (exfalso; omega) | exact ho12 (by omega)), (fun q => by first | omega | (exfalso; omega))⟩
          · refine l_iconst rfl ?_
            refine l_goto rfl rfl ?_
            refine l_iload_n rfl rfl ?_
            refine l_callV rfl rfl rfl (t_to_wrong hHT1 4 from_ ⟨by omega, by omega⟩ ⟨by omega, by omega⟩ _) ?_
            rintro _ T3 ⟨hHT3, w40, z39, rfl, w39, w37, w38⟩
            have hFT3 : FR md_rr_saying S T3 := FR.tr hFT1 w40 rfl
            show Rl _ _ _ _ _ [iv z39] _ _
            refine l_if_eq rfl rfl (by unfold rg; omega) (fun w41 => ?_) (fun w42 => ?_)
            · refine l_iconst rfl ?_
              refine l_ireturn rfl rfl ?_
              have w43 : Xi T3 (276 + cl) 0 = Xi T1 (276 + cl) 0 := (show Xi T3 (276 + cl) 0 = Xi T1 (276 + cl) 0 from FR_cl w40 rfl (by omega))
              have w44 : Xi T3 (276 + cl) 2 = Xi T1 (276 + cl) 2 := (show Xi T3 (276 + cl) 2 = Xi T1 (276 + cl) 2 from FR_cl w40 rfl (by omega))
              have w45 : Xi T3 (276 + cl) 3 = Xi T1 (276 + cl) 3 := (show Xi T3 (276 + cl) 3 = Xi T1 (276 + cl) 3 from FR_cl w40 rfl (by omega))
              have w46 : Xi T3 (276 + cl) 6 = Xi T1 (276 + cl) 6 := (show Xi T3 (276 + cl) 6 = Xi T1 (276 + cl) 6 from FR_cl w40 rfl (by omega))
              have w47 : 0 ≤ Xi T3 876 8 ∧ Xi T3 876 8 ≤ 9 := hHT3.c _ _
              have w48 : Xi T3 895 4 = Xi T1 895 4 := (show Xi T3 895 4 = Xi T1 895 4 from w40.x _ _ rfl)
              have w49 : -1 ≤ Xi T1 895 4 ∧ Xi T1 895 4 ≤ 15 := hHT1.c _ _
              exact ⟨hHT3, hFT3, _, rfl, ⟨by omega, by omega⟩, ((kcl_f w40 rfl hk12)), (fun q => by first | (exfalso; omega) | exact ho12 (by omega)), (fun q => by first | omega | (exfalso; omega))⟩
            · refine l_iconst rfl ?_
              refine l_goto rfl rfl ?_
              refine l_ireturn rfl rfl ?_
              have w50 : Xi T3 (276 + cl) 0 = Xi T1 (276 + cl) 0 := (show Xi T3 (276 + cl) 0 = Xi T1 (276 + cl) 0 from FR_cl w40 rfl (by omega))
              have w51 : Xi T3 (276 + cl) 2 = Xi T1 (276 + cl) 2 := (show Xi T3 (276 + cl) 2 = Xi T1 (276 + cl) 2 from FR_cl w40 rfl (by omega))
              have w52 : Xi T3 (276 + cl) 3 = Xi T1 (276 + cl) 3 := (show Xi T3 (276 + cl) 3 = Xi T1 (276 + cl) 3 from FR_cl w40 rfl (by omega))
              have w53 : Xi T3 (276 + cl) 6 = Xi T1 (276 + cl) 6 := (show Xi T3 (276 + cl) 6 = Xi T1 (276 + cl) 6 from FR_cl w40 rfl (by omega))
              have w54 : 0 ≤ Xi T3 876 8 ∧ Xi T3 876 8 ≤ 9 := hHT3.c _ _
              have w55 : Xi T3 895 4 = Xi T1 895 4 := (show Xi T3 895 4 = Xi T1 895 4 from w40.x _ _ rfl)
              have w56 : -1 ≤ Xi T1 895 4 ∧ Xi T1 895 4 ≤ 15 := hHT1.c _ _
              exact ⟨hHT3, hFT3, _, rfl, ⟨by omega, by omega⟩, ((kcl_f w40 rfl hk12)), (fun q => by first | (exfalso; omega) | exact ho12 (by omega)), (fun q => by first | omega | (exfalso; omega))⟩
      · refine l_aload_n rfl rfl ?_
        refine l_gfr rfl rfl rfl rfl rfl (hHT1.r 899 0 876 rfl) ?_
        refine l_iload rfl rfl ?_
        have w57 : 0 ≤ Xi T1 876 7 ∧ Xi T1 876 7 ≤ 5125 := hHT1.c _ _
        refine l_callV rfl rfl rfl (t_to_typeAt hHT1 v5 ⟨by omega, by omega⟩ _) ?_
        rintro _ _ ⟨rfl, z62, rfl, w62, w59, w60, w61⟩
        clear w60 w61
        show Rl _ _ _ _ _ [iv z62] _ _
        refine l_bipush rfl rfl ?_
        refine l_icmp_ne rfl rfl (by unfold rg; omega) (by unfold rg; omega) (fun w63 => ?_) (fun w64 => ?_)
        · refine l_iconst rfl ?_
          refine l_istore rfl rfl rfl ?_
          refine l_iload rfl rfl ?_
          refine l_iconst rfl ?_
          refine l_icmp_ne rfl rfl (by unfold rg; omega) (by unfold rg; omega) (fun w65 => absurd w65 (by omega)) (fun w66 => ?_)
          · refine l_goto rfl rfl ?_
            refine l_iinc rfl rfl rfl rfl ?_
            refine l_goto rfl rfl ?_
            have w67 : -1 ≤ Xi T1 895 4 ∧ Xi T1 895 4 ≤ 15 := hHT1.c _ _
            exact Rl_weak (ih12 _ (by omega) T1 hHT1 hFT1 (v4) ((v5 + 1)) (by omega) (by omega) (by omega) (hk12) (by first | assumption | omega) (by first | (intro q; exfalso; omega) | exact ho12 | exact o142 | exact fun _ => ts_6 (by omega) (x := Xi _ 895 5) (by omega) (w81 (by omega)) (y := Xi _ 895 5) (by omega) (w142 (by omega)) (by omega)) rfl) (And.intro rfl (And.intro rfl (And.intro rfl (And.intro rfl (And.intro rfl (And.intro rfl (True.intro)))))))
        · refine l_aload_n rfl rfl ?_
          refine l_gfr rfl rfl rfl rfl rfl (hHT1.r 899 2 895 rfl) ?_
          refine l_bipush rfl rfl ?_
          refine l_iload rfl rfl ?_
          refine l_iload rfl rfl ?_
          refine l_iconst rfl ?_
          refine l_iadd rfl ?_
          refine l_callV rfl rfl rfl (t_me_find hHT1 13 v5 (v5 + 1) ⟨by omega, by omega⟩ ⟨by omega, by omega⟩ ⟨by omega, by omega⟩ (by first | assumption | exact (LEX_FR hFT1 rfl rfl (by assumption : LEX S))) _) ?_
          rintro _ _ ⟨rfl, z72, rfl, w72, w69, w70, w71⟩
          have w73 : z72 ≠ -1 → _ := fun h => fb13 hHT1 (w69 h)
          clear w70
          show Rl _ _ _ _ _ [iv z72] _ _
          refine l_goto rfl rfl ?_
          refine l_istore rfl rfl rfl ?_
          refine l_iload rfl rfl ?_
          refine l_iconst rfl ?_
          refine l_icmp_ne rfl rfl (by unfold rg; omega) (by unfold rg; omega) (fun w74 => ?_) (fun w75 => ?_)
          · refine l_aload_n rfl rfl ?_
            refine l_gfr rfl rfl rfl rfl rfl (hHT1.r 899 1 1 rfl) ?_
            refine l_gfr rfl rfl rfl rfl rfl (hHT1.r 1 17 18 rfl) ?_
            refine l_iload rfl rfl ?_
            refine l_iaload (n := 8) rfl rfl (by omega) (by omega) (by unfold rg; omega) ?_
            have w76 : 0 ≤ (Xi T1 18 ((z72).toNat)) ∧ (Xi T1 18 ((z72).toNat)) ≤ 5 := hHT1.c _ _
            refine l_istore rfl rfl rfl ?_
            refine l_aload_n rfl rfl ?_
            refine l_gfr rfl rfl rfl rfl rfl (hHT1.r 899 2 895 rfl) ?_
            refine l_iload_n rfl rfl ?_
            refine l_iload rfl rfl ?_
            have w77 : -1 ≤ Xi T1 895 4 ∧ Xi T1 895 4 ≤ 15 := hHT1.c _ _
            refine l_callV rfl rfl rfl (t_me_readThing hHT1 from_ v5 ⟨by omega, by omega⟩ ⟨by omega, by omega⟩ (by first | assumption | exact (LEX_FR hFT1 rfl rfl (by assumption : LEX S))) _) ?_
            rintro _ T4 ⟨hHT4, w83, z82, rfl, w82, w78, w79, w80, w81⟩
            have hFT4 : FR md_rr_saying S T4 := FR.tr hFT1 w83 rfl
            show Rl _ _ _ _ _ [iv z82] _ _
            have w81 : Xi T4 895 5 ≠ -1 → WHO (0 ≤ Xi S 895 4) (Xi T4 895 5) := fun q => who_of q (hHT4.c 895 5).1 (fun e => by have t := (by assumption : Xi T4 895 5 = -2 → 0 ≤ Xi T1 895 4) e; omega)
            have o81 : v4 ≠ 0 → TSok T4 (0 ≤ Xi S 895 4) cl := fun q => TSok_f hHT1 (by assumption : FR md_me_readThing T1 T4) rfl rfl rfl (by omega) (ho12 q)
            refine l_istore rfl rfl rfl ?_
            refine l_iload rfl rfl ?_
            refine l_iload rfl rfl ?_
            refine l_icmp_ne rfl rfl (by unfold rg; omega) (by unfold rg; omega) (fun w84 => ?_) (fun w85 => ?_)
            · refine l_iconst rfl ?_
              refine l_istore rfl rfl rfl ?_
              refine l_aload_n rfl rfl ?_
              refine l_gfr rfl rfl rfl rfl rfl (hHT4.r 899 2 895 rfl) ?_
              refine l_iload rfl rfl ?_
              refine l_iconst rfl ?_
              refine l_iadd rfl ?_
              refine l_iload_n rfl rfl ?_
              have w86 : Xi T4 (276 + cl) 0 = Xi T1 (276 + cl) 0 := (show Xi T4 (276 + cl) 0 = Xi T1 (276 + cl) 0 from FR_cl w83 rfl (by omega))
              have w87 : Xi T4 (276 + cl) 2 = Xi T1 (276 + cl) 2 := (show Xi T4 (276 + cl) 2 = Xi T1 (276 + cl) 2 from FR_cl w83 rfl (by omega))
              have w88 : Xi T4 (276 + cl) 3 = Xi T1 (276 + cl) 3 := (show Xi T4 (276 + cl) 3 = Xi T1 (276 + cl) 3 from FR_cl w83 rfl (by omega))
              have w89 : Xi T4 (276 + cl) 6 = Xi T1 (276 + cl) 6 := (show Xi T4 (276 + cl) 6 = Xi T1 (276 + cl) 6 from FR_cl w83 rfl (by omega))
              have w90 : Xi T4 895 4 = Xi T1 895 4 := (show Xi T4 895 4 = Xi T1 895 4 from w83.x _ _ rfl)
              refine l_callV rfl rfl rfl (t_me_readThing hHT4 (v5 + 1) to ⟨by omega, by omega⟩ ⟨by omega, by omega⟩ (by first | assumption | exact (LEX_FR hFT4 rfl rfl (by assumption : LEX S))) _) ?_
              rintro _ T5 ⟨hHT5, w97, z96, rfl, w96, w92, w93, w94, w95⟩
              have hFT5 : FR md_rr_saying S T5 := FR.tr hFT4 w97 rfl
              show Rl _ _ _ _ _ [iv z96] _ _
              have w142 : Xi T5 895 5 ≠ -1 → WHO (0 ≤ Xi S 895 4) (Xi T5 895 5) := fun q => who_of q (hHT5.c 895 5).1 (fun e => by have t := (by assumption : Xi T5 895 5 = -2 → 0 ≤ Xi T4 895 4) e; omega)
              have o142 : v4 ≠ 0 → TSok T5 (0 ≤ Xi S 895 4) cl := fun q => TSok_f hHT4 (by assumption : FR md_me_readThing T4 T5) rfl rfl rfl (by omega) (o81 q)
              refine l_istore rfl rfl rfl ?_
              refine l_iload rfl rfl ?_
              refine l_iconst rfl ?_
              refine l_icmp_eq rfl rfl (by unfold rg; omega) (by unfold rg; omega) (fun w98 => ?_) (fun w99 => absurd w99 (by omega))
              · refine l_iinc rfl rfl rfl rfl ?_
                refine l_goto rfl rfl ?_
                have w100 : Xi T5 (276 + cl) 0 = Xi T1 (276 + cl) 0 := (show Xi T5 (276 + cl) 0 = Xi T4 (276 + cl) 0 from FR_cl w97 rfl (by omega)).trans ((show Xi T4 (276 + cl) 0 = Xi T1 (276 + cl) 0 from FR_cl w83 rfl (by omega)))
                have w101 : Xi T5 (276 + cl) 2 = Xi T1 (276 + cl) 2 := (show Xi T5 (276 + cl) 2 = Xi T4 (276 + cl) 2 from FR_cl w97 rfl (by omega)).trans ((show Xi T4 (276 + cl) 2 = Xi T1 (276 + cl) 2 from FR_cl w83 rfl (by omega)))
                have w102 : Xi T5 (276 + cl) 3 = Xi T1 (276 + cl) 3 := (show Xi T5 (276 + cl) 3 = Xi T4 (276 + cl) 3 from FR_cl w97 rfl (by omega)).trans ((show Xi T4 (276 + cl) 3 = Xi T1 (276 + cl) 3 from FR_cl w83 rfl (by omega)))
                have w103 : Xi T5 (276 + cl) 6 = Xi T1 (276 + cl) 6 := (show Xi T5 (276 + cl) 6 = Xi T4 (276 + cl) 6 from FR_cl w97 rfl (by omega)).trans ((show Xi T4 (276 + cl) 6 = Xi T1 (276 + cl) 6 from FR_cl w83 rfl (by omega)))
                have w104 : Xi T5 895 4 = Xi T1 895 4 := (show Xi T5 895 4 = Xi T4 895 4 from w97.x _ _ rfl).trans ((show Xi T4 895 4 = Xi T1 895 4 from w83.x _ _ rfl))
                exact Rl_weak (ih12 _ (by omega) T5 hHT5 hFT5 (v4) ((v5 + 1)) (by omega) (by omega) (by omega) ((kcl_f w97 rfl (kcl_f w83 rfl hk12))) (by first | assumption | omega) (by first | (intro q; exfalso; omega) | exact ho12 | exact o142 | exact fun _ => ts_6 (by omega) (x := Xi _ 895 5) (by omega) (w81 (by omega)) (y := Xi _ 895 5) (by omega) (w142 (by omega)) (by omega)) rfl) (And.intro rfl (And.intro rfl (And.intro rfl (And.intro rfl (And.intro rfl (And.intro rfl (True.intro)))))))
            · refine l_aload_n rfl rfl ?_
              refine l_gfr rfl rfl rfl rfl rfl (hHT4.r 899 1 1 rfl) ?_
              refine l_aload_n rfl rfl ?_
              refine l_gfr rfl rfl rfl rfl rfl (hHT4.r 899 2 895 rfl) ?_
              refine l_gfi rfl rfl rfl rfl rfl ?_
              have w106 : -1 ≤ (Xi T4 895 6) ∧ (Xi T4 895 6) ≤ 15 := hHT4.c _ _
              refine l_aload_n rfl rfl ?_
              refine l_gfr rfl rfl rfl rfl rfl (hHT4.r 899 1 1 rfl) ?_
              refine l_gfr rfl rfl rfl rfl rfl (hHT4.r 1 13 14 rfl) ?_
              refine l_iload rfl rfl ?_
              refine l_iaload (n := 6) rfl rfl (by omega) (by omega) (by unfold rg; omega) ?_
              have w107 : 0 ≤ (Xi T4 14 (((Xi T1 18 ((z72).toNat))).toNat)) ∧ (Xi T4 14 (((Xi T1 18 ((z72).toNat))).toNat)) ≤ 15 := hHT4.c _ _
              have w108 : Xi T4 (276 + cl) 0 = Xi T1 (276 + cl) 0 := (show Xi T4 (276 + cl) 0 = Xi T1 (276 + cl) 0 from FR_cl w83 rfl (by omega))
              have w109 : Xi T4 (276 + cl) 2 = Xi T1 (276 + cl) 2 := (show Xi T4 (276 + cl) 2 = Xi T1 (276 + cl) 2 from FR_cl w83 rfl (by omega))
              have w110 : Xi T4 (276 + cl) 3 = Xi T1 (276 + cl) 3 := (show Xi T4 (276 + cl) 3 = Xi T1 (276 + cl) 3 from FR_cl w83 rfl (by omega))
              have w111 : Xi T4 (276 + cl) 6 = Xi T1 (276 + cl) 6 := (show Xi T4 (276 + cl) 6 = Xi T1 (276 + cl) 6 from FR_cl w83 rfl (by omega))
              refine l_callV rfl rfl rfl (t_vo_isKind hHT4 (Xi T4 895 6) (Xi T4 14 (((Xi T1 18 ((z72).toNat))).toNat)) ⟨by omega, by omega⟩ ⟨by omega, by omega⟩ _) ?_
              rintro _ _ ⟨rfl, z115, rfl, w115, w114⟩
              show Rl _ _ _ _ _ [iv z115] _ _
              refine l_if_eq rfl rfl (by unfold rg; omega) (fun w116 => ?_) (fun w117 => ?_)
              · refine l_iconst rfl ?_
                refine l_istore rfl rfl rfl ?_
                refine l_aload_n rfl rfl ?_
                refine l_gfr rfl rfl rfl rfl rfl (hHT4.r 899 2 895 rfl) ?_
                refine l_iload rfl rfl ?_
                refine l_iconst rfl ?_
                refine l_iadd rfl ?_
                refine l_iload_n rfl rfl ?_
                have w122 : Xi T4 895 4 = Xi T1 895 4 := (show Xi T4 895 4 = Xi T1 895 4 from w83.x _ _ rfl)
                refine l_callV rfl rfl rfl (t_me_readThing hHT4 (v5 + 1) to ⟨by omega, by omega⟩ ⟨by omega, by omega⟩ (by first | assumption | exact (LEX_FR hFT4 rfl rfl (by assumption : LEX S))) _) ?_
                rintro _ T6 ⟨hHT6, w129, z128, rfl, w128, w124, w125, w126, w127⟩
                have hFT6 : FR md_rr_saying S T6 := FR.tr hFT4 w129 rfl
                show Rl _ _ _ _ _ [iv z128] _ _
                have w142 : Xi T6 895 5 ≠ -1 → WHO (0 ≤ Xi S 895 4) (Xi T6 895 5) := fun q => who_of q (hHT6.c 895 5).1 (fun e => by have t := (by assumption : Xi T6 895 5 = -2 → 0 ≤ Xi T4 895 4) e; omega)
                have o142 : v4 ≠ 0 → TSok T6 (0 ≤ Xi S 895 4) cl := fun q => TSok_f hHT4 (by assumption : FR md_me_readThing T4 T6) rfl rfl rfl (by omega) (o81 q)
                refine l_istore rfl rfl rfl ?_
                refine l_iload rfl rfl ?_
                refine l_iconst rfl ?_
                refine l_icmp_eq rfl rfl (by unfold rg; omega) (by unfold rg; omega) (fun w130 => ?_) (fun w131 => absurd w131 (by omega))
                · refine l_iinc rfl rfl rfl rfl ?_
                  refine l_goto rfl rfl ?_
                  have w132 : Xi T6 (276 + cl) 0 = Xi T1 (276 + cl) 0 := (show Xi T6 (276 + cl) 0 = Xi T4 (276 + cl) 0 from FR_cl w129 rfl (by omega)).trans ((show Xi T4 (276 + cl) 0 = Xi T1 (276 + cl) 0 from FR_cl w83 rfl (by omega)))
                  have w133 : Xi T6 (276 + cl) 2 = Xi T1 (276 + cl) 2 := (show Xi T6 (276 + cl) 2 = Xi T4 (276 + cl) 2 from FR_cl w129 rfl (by omega)).trans ((show Xi T4 (276 + cl) 2 = Xi T1 (276 + cl) 2 from FR_cl w83 rfl (by omega)))
                  have w134 : Xi T6 (276 + cl) 3 = Xi T1 (276 + cl) 3 := (show Xi T6 (276 + cl) 3 = Xi T4 (276 + cl) 3 from FR_cl w129 rfl (by omega)).trans ((show Xi T4 (276 + cl) 3 = Xi T1 (276 + cl) 3 from FR_cl w83 rfl (by omega)))
                  have w135 : Xi T6 (276 + cl) 6 = Xi T1 (276 + cl) 6 := (show Xi T6 (276 + cl) 6 = Xi T4 (276 + cl) 6 from FR_cl w129 rfl (by omega)).trans ((show Xi T4 (276 + cl) 6 = Xi T1 (276 + cl) 6 from FR_cl w83 rfl (by omega)))
                  have w136 : Xi T6 895 4 = Xi T1 895 4 := (show Xi T6 895 4 = Xi T4 895 4 from w129.x _ _ rfl).trans ((show Xi T4 895 4 = Xi T1 895 4 from w83.x _ _ rfl))
                  exact Rl_weak (ih12 _ (by omega) T6 hHT6 hFT6 (v4) ((v5 + 1)) (by omega) (by omega) (by omega) ((kcl_f w129 rfl (kcl_f w83 rfl hk12))) (by first | assumption | omega) (by first | (intro q; exfalso; omega) | exact ho12 | exact o142 | exact fun _ => ts_6 (by omega) (x := Xi _ 895 5) (by omega) (w81 (by omega)) (y := Xi _ 895 5) (by omega) (w142 (by omega)) (by omega)) rfl) (And.intro rfl (And.intro rfl (And.intro rfl (And.intro rfl (And.intro rfl (And.intro rfl (True.intro)))))))
              · refine l_aload_n rfl rfl ?_
                refine l_gfr rfl rfl rfl rfl rfl (hHT4.r 899 2 895 rfl) ?_
                refine l_gfi rfl rfl rfl rfl rfl ?_
                have w138 : -2 ≤ (Xi T4 895 5) ∧ (Xi T4 895 5) ≤ 23 := hHT4.c _ _
                refine l_goto rfl rfl ?_
                refine l_istore rfl rfl rfl ?_
                refine l_aload_n rfl rfl ?_
                refine l_gfr rfl rfl rfl rfl rfl (hHT4.r 899 2 895 rfl) ?_
                refine l_iload rfl rfl ?_
                refine l_iconst rfl ?_
                refine l_iadd rfl ?_
                refine l_iload_n rfl rfl ?_
                have w142 : Xi T4 (276 + cl) 6 = Xi T1 (276 + cl) 6 := (show Xi T4 (276 + cl) 6 = Xi T1 (276 + cl) 6 from FR_cl w83 rfl (by omega))
                have w143 : Xi T4 895 4 = Xi T1 895 4 := (show Xi T4 895 4 = Xi T1 895 4 from w83.x _ _ rfl)
                refine l_callV rfl rfl rfl (t_me_readThing hHT4 (v5 + 1) to ⟨by omega, by omega⟩ ⟨by omega, by omega⟩ (by first | assumption | exact (LEX_FR hFT4 rfl rfl (by assumption : LEX S))) _) ?_
                rintro _ T7 ⟨hHT7, w150, z149, rfl, w149, w145, w146, w147, w148⟩
                have hFT7 : FR md_rr_saying S T7 := FR.tr hFT4 w150 rfl
                show Rl _ _ _ _ _ [iv z149] _ _
                have w142 : Xi T7 895 5 ≠ -1 → WHO (0 ≤ Xi S 895 4) (Xi T7 895 5) := fun q => who_of q (hHT7.c 895 5).1 (fun e => by have t := (by assumption : Xi T7 895 5 = -2 → 0 ≤ Xi T4 895 4) e; omega)
                have o142 : v4 ≠ 0 → TSok T7 (0 ≤ Xi S 895 4) cl := fun q => TSok_f hHT4 (by assumption : FR md_me_readThing T4 T7) rfl rfl rfl (by omega) (o81 q)
                refine l_istore rfl rfl rfl ?_
                refine l_iload rfl rfl ?_
                refine l_iconst rfl ?_
                refine l_icmp_eq rfl rfl (by unfold rg; omega) (by unfold rg; omega) (fun w151 => ?_) (fun w152 => ?_)
                · refine l_iinc rfl rfl rfl rfl ?_
                  refine l_goto rfl rfl ?_
                  have w153 : Xi T7 (276 + cl) 0 = Xi T1 (276 + cl) 0 := (show Xi T7 (276 + cl) 0 = Xi T4 (276 + cl) 0 from FR_cl w150 rfl (by omega)).trans ((show Xi T4 (276 + cl) 0 = Xi T1 (276 + cl) 0 from FR_cl w83 rfl (by omega)))
                  have w154 : Xi T7 (276 + cl) 2 = Xi T1 (276 + cl) 2 := (show Xi T7 (276 + cl) 2 = Xi T4 (276 + cl) 2 from FR_cl w150 rfl (by omega)).trans ((show Xi T4 (276 + cl) 2 = Xi T1 (276 + cl) 2 from FR_cl w83 rfl (by omega)))
                  have w155 : Xi T7 (276 + cl) 3 = Xi T1 (276 + cl) 3 := (show Xi T7 (276 + cl) 3 = Xi T4 (276 + cl) 3 from FR_cl w150 rfl (by omega)).trans ((show Xi T4 (276 + cl) 3 = Xi T1 (276 + cl) 3 from FR_cl w83 rfl (by omega)))
                  have w156 : Xi T7 (276 + cl) 6 = Xi T1 (276 + cl) 6 := (show Xi T7 (276 + cl) 6 = Xi T4 (276 + cl) 6 from FR_cl w150 rfl (by omega)).trans ((show Xi T4 (276 + cl) 6 = Xi T1 (276 + cl) 6 from FR_cl w83 rfl (by omega)))
                  have w157 : Xi T7 895 4 = Xi T1 895 4 := (show Xi T7 895 4 = Xi T4 895 4 from w150.x _ _ rfl).trans ((show Xi T4 895 4 = Xi T1 895 4 from w83.x _ _ rfl))
                  exact Rl_weak (ih12 _ (by omega) T7 hHT7 hFT7 (v4) ((v5 + 1)) (by omega) (by omega) (by omega) ((kcl_f w150 rfl (kcl_f w83 rfl hk12))) (by first | assumption | omega) (by first | (intro q; exfalso; omega) | exact ho12 | exact o142 | exact fun _ => ts_6 (by omega) (x := Xi _ 895 5) (by omega) (w81 (by omega)) (y := Xi _ 895 5) (by omega) (w142 (by omega)) (by omega)) rfl) (And.intro rfl (And.intro rfl (And.intro rfl (And.intro rfl (And.intro rfl (And.intro rfl (True.intro)))))))
                · refine l_iload rfl rfl ?_
                  refine l_iload_n rfl rfl ?_
                  refine l_icmp_ne rfl rfl (by unfold rg; omega) (by unfold rg; omega) (fun w159 => ?_) (fun w160 => ?_)
                  · refine l_iinc rfl rfl rfl rfl ?_
                    refine l_goto rfl rfl ?_
                    have w161 : Xi T7 (276 + cl) 0 = Xi T1 (276 + cl) 0 := (show Xi T7 (276 + cl) 0 = Xi T4 (276 + cl) 0 from FR_cl w150 rfl (by omega)).trans ((show Xi T4 (276 + cl) 0 = Xi T1 (276 + cl) 0 from FR_cl w83 rfl (by omega)))
                    have w162 : Xi T7 (276 + cl) 2 = Xi T1 (276 + cl) 2 := (show Xi T7 (276 + cl) 2 = Xi T4 (276 + cl) 2 from FR_cl w150 rfl (by omega)).trans ((show Xi T4 (276 + cl) 2 = Xi T1 (276 + cl) 2 from FR_cl w83 rfl (by omega)))
                    have w163 : Xi T7 (276 + cl) 3 = Xi T1 (276 + cl) 3 := (show Xi T7 (276 + cl) 3 = Xi T4 (276 + cl) 3 from FR_cl w150 rfl (by omega)).trans ((show Xi T4 (276 + cl) 3 = Xi T1 (276 + cl) 3 from FR_cl w83 rfl (by omega)))
                    have w164 : Xi T7 (276 + cl) 6 = Xi T1 (276 + cl) 6 := (show Xi T7 (276 + cl) 6 = Xi T4 (276 + cl) 6 from FR_cl w150 rfl (by omega)).trans ((show Xi T4 (276 + cl) 6 = Xi T1 (276 + cl) 6 from FR_cl w83 rfl (by omega)))
                    have w165 : Xi T7 895 4 = Xi T1 895 4 := (show Xi T7 895 4 = Xi T4 895 4 from w150.x _ _ rfl).trans ((show Xi T4 895 4 = Xi T1 895 4 from w83.x _ _ rfl))
                    exact Rl_weak (ih12 _ (by omega) T7 hHT7 hFT7 (v4) ((v5 + 1)) (by omega) (by omega) (by omega) ((kcl_f w150 rfl (kcl_f w83 rfl hk12))) (by first | assumption | omega) (by first | (intro q; exfalso; omega) | exact ho12 | exact o142 | exact fun _ => ts_6 (by omega) (x := Xi _ 895 5) (by omega) (w81 (by omega)) (y := Xi _ 895 5) (by omega) (w142 (by omega)) (by omega)) rfl) (And.intro rfl (And.intro rfl (And.intro rfl (And.intro rfl (And.intro rfl (And.intro rfl (True.intro)))))))
                  · refine l_aload_n rfl rfl ?_
                    refine l_gfr rfl rfl rfl rfl rfl (hHT7.r 899 1 1 rfl) ?_
                    refine l_aload_n rfl rfl ?_
                    refine l_gfr rfl rfl rfl rfl rfl (hHT7.r 899 2 895 rfl) ?_
                    refine l_gfi rfl rfl rfl rfl rfl ?_
                    have w167 : -1 ≤ (Xi T7 895 6) ∧ (Xi T7 895 6) ≤ 15 := hHT7.c _ _
                    refine l_aload_n rfl rfl ?_
                    refine l_gfr rfl rfl rfl rfl rfl (hHT7.r 899 1 1 rfl) ?_
                    refine l_gfr rfl rfl rfl rfl rfl (hHT7.r 1 14 15 rfl) ?_
                    refine l_iload rfl rfl ?_
                    refine l_iaload (n := 6) rfl rfl (by omega) (by omega) (by unfold rg; omega) ?_
                    have w168 : 0 ≤ (Xi T7 15 (((Xi T1 18 ((z72).toNat))).toNat)) ∧ (Xi T7 15 (((Xi T1 18 ((z72).toNat))).toNat)) ≤ 15 := hHT7.c _ _
                    have w169 : Xi T7 (276 + cl) 0 = Xi T1 (276 + cl) 0 := (show Xi T7 (276 + cl) 0 = Xi T4 (276 + cl) 0 from FR_cl w150 rfl (by omega)).trans ((show Xi T4 (276 + cl) 0 = Xi T1 (276 + cl) 0 from FR_cl w83 rfl (by omega)))
                    have w170 : Xi T7 (276 + cl) 2 = Xi T1 (276 + cl) 2 := (show Xi T7 (276 + cl) 2 = Xi T4 (276 + cl) 2 from FR_cl w150 rfl (by omega)).trans ((show Xi T4 (276 + cl) 2 = Xi T1 (276 + cl) 2 from FR_cl w83 rfl (by omega)))
                    have w171 : Xi T7 (276 + cl) 3 = Xi T1 (276 + cl) 3 := (show Xi T7 (276 + cl) 3 = Xi T4 (276 + cl) 3 from FR_cl w150 rfl (by omega)).trans ((show Xi T4 (276 + cl) 3 = Xi T1 (276 + cl) 3 from FR_cl w83 rfl (by omega)))
                    have w172 : Xi T7 (276 + cl) 6 = Xi T1 (276 + cl) 6 := (show Xi T7 (276 + cl) 6 = Xi T4 (276 + cl) 6 from FR_cl w150 rfl (by omega)).trans ((show Xi T4 (276 + cl) 6 = Xi T1 (276 + cl) 6 from FR_cl w83 rfl (by omega)))
                    refine l_callV rfl rfl rfl (t_vo_isKind hHT7 (Xi T7 895 6) (Xi T7 15 (((Xi T1 18 ((z72).toNat))).toNat)) ⟨by omega, by omega⟩ ⟨by omega, by omega⟩ _) ?_
                    rintro _ _ ⟨rfl, z176, rfl, w176, w175⟩
                    show Rl _ _ _ _ _ [iv z176] _ _
                    have i180 : z176 ≠ 0 → 0 ≤ Xi T7 895 6 := fun q => isK_v (k := Xi T7 895 6) (by assumption) q
                    refine l_if_eq rfl rfl (by unfold rg; omega) (fun w177 => ?_) (fun w178 => ?_)
                    · refine l_iinc rfl rfl rfl rfl ?_
                      refine l_goto rfl rfl ?_
                      have w183 : Xi T7 895 4 = Xi T1 895 4 := (show Xi T7 895 4 = Xi T4 895 4 from w150.x _ _ rfl).trans ((show Xi T4 895 4 = Xi T1 895 4 from w83.x _ _ rfl))
                      exact Rl_weak (ih12 _ (by omega) T7 hHT7 hFT7 (v4) ((v5 + 1)) (by omega) (by omega) (by omega) ((kcl_f w150 rfl (kcl_f w83 rfl hk12))) (by first | assumption | omega) (by first | (intro q; exfalso; omega) | exact ho12 | exact o142 | exact fun _ => ts_6 (by omega) (x := Xi _ 895 5) (by omega) (w81 (by omega)) (y := Xi _ 895 5) (by omega) (w142 (by omega)) (by omega)) rfl) (And.intro rfl (And.intro rfl (And.intro rfl (And.intro rfl (And.intro rfl (And.intro rfl (True.intro)))))))
                    · refine l_aload_n rfl rfl ?_
                      refine l_iload rfl rfl ?_
                      refine l_pfi rfl rfl (layClW (by omega) rfl) rfl ?_
                      obtain ⟨U8, eU8⟩ : ∃ T : sS, T = uI T7 (276 + cl) 3 (Int32.ofInt (Xi T1 18 ((z72).toNat))) := ⟨_, rfl⟩
                      rw [← eU8]
                      have hHU8 : HI U8 := by rw [eU8]; exact HI_w hHT7 (by rw [lh_cl3 (by omega)]; omega) (by rw [lh_cl3 (by omega)]; omega)
                      have hFU8 : FR md_rr_saying S U8 := by rw [eU8]; exact FR.wI hFT7 (mdf_i (r := (276, 876, 3, 4)) (List.mem_of_getElem? (i := 2) rfl) (inR_i (by omega) (by omega) (by omega) (by omega)))
                      have w185 : Xi U8 (276 + cl) 3 = (Xi T1 18 ((z72).toNat)) := by rw [eU8]; exact Xi_same (by unfold rg; omega)
                      have y189 : Xi U8 895 5 = Xi T7 895 5 := by rw [eU8, Xi_ne (by omega)]
                      refine l_aload_n rfl rfl ?_
                      refine l_iload rfl rfl ?_
                      refine l_pfi rfl rfl (layClW (by omega) rfl) rfl ?_
                      obtain ⟨U9, eU9⟩ : ∃ T : sS, T = uI U8 (276 + cl) 2 (Int32.ofInt (Xi T4 895 5)) := ⟨_, rfl⟩
                      rw [← eU9]
                      have hHU9 : HI U9 := by rw [eU9]; exact HI_w hHU8 (by rw [lh_cl2 (by omega)]; omega) (by rw [lh_cl2 (by omega)]; omega)
                      have hFU9 : FR md_rr_saying S U9 := by rw [eU9]; exact FR.wI hFU8 (mdf_i (r := (276, 876, 2, 3)) (List.mem_of_getElem? (i := 1) rfl) (inR_i (by omega) (by omega) (by omega) (by omega)))
                      have w186 : Xi U9 (276 + cl) 2 = (Xi T4 895 5) := by rw [eU9]; exact Xi_same (by unfold rg; omega)
                      have y195 : Xi U9 895 5 = Xi U8 895 5 := by rw [eU9, Xi_ne (by omega)]
                      refine l_aload_n rfl rfl ?_
                      refine l_aload_n rfl rfl ?_
                      refine l_gfr rfl rfl rfl rfl rfl (hHU9.r 899 2 895 rfl) ?_
                      refine l_gfi rfl rfl rfl rfl rfl ?_
                      have w187 : -2 ≤ (Xi U9 895 5) ∧ (Xi U9 895 5) ≤ 23 := hHU9.c _ _
                      refine l_pfi rfl rfl (layClW (by omega) rfl) rfl ?_
                      obtain ⟨U10, eU10⟩ : ∃ T : sS, T = uI U9 (276 + cl) 6 (Int32.ofInt (Xi U9 895 5)) := ⟨_, rfl⟩
                      rw [← eU10]
                      have hHU10 : HI U10 := by rw [eU10]; exact HI_w hHU9 (by rw [lh_cl6 (by omega)]; omega) (by rw [lh_cl6 (by omega)]; omega)
                      have hFU10 : FR md_rr_saying S U10 := by rw [eU10]; exact FR.wI hFU9 (mdf_i (r := (276, 876, 6, 7)) (List.mem_of_getElem? (i := 3) rfl) (inR_i (by omega) (by omega) (by omega) (by omega)))
                      have w188 : Xi U10 (276 + cl) 6 = (Xi U9 895 5) := by rw [eU10]; exact Xi_same (by unfold rg; omega)
                      refine l_iinc rfl rfl rfl rfl ?_
                      refine l_iinc rfl rfl rfl rfl ?_
                      refine l_goto rfl rfl ?_
                      have w189 : Xi U10 (276 + cl) 0 = Xi T1 (276 + cl) 0 := (show Xi U10 (276 + cl) 0 = Xi U9 (276 + cl) 0 from by rw [eU10]; exact Xi_ne (by omega)).trans ( (show Xi U9 (276 + cl) 0 = Xi U8 (276 + cl) 0 from by rw [eU9]; exact Xi_ne (by omega)).trans ( (show Xi U8 (276 + cl) 0 = Xi T7 (276 + cl) 0 from by rw [eU8]; exact Xi_ne (by omega)).trans ( (show Xi T7 (276 + cl) 0 = Xi T4 (276 + cl) 0 from FR_cl w150 rfl (by omega)).trans ((show Xi T4 (276 + cl) 0 = Xi T1 (276 + cl) 0 from FR_cl w83 rfl (by omega))))))
                      have w190 : Xi U10 (276 + cl) 2 = Xi U9 (276 + cl) 2 := (show Xi U10 (276 + cl) 2 = Xi U9 (276 + cl) 2 from by rw [eU10]; exact Xi_ne (by omega))
                      have w191 : Xi U10 (276 + cl) 3 = Xi U8 (276 + cl) 3 := (show Xi U10 (276 + cl) 3 = Xi U9 (276 + cl) 3 from by rw [eU10]; exact Xi_ne (by omega)).trans ((show Xi U9 (276 + cl) 3 = Xi U8 (276 + cl) 3 from by rw [eU9]; exact Xi_ne (by omega)))
                      have w192 : Xi U10 895 4 = Xi T1 895 4 := (show Xi U10 895 4 = Xi U9 895 4 from by rw [eU10]; exact Xi_ne (by omega)).trans ( (show Xi U9 895 4 = Xi U8 895 4 from by rw [eU9]; exact Xi_ne (by omega)).trans ( (show Xi U8 895 4 = Xi T7 895 4 from by rw [eU8]; exact Xi_ne (by omega)).trans ( (show Xi T7 895 4 = Xi T4 895 4 from w150.x _ _ rfl).trans ((show Xi T4 895 4 = Xi T1 895 4 from w83.x _ _ rfl)))))
                      exact Rl_weak (ih12 _ (by omega) U10 hHU10 hFU10 ((v4 + 1)) ((v5 + 1)) (by omega) (by omega) (by omega) ((kcl_w eU10 (kcl_w eU9 (kcl_w eU8 (kcl_f w150 rfl (kcl_f w83 rfl hk12)))))) (by first | assumption | omega) (by first | (intro q; exfalso; omega) | exact ho12 | exact o142 | exact fun _ => ts_6 (by omega) (x := Xi _ 895 5) (by omega) (w81 (by omega)) (y := Xi _ 895 5) (by omega) (w142 (by omega)) (by omega)) rfl) (And.intro rfl (And.intro rfl (And.intro rfl (And.intro rfl (And.intro rfl (And.intro rfl (True.intro)))))))
          · refine l_goto rfl rfl ?_
            refine l_iinc rfl rfl rfl rfl ?_
            refine l_goto rfl rfl ?_
            have w194 : -1 ≤ Xi T1 895 4 ∧ Xi T1 895 4 ≤ 15 := hHT1.c _ _
            exact Rl_weak (ih12 _ (by omega) T1 hHT1 hFT1 (v4) ((v5 + 1)) (by omega) (by omega) (by omega) (hk12) (by first | assumption | omega) (by first | (intro q; exfalso; omega) | exact ho12 | exact o142 | exact fun _ => ts_6 (by omega) (x := Xi _ 895 5) (by omega) (w81 (by omega)) (y := Xi _ 895 5) (by omega) (w142 (by omega)) (by omega)) rfl) (And.intro rfl (And.intro rfl (And.intro rfl (And.intro rfl (And.intro rfl (And.intro rfl (True.intro)))))))
  refine l_iconst rfl ?_
  refine l_istore rfl rfl rfl ?_
  refine l_aload_n rfl rfl ?_
  refine l_bipush rfl rfl ?_
  refine l_pfi rfl rfl (layClW (by omega) rfl) rfl ?_
  obtain ⟨U11, eU11⟩ : ∃ T : sS, T = uI S (276 + cl) 0 (Int32.ofInt 6) := ⟨_, rfl⟩
  rw [← eU11]
  have hHU11 : HI U11 := by rw [eU11]; exact HI_w hH (by rw [lh_cl0 (by omega)]; omega) (by rw [lh_cl0 (by omega)]; omega)
  have hFU11 : FR md_rr_saying S U11 := by rw [eU11]; exact FR.wI hF (mdf_i (r := (276, 876, 0, 1)) (List.mem_of_getElem? (i := 0) rfl) (inR_i (by omega) (by omega) (by omega) (by omega)))
  have w195 : Xi U11 (276 + cl) 0 = 6 := by rw [eU11]; exact Xi_same (by unfold rg; omega)
  refine l_iload_n rfl rfl ?_
  refine l_istore rfl rfl rfl ?_
  have w196 : Xi U11 (276 + cl) 2 = Xi S (276 + cl) 2 := (show Xi U11 (276 + cl) 2 = Xi S (276 + cl) 2 from by rw [eU11]; exact Xi_ne (by omega))
  have w197 : Xi U11 (276 + cl) 3 = Xi S (276 + cl) 3 := (show Xi U11 (276 + cl) 3 = Xi S (276 + cl) 3 from by rw [eU11]; exact Xi_ne (by omega))
  have w198 : Xi U11 (276 + cl) 6 = Xi S (276 + cl) 6 := (show Xi U11 (276 + cl) 6 = Xi S (276 + cl) 6 from by rw [eU11]; exact Xi_ne (by omega))
  have w199 : Xi U11 895 4 = Xi S 895 4 := (show Xi U11 895 4 = Xi S 895 4 from by rw [eU11]; exact Xi_ne (by omega))
  exact Rl_weak (C12 _ U11 hHU11 hFU11 (0) (from_) (by omega) (by omega) (by omega) ((kcl_w eU11 KCL.rf)) (by first | assumption | omega) (by first | (intro q; exfalso; omega) | exact ho12 | exact o142 | exact fun _ => ts_6 (by omega) (x := Xi _ 895 5) (by omega) (w81 (by omega)) (y := Xi _ 895 5) (by omega) (w142 (by omega)) (by omega)) rfl) (And.intro rfl (And.intro rfl (And.intro rfl (And.intro rfl (And.intro rfl (And.intro rfl (True.intro)))))))
def md_rr_propertyTest : List rec := [(276, 876, 0, 1), (276, 876, 1, 2), (276, 876, 2, 3), (276, 876, 3, 4), (276, 876, 4, 5), (276, 876, 5, 6), (876, 877, 8, 9), (876, 877, 9, 10), (895, 896, 5, 6), (895, 896, 6, 7), (895, 896, 7, 8), (895, 896, 10, 11), (895, 896, 11, 12)]
abbrev Q_rr_propertyTest (S : sS) (from_ : Int) (is_ : Int) (cl : Nat) : pst := fun r S1 => HI S1 ∧ FR md_rr_propertyTest S S1 ∧ (∃ z : Int, r = some (iv z) ∧ (0 ≤ z ∧ z ≤ 1) ∧ (KCL S S1 cl) ∧ (z = 1 → TSok S1 (0 ≤ Xi S 895 4) cl) ∧ (z = 0 → Xi S1 876 8 ≠ 0))
set_option maxRecDepth 100000 in
theorem t_rr_propertyTest {S : sS} (hH : HI S) (from_ : Int) (is_ : Int) (cl : Nat) (hfrom_ : 0 ≤ from_ ∧ from_ ≤ 5129) (his_ : 0 ≤ is_ ∧ is_ ≤ 5129) (hcl : cl < 600) (hL : LEX S) (hT : TOK S) (hS : SRX S) (d : Nat) : Mt lay0 (d + 4) m_rr_propertyTest [.ref 899, iv from_, iv is_, .ref (276 + cl)] S (Q_rr_propertyTest S from_ is_ cl) := by
  refine Mt_R rfl rfl ?_
  have hF : FR md_rr_propertyTest S S := FR.rf
  have w1 : -1 ≤ Xi S 895 4 ∧ Xi S 895 4 ≤ 15 := hH.c _ _
  refine l_aload_n rfl rfl ?_
  refine l_gfr rfl rfl rfl rfl rfl (hH.r 899 0 876 rfl) ?_
  refine l_iload_n rfl rfl ?_
  refine l_iconst rfl ?_
  refine l_iadd rfl ?_
  have w2 : 0 ≤ Xi S 876 7 ∧ Xi S 876 7 ≤ 5125 := hH.c _ _
  refine l_callV rfl rfl rfl (t_to_runEnd hH (from_ + 1) ⟨by omega, by omega⟩ _) ?_
  rintro _ _ ⟨rfl, z11, rfl, w11, w4, w5, w6, w7, w8, w9, w10⟩
  clear w6 w7 w8 w9
  show Rl _ _ _ _ _ [iv z11] _ _
  refine l_istore rfl rfl rfl ?_
  refine l_aload_n rfl rfl ?_
  refine l_gfr rfl rfl rfl rfl rfl (hH.r 899 0 876 rfl) ?_
  refine l_iload_n rfl rfl ?_
  refine l_iconst rfl ?_
  refine l_iadd rfl ?_
  refine l_callV rfl rfl rfl (t_to_typeAt hH (is_ + 1) ⟨by omega, by omega⟩ _) ?_
  rintro _ _ ⟨rfl, z17, rfl, w17, w14, w15, w16⟩
  clear w15 w16
  show Rl _ _ _ _ _ [iv z17] _ _
  refine l_istore rfl rfl rfl ?_
  refine l_iload rfl rfl ?_
  refine l_bipush rfl rfl ?_
  refine l_icmp_eq rfl rfl (by unfold rg; omega) (by unfold rg; omega) (fun w18 => ?_) (fun w19 => ?_)
  · refine l_iconst rfl ?_
    refine l_goto rfl rfl ?_
    refine l_istore rfl rfl rfl ?_
    refine l_aload_n rfl rfl ?_
    refine l_iload_n rfl rfl ?_
    refine l_iconst rfl ?_
    refine l_iadd rfl ?_
    refine l_iload rfl rfl ?_
    refine l_iload rfl rfl ?_
    refine l_aload_n rfl rfl ?_
    refine l_callV rfl rfl rfl (t_rr_propertyOfThing hH (from_ + 1) z11 1 cl ⟨by omega, by omega⟩ ⟨by omega, by omega⟩ ⟨by omega, by omega⟩ (by omega) (by first | assumption | exact (LEX_FR hF rfl rfl (by assumption : LEX S))) _) ?_
    rintro _ T1 ⟨hHT1, w26, z25, rfl, w25, w21, w22, w23, w24⟩
    have hFT1 : FR md_rr_propertyTest S T1 := FR.tr hF w26 rfl
    show Rl _ _ _ _ _ [iv z25] _ _
    have o54 : z25 = 1 → WHO (0 ≤ Xi S 895 4) (Xi T1 (276 + cl) 2) ∧ 0 ≤ Xi T1 (276 + cl) 3 ∧ Xi T1 (276 + cl) 3 ≤ 11 := by assumption
    have o54b : z25 = 1 → 0 ≤ Xi T1 (276 + cl) 3 ∧ Xi T1 (276 + cl) 3 ≤ 11 := fun q => (o54 q).2
    refine l_if_ne rfl rfl (by unfold rg; omega) (fun w27 => ?_) (fun w28 => ?_)
    · refine l_iload rfl rfl ?_
      refine l_if_eq rfl rfl (by unfold rg; omega) (fun w29 => absurd w29 (by omega)) (fun w30 => ?_)
      · refine l_aload_n rfl rfl ?_
        refine l_iload rfl rfl ?_
        refine l_bipush rfl rfl ?_
        refine l_icmp_ne rfl rfl (by unfold rg; omega) (by unfold rg; omega) (fun w31 => ?_) (fun w32 => ?_)
        · refine l_iconst rfl ?_
          refine l_pfi rfl rfl (layClW (by omega) rfl) rfl ?_
          obtain ⟨U2, eU2⟩ : ∃ T : sS, T = uI T1 (276 + cl) 0 (Int32.ofInt 3) := ⟨_, rfl⟩
          rw [← eU2]
          have hHU2 : HI U2 := by rw [eU2]; exact HI_w hHT1 (by rw [lh_cl0 (by omega)]; omega) (by rw [lh_cl0 (by omega)]; omega)
          have hFU2 : FR md_rr_propertyTest S U2 := by rw [eU2]; exact FR.wI hFT1 (mdf_i (r := (276, 876, 0, 1)) (List.mem_of_getElem? (i := 0) rfl) (inR_i (by omega) (by omega) (by omega) (by omega)))
          have w33 : Xi U2 (276 + cl) 0 = 3 := by rw [eU2]; exact Xi_same (by unfold rg; omega)
          refine l_aload_n rfl rfl ?_
          refine l_aload_n rfl rfl ?_
          refine l_gfr rfl rfl rfl rfl rfl (hHU2.r 899 0 876 rfl) ?_
          refine l_iload_n rfl rfl ?_
          refine l_iconst rfl ?_
          refine l_iadd rfl ?_
          have w34 : Xi U2 (276 + cl) 2 = Xi T1 (276 + cl) 2 := (show Xi U2 (276 + cl) 2 = Xi T1 (276 + cl) 2 from by rw [eU2]; exact Xi_ne (by omega))
          have w35 : Xi U2 (276 + cl) 3 = Xi T1 (276 + cl) 3 := (show Xi U2 (276 + cl) 3 = Xi T1 (276 + cl) 3 from by rw [eU2]; exact Xi_ne (by omega))
          have w36 : Xi U2 (276 + cl) 4 = Xi S (276 + cl) 4 := (show Xi U2 (276 + cl) 4 = Xi T1 (276 + cl) 4 from by rw [eU2]; exact Xi_ne (by omega)).trans ((show Xi T1 (276 + cl) 4 = Xi S (276 + cl) 4 from FR_clj w26 rfl (by omega)))
          have w37 : Xi U2 (276 + cl) 5 = Xi S (276 + cl) 5 := (show Xi U2 (276 + cl) 5 = Xi T1 (276 + cl) 5 from by rw [eU2]; exact Xi_ne (by omega)).trans ((show Xi T1 (276 + cl) 5 = Xi S (276 + cl) 5 from FR_clj w26 rfl (by omega)))
          have w38 : Xi U2 876 7 = Xi S 876 7 := (show Xi U2 876 7 = Xi T1 876 7 from by rw [eU2]; exact Xi_ne (by omega)).trans ((show Xi T1 876 7 = Xi S 876 7 from w26.x _ _ rfl))
          refine l_callV rfl rfl rfl (t_to_valueAt hHU2 (is_ + 3) ⟨by omega, by omega⟩ _) ?_
          rintro _ _ ⟨rfl, z43, rfl, w43, w42⟩
          show Rl _ _ _ _ _ [iv z43, .ref (276 + cl)] _ _
          refine l_pfi rfl rfl (layClW (by omega) rfl) rfl ?_
          obtain ⟨U3, eU3⟩ : ∃ T : sS, T = uI U2 (276 + cl) 4 (Int32.ofInt z43) := ⟨_, rfl⟩
          rw [← eU3]
          have hHU3 : HI U3 := by rw [eU3]; exact HI_any hHU2 (lh_cl4 (by omega))
          have hFU3 : FR md_rr_propertyTest S U3 := by rw [eU3]; exact FR.wI hFU2 (mdf_i (r := (276, 876, 4, 5)) (List.mem_of_getElem? (i := 4) rfl) (inR_i (by omega) (by omega) (by omega) (by omega)))
          have w44 : Xi U3 (276 + cl) 4 = z43 := by rw [eU3]; exact Xi_same (by unfold rg; omega)
          refine l_iconst rfl ?_
          refine l_ireturn rfl rfl ?_
          have w45 : Xi U3 (276 + cl) 0 = Xi U2 (276 + cl) 0 := (show Xi U3 (276 + cl) 0 = Xi U2 (276 + cl) 0 from by rw [eU3]; exact Xi_ne (by omega))
          have w46 : Xi U3 (276 + cl) 2 = Xi T1 (276 + cl) 2 := (show Xi U3 (276 + cl) 2 = Xi U2 (276 + cl) 2 from by rw [eU3]; exact Xi_ne (by omega)).trans ((show Xi U2 (276 + cl) 2 = Xi T1 (276 + cl) 2 from by rw [eU2]; exact Xi_ne (by omega)))
          have w47 : Xi U3 (276 + cl) 3 = Xi T1 (276 + cl) 3 := (show Xi U3 (276 + cl) 3 = Xi U2 (276 + cl) 3 from by rw [eU3]; exact Xi_ne (by omega)).trans ((show Xi U2 (276 + cl) 3 = Xi T1 (276 + cl) 3 from by rw [eU2]; exact Xi_ne (by omega)))
          have w48 : Xi U3 (276 + cl) 5 = Xi S (276 + cl) 5 := (show Xi U3 (276 + cl) 5 = Xi U2 (276 + cl) 5 from by rw [eU3]; exact Xi_ne (by omega)).trans ( (show Xi U2 (276 + cl) 5 = Xi T1 (276 + cl) 5 from by rw [eU2]; exact Xi_ne (by omega)).trans ((show Xi T1 (276 + cl) 5 = Xi S (276 + cl) 5 from FR_clj w26 rfl (by omega))))
          have w49 : Xi U3 876 8 = Xi T1 876 8 := (show Xi U3 876 8 = Xi U2 876 8 from by rw [eU3]; exact Xi_ne (by omega)).trans ((show Xi U2 876 8 = Xi T1 876 8 from by rw [eU2]; exact Xi_ne (by omega)))
          have w50 : 0 ≤ Xi T1 876 8 ∧ Xi T1 876 8 ≤ 9 := hHT1.c _ _
          have w51 : Xi U3 895 4 = Xi S 895 4 := (show Xi U3 895 4 = Xi U2 895 4 from by rw [eU3]; exact Xi_ne (by omega)).trans ( (show Xi U2 895 4 = Xi T1 895 4 from by rw [eU2]; exact Xi_ne (by omega)).trans ((show Xi T1 895 4 = Xi S 895 4 from w26.x _ _ rfl)))
          exact ⟨hHU3, hFU3, _, rfl, ⟨by omega, by omega⟩, ((kcl_w eU3 (kcl_w eU2 (kcl_tr KCL.rf (by assumption : KCL S T1 cl))))), (fun q => by first | (exfalso; omega) | exact ts_2 (by omega) (x := Xi _ (276 + cl) 2) (by omega) (o54 (by omega)).1 (by omega) | exact ts_1 (by omega) (x := Xi _ (276 + cl) 2) (by omega) (o54 (by omega)).1 (by omega) (by omega) (by omega) t193), (fun q => by first | omega | (exfalso; omega))⟩
        · refine l_iconst rfl ?_
          refine l_goto rfl rfl ?_
          refine l_pfi rfl rfl (layClW (by omega) rfl) rfl ?_
          obtain ⟨U4, eU4⟩ : ∃ T : sS, T = uI T1 (276 + cl) 0 (Int32.ofInt 2) := ⟨_, rfl⟩
          rw [← eU4]
          have hHU4 : HI U4 := by rw [eU4]; exact HI_w hHT1 (by rw [lh_cl0 (by omega)]; omega) (by rw [lh_cl0 (by omega)]; omega)
          have hFU4 : FR md_rr_propertyTest S U4 := by rw [eU4]; exact FR.wI hFT1 (mdf_i (r := (276, 876, 0, 1)) (List.mem_of_getElem? (i := 0) rfl) (inR_i (by omega) (by omega) (by omega) (by omega)))
          have w53 : Xi U4 (276 + cl) 0 = 2 := by rw [eU4]; exact Xi_same (by unfold rg; omega)
          refine l_aload_n rfl rfl ?_
          refine l_aload_n rfl rfl ?_
          refine l_gfr rfl rfl rfl rfl rfl (hHU4.r 899 0 876 rfl) ?_
          refine l_iload_n rfl rfl ?_
          refine l_iconst rfl ?_
          refine l_iadd rfl ?_
          have w54 : Xi U4 (276 + cl) 2 = Xi T1 (276 + cl) 2 := (show Xi U4 (276 + cl) 2 = Xi T1 (276 + cl) 2 from by rw [eU4]; exact Xi_ne (by omega))
          have w55 : Xi U4 (276 + cl) 3 = Xi T1 (276 + cl) 3 := (show Xi U4 (276 + cl) 3 = Xi T1 (276 + cl) 3 from by rw [eU4]; exact Xi_ne (by omega))
          have w56 : Xi U4 (276 + cl) 4 = Xi S (276 + cl) 4 := (show Xi U4 (276 + cl) 4 = Xi T1 (276 + cl) 4 from by rw [eU4]; exact Xi_ne (by omega)).trans ((show Xi T1 (276 + cl) 4 = Xi S (276 + cl) 4 from FR_clj w26 rfl (by omega)))
          have w57 : Xi U4 (276 + cl) 5 = Xi S (276 + cl) 5 := (show Xi U4 (276 + cl) 5 = Xi T1 (276 + cl) 5 from by rw [eU4]; exact Xi_ne (by omega)).trans ((show Xi T1 (276 + cl) 5 = Xi S (276 + cl) 5 from FR_clj w26 rfl (by omega)))
          have w58 : Xi U4 876 7 = Xi S 876 7 := (show Xi U4 876 7 = Xi T1 876 7 from by rw [eU4]; exact Xi_ne (by omega)).trans ((show Xi T1 876 7 = Xi S 876 7 from w26.x _ _ rfl))
          refine l_callV rfl rfl rfl (t_to_valueAt hHU4 (is_ + 3) ⟨by omega, by omega⟩ _) ?_
          rintro _ _ ⟨rfl, z63, rfl, w63, w62⟩
          show Rl _ _ _ _ _ [iv z63, .ref (276 + cl)] _ _
          refine l_pfi rfl rfl (layClW (by omega) rfl) rfl ?_
          obtain ⟨U5, eU5⟩ : ∃ T : sS, T = uI U4 (276 + cl) 4 (Int32.ofInt z63) := ⟨_, rfl⟩
          rw [← eU5]
          have hHU5 : HI U5 := by rw [eU5]; exact HI_any hHU4 (lh_cl4 (by omega))
          have hFU5 : FR md_rr_propertyTest S U5 := by rw [eU5]; exact FR.wI hFU4 (mdf_i (r := (276, 876, 4, 5)) (List.mem_of_getElem? (i := 4) rfl) (inR_i (by omega) (by omega) (by omega) (by omega)))
          have w64 : Xi U5 (276 + cl) 4 = z63 := by rw [eU5]; exact Xi_same (by unfold rg; omega)
          refine l_iconst rfl ?_
          refine l_ireturn rfl rfl ?_
          have w65 : Xi U5 (276 + cl) 0 = Xi U4 (276 + cl) 0 := (show Xi U5 (276 + cl) 0 = Xi U4 (276 + cl) 0 from by rw [eU5]; exact Xi_ne (by omega))
          have w66 : Xi U5 (276 + cl) 2 = Xi T1 (276 + cl) 2 := (show Xi U5 (276 + cl) 2 = Xi U4 (276 + cl) 2 from by rw [eU5]; exact Xi_ne (by omega)).trans ((show Xi U4 (276 + cl) 2 = Xi T1 (276 + cl) 2 from by rw [eU4]; exact Xi_ne (by omega)))
          have w67 : Xi U5 (276 + cl) 3 = Xi T1 (276 + cl) 3 := (show Xi U5 (276 + cl) 3 = Xi U4 (276 + cl) 3 from by rw [eU5]; exact Xi_ne (by omega)).trans ((show Xi U4 (276 + cl) 3 = Xi T1 (276 + cl) 3 from by rw [eU4]; exact Xi_ne (by omega)))
          have w68 : Xi U5 (276 + cl) 5 = Xi S (276 + cl) 5 := (show Xi U5 (276 + cl) 5 = Xi U4 (276 + cl) 5 from by rw [eU5]; exact Xi_ne (by omega)).trans ( (show Xi U4 (276 + cl) 5 = Xi T1 (276 + cl) 5 from by rw [eU4]; exact Xi_ne (by omega)).trans ((show Xi T1 (276 + cl) 5 = Xi S (276 + cl) 5 from FR_clj w26 rfl (by omega))))
          have w69 : Xi U5 876 8 = Xi T1 876 8 := (show Xi U5 876 8 = Xi U4 876 8 from by rw [eU5]; exact Xi_ne (by omega)).trans ((show Xi U4 876 8 = Xi T1 876 8 from by rw [eU4]; exact Xi_ne (by omega)))
          have w70 : 0 ≤ Xi T1 876 8 ∧ Xi T1 876 8 ≤ 9 := hHT1.c _ _
          have w71 : Xi U5 895 4 = Xi S 895 4 := (show Xi U5 895 4 = Xi U4 895 4 from by rw [eU5]; exact Xi_ne (by omega)).trans ( (show Xi U4 895 4 = Xi T1 895 4 from by rw [eU4]; exact Xi_ne (by omega)).trans ((show Xi T1 895 4 = Xi S 895 4 from w26.x _ _ rfl)))
          exact ⟨hHU5, hFU5, _, rfl, ⟨by omega, by omega⟩, ((kcl_w eU5 (kcl_w eU4 (kcl_tr KCL.rf (by assumption : KCL S T1 cl))))), (fun q => by first | (exfalso; omega) | exact ts_2 (by omega) (x := Xi _ (276 + cl) 2) (by omega) (o54 (by omega)).1 (by omega) | exact ts_1 (by omega) (x := Xi _ (276 + cl) 2) (by omega) (o54 (by omega)).1 (by omega) (by omega) (by omega) t193), (fun q => by first | omega | (exfalso; omega))⟩
    · refine l_iconst rfl ?_
      refine l_ireturn rfl rfl ?_
      have w73 : Xi T1 (276 + cl) 0 = Xi S (276 + cl) 0 := (show Xi T1 (276 + cl) 0 = Xi S (276 + cl) 0 from FR_clj w26 rfl (by omega))
      have w74 : Xi T1 (276 + cl) 4 = Xi S (276 + cl) 4 := (show Xi T1 (276 + cl) 4 = Xi S (276 + cl) 4 from FR_clj w26 rfl (by omega))
      have w75 : Xi T1 (276 + cl) 5 = Xi S (276 + cl) 5 := (show Xi T1 (276 + cl) 5 = Xi S (276 + cl) 5 from FR_clj w26 rfl (by omega))
      have w76 : 0 ≤ Xi T1 876 8 ∧ Xi T1 876 8 ≤ 9 := hHT1.c _ _
      have w77 : Xi T1 895 4 = Xi S 895 4 := (show Xi T1 895 4 = Xi S 895 4 from w26.x _ _ rfl)
      exact ⟨hHT1, hFT1, _, rfl, ⟨by omega, by omega⟩, ((kcl_tr KCL.rf (by assumption : KCL S T1 cl))), (fun q => by first | (exfalso; omega) | exact ts_2 (by omega) (x := Xi _ (276 + cl) 2) (by omega) (o54 (by omega)).1 (by omega) | exact ts_1 (by omega) (x := Xi _ (276 + cl) 2) (by omega) (o54 (by omega)).1 (by omega) (by omega) (by omega) t193), (fun q => by first | omega | (exfalso; omega))⟩
  · refine l_iload rfl rfl ?_
    refine l_bipush rfl rfl ?_
    refine l_icmp_ne rfl rfl (by unfold rg; omega) (by unfold rg; omega) (fun w79 => ?_) (fun w80 => ?_)
    · refine l_iconst rfl ?_
      refine l_istore rfl rfl rfl ?_
      refine l_aload_n rfl rfl ?_
      refine l_iload_n rfl rfl ?_
      refine l_iconst rfl ?_
      refine l_iadd rfl ?_
      refine l_iload rfl rfl ?_
      refine l_iload rfl rfl ?_
      refine l_aload_n rfl rfl ?_
      refine l_callV rfl rfl rfl (t_rr_propertyOfThing hH (from_ + 1) z11 0 cl ⟨by omega, by omega⟩ ⟨by omega, by omega⟩ ⟨by omega, by omega⟩ (by omega) (by first | assumption | exact (LEX_FR hF rfl rfl (by assumption : LEX S))) _) ?_
      rintro _ T6 ⟨hHT6, w87, z86, rfl, w86, w82, w83, w84, w85⟩
      have hFT6 : FR md_rr_propertyTest S T6 := FR.tr hF w87 rfl
      show Rl _ _ _ _ _ [iv z86] _ _
      have o54 : z86 = 1 → WHO (0 ≤ Xi S 895 4) (Xi T6 (276 + cl) 2) ∧ 0 ≤ Xi T6 (276 + cl) 3 ∧ Xi T6 (276 + cl) 3 ≤ 11 := by assumption
      have o54b : z86 = 1 → 0 ≤ Xi T6 (276 + cl) 3 ∧ Xi T6 (276 + cl) 3 ≤ 11 := fun q => (o54 q).2
      refine l_if_ne rfl rfl (by unfold rg; omega) (fun w88 => ?_) (fun w89 => ?_)
      · refine l_iload rfl rfl ?_
        refine l_if_eq rfl rfl (by unfold rg; omega) (fun w90 => ?_) (fun w91 => absurd w91 (by omega))
        · refine l_aload_n rfl rfl ?_
          refine l_gfr rfl rfl rfl rfl rfl (hHT6.r 899 1 1 rfl) ?_
          refine l_gfr rfl rfl rfl rfl rfl (hHT6.r 1 8 9 rfl) ?_
          refine l_aload_n rfl rfl ?_
          refine l_gfi rfl rfl rfl (layCl (by omega)) rfl ?_
          have w92 : -1 ≤ (Xi T6 (276 + cl) 3) ∧ (Xi T6 (276 + cl) 3) ≤ 1666 := clc3 hHT6 (by omega)
          refine l_iaload (n := 12) rfl rfl (by omega) (by omega) (by unfold rg; omega) ?_
          have w93 : 0 ≤ (Xi T6 9 (((Xi T6 (276 + cl) 3)).toNat)) ∧ (Xi T6 9 (((Xi T6 (276 + cl) 3)).toNat)) ≤ 7 := hHT6.c _ _
          refine l_istore rfl rfl rfl ?_
          refine l_aload_n rfl rfl ?_
          refine l_iload rfl rfl ?_
          refine l_bipush rfl rfl ?_
          refine l_icmp_ne rfl rfl (by unfold rg; omega) (by unfold rg; omega) (fun w94 => ?_) (fun w95 => ?_)
          · refine l_iconst rfl ?_
            refine l_pfz rfl rfl (layClW (by omega) rfl) rfl (by omega) ?_
            obtain ⟨U7, eU7⟩ : ∃ T : sS, T = uI T6 (276 + cl) 1 (Int32.ofInt 0) := ⟨_, rfl⟩
            rw [← eU7]
            have hHU7 : HI U7 := by rw [eU7]; exact HI_w hHT6 (by rw [lh_cl1 (by omega)]; omega) (by rw [lh_cl1 (by omega)]; omega)
            have hFU7 : FR md_rr_propertyTest S U7 := by rw [eU7]; exact FR.wI hFT6 (mdf_i (r := (276, 876, 1, 2)) (List.mem_of_getElem? (i := 1) rfl) (inR_i (by omega) (by omega) (by omega) (by omega)))
            have w96 : Xi U7 (276 + cl) 1 = 0 := by rw [eU7]; exact Xi_same (by unfold rg; omega)
            refine l_aload_n rfl rfl ?_
            refine l_gfr rfl rfl rfl rfl rfl (hHU7.r 899 2 895 rfl) ?_
            refine l_aload_n rfl rfl ?_
            refine l_gfi rfl rfl rfl (layCl (by omega)) rfl ?_
            refine l_if_eq rfl rfl (by unfold rg; omega) (fun w97 => ?_) (fun w98 => ?_)
            · refine l_iload_n rfl rfl ?_
              refine l_iconst rfl ?_
              refine l_iadd rfl ?_
              refine l_iload rfl rfl ?_
              have w99 : Xi U7 (276 + cl) 0 = Xi S (276 + cl) 0 := (show Xi U7 (276 + cl) 0 = Xi T6 (276 + cl) 0 from by rw [eU7]; exact Xi_ne (by omega)).trans ((show Xi T6 (276 + cl) 0 = Xi S (276 + cl) 0 from FR_clj w87 rfl (by omega)))
              have w100 : Xi U7 (276 + cl) 2 = Xi T6 (276 + cl) 2 := (show Xi U7 (276 + cl) 2 = Xi T6 (276 + cl) 2 from by rw [eU7]; exact Xi_ne (by omega))
              have w101 : Xi U7 (276 + cl) 3 = Xi T6 (276 + cl) 3 := (show Xi U7 (276 + cl) 3 = Xi T6 (276 + cl) 3 from by rw [eU7]; exact Xi_ne (by omega))
              have w102 : Xi U7 (276 + cl) 4 = Xi S (276 + cl) 4 := (show Xi U7 (276 + cl) 4 = Xi T6 (276 + cl) 4 from by rw [eU7]; exact Xi_ne (by omega)).trans ((show Xi T6 (276 + cl) 4 = Xi S (276 + cl) 4 from FR_clj w87 rfl (by omega)))
              have w103 : Xi U7 (276 + cl) 5 = Xi S (276 + cl) 5 := (show Xi U7 (276 + cl) 5 = Xi T6 (276 + cl) 5 from by rw [eU7]; exact Xi_ne (by omega)).trans ((show Xi T6 (276 + cl) 5 = Xi S (276 + cl) 5 from FR_clj w87 rfl (by omega)))
              refine l_callV rfl rfl rfl (t_me_readWhat hHU7 (is_ + 1) (Xi T6 9 (((Xi T6 (276 + cl) 3)).toNat)) ⟨by omega, by omega⟩ ⟨by omega, by omega⟩ (by first | assumption | exact (LEX_FR hFU7 rfl rfl (by assumption : LEX S))) (by first | assumption | exact (TOK_FR hFU7 rfl rfl rfl (by assumption : TOK S))) (by first | assumption | exact (SRX_FR hFU7 rfl (by assumption : SRX S))) _) ?_
              rintro _ T8 ⟨hHT8, w109, z108, rfl, w108, w106, w107⟩
              have hFT8 : FR md_rr_propertyTest S T8 := FR.tr hFU7 w109 rfl
              show Rl _ _ _ _ _ [iv z108] _ _
              have t151 : z108 = 1 → TXT T8 (Xi T8 895 10) (Xi T8 895 11) := by assumption
              refine l_if_ne rfl rfl (by unfold rg; omega) (fun w110 => ?_) (fun w111 => ?_)
              · refine l_aload_n rfl rfl ?_
                refine l_iload rfl rfl ?_
                refine l_iconst rfl ?_
                refine l_icmp_ne rfl rfl (by unfold rg; omega) (by unfold rg; omega) (fun w112 => ?_) (fun w113 => ?_)
                · refine l_iconst rfl ?_
                  refine l_pfi rfl rfl (layClW (by omega) rfl) rfl ?_
                  obtain ⟨U9, eU9⟩ : ∃ T : sS, T = uI T8 (276 + cl) 0 (Int32.ofInt 1) := ⟨_, rfl⟩
                  rw [← eU9]
                  have hHU9 : HI U9 := by rw [eU9]; exact HI_w hHT8 (by rw [lh_cl0 (by omega)]; omega) (by rw [lh_cl0 (by omega)]; omega)
                  have hFU9 : FR md_rr_propertyTest S U9 := by rw [eU9]; exact FR.wI hFT8 (mdf_i (r := (276, 876, 0, 1)) (List.mem_of_getElem? (i := 0) rfl) (inR_i (by omega) (by omega) (by omega) (by omega)))
                  have w114 : Xi U9 (276 + cl) 0 = 1 := by rw [eU9]; exact Xi_same (by unfold rg; omega)
                  have t171 : TXT U9 (Xi T8 895 10) (Xi T8 895 11) := TXT_eq (by rw [eU9]; rfl) (t151 (by omega))
                  have y1710 : Xi U9 895 10 = Xi T8 895 10 := by rw [eU9, Xi_ne (by omega)]
                  have y1711 : Xi U9 895 11 = Xi T8 895 11 := by rw [eU9, Xi_ne (by omega)]
                  refine l_aload_n rfl rfl ?_
                  refine l_aload_n rfl rfl ?_
                  refine l_gfr rfl rfl rfl rfl rfl (hHU9.r 899 2 895 rfl) ?_
                  refine l_gfi rfl rfl rfl rfl rfl ?_
                  have w115 : -2147483648 ≤ (Xi U9 895 10) ∧ (Xi U9 895 10) ≤ 2147483647 := Xi_rgI
                  refine l_pfi rfl rfl (layClW (by omega) rfl) rfl ?_
                  obtain ⟨U10, eU10⟩ : ∃ T : sS, T = uI U9 (276 + cl) 4 (Int32.ofInt (Xi U9 895 10)) := ⟨_, rfl⟩
                  rw [← eU10]
                  have hHU10 : HI U10 := by rw [eU10]; exact HI_any hHU9 (lh_cl4 (by omega))
                  have hFU10 : FR md_rr_propertyTest S U10 := by rw [eU10]; exact FR.wI hFU9 (mdf_i (r := (276, 876, 4, 5)) (List.mem_of_getElem? (i := 4) rfl) (inR_i (by omega) (by omega) (by omega) (by omega)))
                  have w116 : Xi U10 (276 + cl) 4 = (Xi U9 895 10) := by rw [eU10]; exact Xi_same (by unfold rg; omega)
                  have t182 : TXT U10 _ _ := TXT_eq (by rw [eU10]; rfl) t171
                  have y1821 : Xi U10 895 11 = Xi U9 895 11 := by rw [eU10, Xi_ne (by omega)]
                  refine l_aload_n rfl rfl ?_
                  refine l_aload_n rfl rfl ?_
                  refine l_gfr rfl rfl rfl rfl rfl (hHU10.r 899 2 895 rfl) ?_
                  refine l_gfi rfl rfl rfl rfl rfl ?_
                  have w117 : -2147483648 ≤ (Xi U10 895 11) ∧ (Xi U10 895 11) ≤ 2147483647 := Xi_rgI
                  refine l_pfi rfl rfl (layClW (by omega) rfl) rfl ?_
                  obtain ⟨U11, eU11⟩ : ∃ T : sS, T = uI U10 (276 + cl) 5 (Int32.ofInt (Xi U10 895 11)) := ⟨_, rfl⟩
                  rw [← eU11]
                  have hHU11 : HI U11 := by rw [eU11]; exact HI_any hHU10 (lh_cl5 (by omega))
                  have hFU11 : FR md_rr_propertyTest S U11 := by rw [eU11]; exact FR.wI hFU10 (mdf_i (r := (276, 876, 5, 6)) (List.mem_of_getElem? (i := 5) rfl) (inR_i (by omega) (by omega) (by omega) (by omega)))
                  have w118 : Xi U11 (276 + cl) 5 = (Xi U10 895 11) := by rw [eU11]; exact Xi_same (by unfold rg; omega)
                  have t193 : TXT U11 _ _ := TXT_eq (by rw [eU11]; rfl) t182
                  refine l_iconst rfl ?_
                  refine l_ireturn rfl rfl ?_
                  have w119 : Xi U11 (276 + cl) 0 = Xi U9 (276 + cl) 0 := (show Xi U11 (276 + cl) 0 = Xi U10 (276 + cl) 0 from by rw [eU11]; exact Xi_ne (by omega)).trans ((show Xi U10 (276 + cl) 0 = Xi U9 (276 + cl) 0 from by rw [eU10]; exact Xi_ne (by omega)))
                  have w120 : Xi U11 (276 + cl) 2 = Xi T6 (276 + cl) 2 := (show Xi U11 (276 + cl) 2 = Xi U10 (276 + cl) 2 from by rw [eU11]; exact Xi_ne (by omega)).trans ( (show Xi U10 (276 + cl) 2 = Xi U9 (276 + cl) 2 from by rw [eU10]; exact Xi_ne (by omega)).trans ( (show Xi U9 (276 + cl) 2 = Xi T8 (276 + cl) 2 from by rw [eU9]; exact Xi_ne (by omega)).trans ( (show Xi T8 (276 + cl) 2 = Xi U7 (276 + cl) 2 from FR_cl w109 rfl (by omega)).trans ((show Xi U7 (276 + cl) 2 = Xi T6 (276 + cl) 2 from by rw [eU7]; exact Xi_ne (by omega))))))
                  have w121 : Xi U11 (276 + cl) 3 = Xi T6 (276 + cl) 3 := (show Xi U11 (276 + cl) 3 = Xi U10 (276 + cl) 3 from by rw [eU11]; exact Xi_ne (by omega)).trans ( (show Xi U10 (276 + cl) 3 = Xi U9 (276 + cl) 3 from by rw [eU10]; exact Xi_ne (by omega)).trans ( (show Xi U9 (276 + cl) 3 = Xi T8 (276 + cl) 3 from by rw [eU9]; exact Xi_ne (by omega)).trans ( (show Xi T8 (276 + cl) 3 = Xi U7 (276 + cl) 3 from FR_cl w109 rfl (by omega)).trans ((show Xi U7 (276 + cl) 3 = Xi T6 (276 + cl) 3 from by rw [eU7]; exact Xi_ne (by omega))))))
                  have w122 : Xi U11 (276 + cl) 4 = Xi U10 (276 + cl) 4 := (show Xi U11 (276 + cl) 4 = Xi U10 (276 + cl) 4 from by rw [eU11]; exact Xi_ne (by omega))
                  have w123 : Xi U11 876 8 = Xi T8 876 8 := (show Xi U11 876 8 = Xi U10 876 8 from by rw [eU11]; exact Xi_ne (by omega)).trans ( (show Xi U10 876 8 = Xi U9 876 8 from by rw [eU10]; exact Xi_ne (by omega)).trans ((show Xi U9 876 8 = Xi T8 876 8 from by rw [eU9]; exact Xi_ne (by omega))))
                  have w124 : 0 ≤ Xi T8 876 8 ∧ Xi T8 876 8 ≤ 9 := hHT8.c _ _
                  have w125 : Xi U11 895 4 = Xi S 895 4 := (show Xi U11 895 4 = Xi U10 895 4 from by rw [eU11]; exact Xi_ne (by omega)).trans ( (show Xi U10 895 4 = Xi U9 895 4 from by rw [eU10]; exact Xi_ne (by omega)).trans ( (show Xi U9 895 4 = Xi T8 895 4 from by rw [eU9]; exact Xi_ne (by omega)).trans ( (show Xi T8 895 4 = Xi U7 895 4 from w109.x _ _ rfl).trans ( (show Xi U7 895 4 = Xi T6 895 4 from by rw [eU7]; exact Xi_ne (by omega)).trans ((show Xi T6 895 4 = Xi S 895 4 from w87.x _ _ rfl))))))
                  exact ⟨hHU11, hFU11, _, rfl, ⟨by omega, by omega⟩, ((kcl_w eU11 (kcl_w eU10 (kcl_w eU9 (kcl_f w109 rfl (kcl_w eU7 (kcl_tr KCL.rf (by assumption : KCL S T6 cl)))))))), (fun q => by first | (exfalso; omega) | exact ts_2 (by omega) (x := Xi _ (276 + cl) 2) (by omega) (o54 (by omega)).1 (by omega) | exact ts_1 (by omega) (x := Xi _ (276 + cl) 2) (by omega) (o54 (by omega)).1 (by omega) (by omega) (by omega) t193), (fun q => by first | omega | (exfalso; omega))⟩
                · refine l_iconst rfl ?_
                  refine l_goto rfl rfl ?_
                  refine l_pfi rfl rfl (layClW (by omega) rfl) rfl ?_
                  obtain ⟨U12, eU12⟩ : ∃ T : sS, T = uI T8 (276 + cl) 0 (Int32.ofInt 4) := ⟨_, rfl⟩
                  rw [← eU12]
                  have hHU12 : HI U12 := by rw [eU12]; exact HI_w hHT8 (by rw [lh_cl0 (by omega)]; omega) (by rw [lh_cl0 (by omega)]; omega)
                  have hFU12 : FR md_rr_propertyTest S U12 := by rw [eU12]; exact FR.wI hFT8 (mdf_i (r := (276, 876, 0, 1)) (List.mem_of_getElem? (i := 0) rfl) (inR_i (by omega) (by omega) (by omega) (by omega)))
                  have w127 : Xi U12 (276 + cl) 0 = 4 := by rw [eU12]; exact Xi_same (by unfold rg; omega)
                  have t171 : TXT U12 (Xi T8 895 10) (Xi T8 895 11) := TXT_eq (by rw [eU12]; rfl) (t151 (by omega))
                  have y1710 : Xi U12 895 10 = Xi T8 895 10 := by rw [eU12, Xi_ne (by omega)]
                  have y1711 : Xi U12 895 11 = Xi T8 895 11 := by rw [eU12, Xi_ne (by omega)]
                  refine l_aload_n rfl rfl ?_
                  refine l_aload_n rfl rfl ?_
                  refine l_gfr rfl rfl rfl rfl rfl (hHU12.r 899 2 895 rfl) ?_
                  refine l_gfi rfl rfl rfl rfl rfl ?_
                  have w128 : -2147483648 ≤ (Xi U12 895 10) ∧ (Xi U12 895 10) ≤ 2147483647 := Xi_rgI
                  refine l_pfi rfl rfl (layClW (by omega) rfl) rfl ?_
                  obtain ⟨U13, eU13⟩ : ∃ T : sS, T = uI U12 (276 + cl) 4 (Int32.ofInt (Xi U12 895 10)) := ⟨_, rfl⟩
                  rw [← eU13]
                  have hHU13 : HI U13 := by rw [eU13]; exact HI_any hHU12 (lh_cl4 (by omega))
                  have hFU13 : FR md_rr_propertyTest S U13 := by rw [eU13]; exact FR.wI hFU12 (mdf_i (r := (276, 876, 4, 5)) (List.mem_of_getElem? (i := 4) rfl) (inR_i (by omega) (by omega) (by omega) (by omega)))
                  have w129 : Xi U13 (276 + cl) 4 = (Xi U12 895 10) := by rw [eU13]; exact Xi_same (by unfold rg; omega)
                  have t182 : TXT U13 _ _ := TXT_eq (by rw [eU13]; rfl) t171
                  have y1821 : Xi U13 895 11 = Xi U12 895 11 := by rw [eU13, Xi_ne (by omega)]
                  refine l_aload_n rfl rfl ?_
                  refine l_aload_n rfl rfl ?_
                  refine l_gfr rfl rfl rfl rfl rfl (hHU13.r 899 2 895 rfl) ?_
                  refine l_gfi rfl rfl rfl rfl rfl ?_
                  have w130 : -2147483648 ≤ (Xi U13 895 11) ∧ (Xi U13 895 11) ≤ 2147483647 := Xi_rgI
                  refine l_pfi rfl rfl (layClW (by omega) rfl) rfl ?_
                  obtain ⟨U14, eU14⟩ : ∃ T : sS, T = uI U13 (276 + cl) 5 (Int32.ofInt (Xi U13 895 11)) := ⟨_, rfl⟩
                  rw [← eU14]
                  have hHU14 : HI U14 := by rw [eU14]; exact HI_any hHU13 (lh_cl5 (by omega))
                  have hFU14 : FR md_rr_propertyTest S U14 := by rw [eU14]; exact FR.wI hFU13 (mdf_i (r := (276, 876, 5, 6)) (List.mem_of_getElem? (i := 5) rfl) (inR_i (by omega) (by omega) (by omega) (by omega)))
                  have w131 : Xi U14 (276 + cl) 5 = (Xi U13 895 11) := by rw [eU14]; exact Xi_same (by unfold rg; omega)
                  have t193 : TXT U14 _ _ := TXT_eq (by rw [eU14]; rfl) t182
                  refine l_iconst rfl ?_
                  refine l_ireturn rfl rfl ?_
                  have w132 : Xi U14 (276 + cl) 0 = Xi U12 (276 + cl) 0 := (show Xi U14 (276 + cl) 0 = Xi U13 (276 + cl) 0 from by rw [eU14]; exact Xi_ne (by omega)).trans ((show Xi U13 (276 + cl) 0 = Xi U12 (276 + cl) 0 from by rw [eU13]; exact Xi_ne (by omega)))
                  have w133 : Xi U14 (276 + cl) 2 = Xi T6 (276 + cl) 2 := (show Xi U14 (276 + cl) 2 = Xi U13 (276 + cl) 2 from by rw [eU14]; exact Xi_ne (by omega)).trans ( (show Xi U13 (276 + cl) 2 = Xi U12 (276 + cl) 2 from by rw [eU13]; exact Xi_ne (by omega)).trans ( (show Xi U12 (276 + cl) 2 = Xi T8 (276 + cl) 2 from by rw [eU12]; exact Xi_ne (by omega)).trans ( (show Xi T8 (276 + cl) 2 = Xi U7 (276 + cl) 2 from FR_cl w109 rfl (by omega)).trans ((show Xi U7 (276 + cl) 2 = Xi T6 (276 + cl) 2 from by rw [eU7]; exact Xi_ne (by omega))))))
                  have w134 : Xi U14 (276 + cl) 3 = Xi T6 (276 + cl) 3 := (show Xi U14 (276 + cl) 3 = Xi U13 (276 + cl) 3 from by rw [eU14]; exact Xi_ne (by omega)).trans ( (show Xi U13 (276 + cl) 3 = Xi U12 (276 + cl) 3 from by rw [eU13]; exact Xi_ne (by omega)).trans ( (show Xi U12 (276 + cl) 3 = Xi T8 (276 + cl) 3 from by rw [eU12]; exact Xi_ne (by omega)).trans ( (show Xi T8 (276 + cl) 3 = Xi U7 (276 + cl) 3 from FR_cl w109 rfl (by omega)).trans ((show Xi U7 (276 + cl) 3 = Xi T6 (276 + cl) 3 from by rw [eU7]; exact Xi_ne (by omega))))))
                  have w135 : Xi U14 (276 + cl) 4 = Xi U13 (276 + cl) 4 := (show Xi U14 (276 + cl) 4 = Xi U13 (276 + cl) 4 from by rw [eU14]; exact Xi_ne (by omega))
                  have w136 : Xi U14 876 8 = Xi T8 876 8 := (show Xi U14 876 8 = Xi U13 876 8 from by rw [eU14]; exact Xi_ne (by omega)).trans ( (show Xi U13 876 8 = Xi U12 876 8 from by rw [eU13]; exact Xi_ne (by omega)).trans ((show Xi U12 876 8 = Xi T8 876 8 from by rw [eU12]; exact Xi_ne (by omega))))
                  have w137 : 0 ≤ Xi T8 876 8 ∧ Xi T8 876 8 ≤ 9 := hHT8.c _ _
                  have w138 : Xi U14 895 4 = Xi S 895 4 := (show Xi U14 895 4 = Xi U13 895 4 from by rw [eU14]; exact Xi_ne (by omega)).trans ( (show Xi U13 895 4 = Xi U12 895 4 from by rw [eU13]; exact Xi_ne (by omega)).trans ( (show Xi U12 895 4 = Xi T8 895 4 from by rw [eU12]; exact Xi_ne (by omega)).trans ( (show Xi T8 895 4 = Xi U7 895 4 from w109.x _ _ rfl).trans ( (show Xi U7 895 4 = Xi T6 895 4 from by rw [eU7]; exact Xi_ne (by omega)).trans ((show Xi T6 895 4 = Xi S 895 4 from w87.x _ _ rfl))))))
                  exact ⟨hHU14, hFU14, _, rfl, ⟨by omega, by omega⟩, ((kcl_w eU14 (kcl_w eU13 (kcl_w eU12 (kcl_f w109 rfl (kcl_w eU7 (kcl_tr KCL.rf (by assumption : KCL S T6 cl)))))))), (fun q => by first | (exfalso; omega) | exact ts_2 (by omega) (x := Xi _ (276 + cl) 2) (by omega) (o54 (by omega)).1 (by omega) | exact ts_1 (by omega) (x := Xi _ (276 + cl) 2) (by omega) (o54 (by omega)).1 (by omega) (by omega) (by omega) t193), (fun q => by first | omega | (exfalso; omega))⟩
              · refine l_iconst rfl ?_
                refine l_ireturn rfl rfl ?_
                have w140 : Xi T8 (276 + cl) 0 = Xi S (276 + cl) 0 := (show Xi T8 (276 + cl) 0 = Xi U7 (276 + cl) 0 from FR_cl w109 rfl (by omega)).trans ( (show Xi U7 (276 + cl) 0 = Xi T6 (276 + cl) 0 from by rw [eU7]; exact Xi_ne (by omega)).trans ((show Xi T6 (276 + cl) 0 = Xi S (276 + cl) 0 from FR_clj w87 rfl (by omega))))
                have w141 : Xi T8 (276 + cl) 2 = Xi T6 (276 + cl) 2 := (show Xi T8 (276 + cl) 2 = Xi U7 (276 + cl) 2 from FR_cl w109 rfl (by omega)).trans ((show Xi U7 (276 + cl) 2 = Xi T6 (276 + cl) 2 from by rw [eU7]; exact Xi_ne (by omega)))
                have w142 : Xi T8 (276 + cl) 3 = Xi T6 (276 + cl) 3 := (show Xi T8 (276 + cl) 3 = Xi U7 (276 + cl) 3 from FR_cl w109 rfl (by omega)).trans ((show Xi U7 (276 + cl) 3 = Xi T6 (276 + cl) 3 from by rw [eU7]; exact Xi_ne (by omega)))
                have w143 : Xi T8 (276 + cl) 4 = Xi S (276 + cl) 4 := (show Xi T8 (276 + cl) 4 = Xi U7 (276 + cl) 4 from FR_cl w109 rfl (by omega)).trans ( (show Xi U7 (276 + cl) 4 = Xi T6 (276 + cl) 4 from by rw [eU7]; exact Xi_ne (by omega)).trans ((show Xi T6 (276 + cl) 4 = Xi S (276 + cl) 4 from FR_clj w87 rfl (by omega))))
                have w144 : Xi T8 (276 + cl) 5 = Xi S (276 + cl) 5 := (show Xi T8 (276 + cl) 5 = Xi U7 (276 + cl) 5 from FR_cl w109 rfl (by omega)).trans ( (show Xi U7 (276 + cl) 5 = Xi T6 (276 + cl) 5 from by rw [eU7]; exact Xi_ne (by omega)).trans ((show Xi T6 (276 + cl) 5 = Xi S (276 + cl) 5 from FR_clj w87 rfl (by omega))))
                have w145 : 0 ≤ Xi T8 876 8 ∧ Xi T8 876 8 ≤ 9 := hHT8.c _ _
                have w146 : Xi T8 895 4 = Xi S 895 4 := (show Xi T8 895 4 = Xi U7 895 4 from w109.x _ _ rfl).trans ( (show Xi U7 895 4 = Xi T6 895 4 from by rw [eU7]; exact Xi_ne (by omega)).trans ((show Xi T6 895 4 = Xi S 895 4 from w87.x _ _ rfl)))
                exact ⟨hHT8, hFT8, _, rfl, ⟨by omega, by omega⟩, ((kcl_f w109 rfl (kcl_w eU7 (kcl_tr KCL.rf (by assumption : KCL S T6 cl))))), (fun q => by first | (exfalso; omega) | exact ts_2 (by omega) (x := Xi _ (276 + cl) 2) (by omega) (o54 (by omega)).1 (by omega) | exact ts_1 (by omega) (x := Xi _ (276 + cl) 2) (by omega) (o54 (by omega)).1 (by omega) (by omega) (by omega) t193), (fun q => by first | omega | (exfalso; omega))⟩
            · refine l_iload_n rfl rfl ?_
              refine l_iconst rfl ?_
              refine l_iadd rfl ?_
              refine l_goto rfl rfl ?_
              refine l_iload rfl rfl ?_
              have w148 : Xi U7 (276 + cl) 0 = Xi S (276 + cl) 0 := (show Xi U7 (276 + cl) 0 = Xi T6 (276 + cl) 0 from by rw [eU7]; exact Xi_ne (by omega)).trans ((show Xi T6 (276 + cl) 0 = Xi S (276 + cl) 0 from FR_clj w87 rfl (by omega)))
              have w149 : Xi U7 (276 + cl) 2 = Xi T6 (276 + cl) 2 := (show Xi U7 (276 + cl) 2 = Xi T6 (276 + cl) 2 from by rw [eU7]; exact Xi_ne (by omega))
              have w150 : Xi U7 (276 + cl) 3 = Xi T6 (276 + cl) 3 := (show Xi U7 (276 + cl) 3 = Xi T6 (276 + cl) 3 from by rw [eU7]; exact Xi_ne (by omega))
              have w151 : Xi U7 (276 + cl) 4 = Xi S (276 + cl) 4 := (show Xi U7 (276 + cl) 4 = Xi T6 (276 + cl) 4 from by rw [eU7]; exact Xi_ne (by omega)).trans ((show Xi T6 (276 + cl) 4 = Xi S (276 + cl) 4 from FR_clj w87 rfl (by omega)))
              have w152 : Xi U7 (276 + cl) 5 = Xi S (276 + cl) 5 := (show Xi U7 (276 + cl) 5 = Xi T6 (276 + cl) 5 from by rw [eU7]; exact Xi_ne (by omega)).trans ((show Xi T6 (276 + cl) 5 = Xi S (276 + cl) 5 from FR_clj w87 rfl (by omega)))
              refine l_callV rfl rfl rfl (t_me_readWhat hHU7 (is_ + 2) (Xi T6 9 (((Xi T6 (276 + cl) 3)).toNat)) ⟨by omega, by omega⟩ ⟨by omega, by omega⟩ (by first | assumption | exact (LEX_FR hFU7 rfl rfl (by assumption : LEX S))) (by first | assumption | exact (TOK_FR hFU7 rfl rfl rfl (by assumption : TOK S))) (by first | assumption | exact (SRX_FR hFU7 rfl (by assumption : SRX S))) _) ?_
              rintro _ T15 ⟨hHT15, w158, z157, rfl, w157, w155, w156⟩
              have hFT15 : FR md_rr_propertyTest S T15 := FR.tr hFU7 w158 rfl
              show Rl _ _ _ _ _ [iv z157] _ _
              have t151 : z157 = 1 → TXT T15 (Xi T15 895 10) (Xi T15 895 11) := by assumption
              refine l_if_ne rfl rfl (by unfold rg; omega) (fun w159 => ?_) (fun w160 => ?_)
              · refine l_aload_n rfl rfl ?_
                refine l_iload rfl rfl ?_
                refine l_iconst rfl ?_
                refine l_icmp_ne rfl rfl (by unfold rg; omega) (by unfold rg; omega) (fun w161 => ?_) (fun w162 => ?_)
                · refine l_iconst rfl ?_
                  refine l_pfi rfl rfl (layClW (by omega) rfl) rfl ?_
                  obtain ⟨U16, eU16⟩ : ∃ T : sS, T = uI T15 (276 + cl) 0 (Int32.ofInt 1) := ⟨_, rfl⟩
                  rw [← eU16]
                  have hHU16 : HI U16 := by rw [eU16]; exact HI_w hHT15 (by rw [lh_cl0 (by omega)]; omega) (by rw [lh_cl0 (by omega)]; omega)
                  have hFU16 : FR md_rr_propertyTest S U16 := by rw [eU16]; exact FR.wI hFT15 (mdf_i (r := (276, 876, 0, 1)) (List.mem_of_getElem? (i := 0) rfl) (inR_i (by omega) (by omega) (by omega) (by omega)))
                  have w163 : Xi U16 (276 + cl) 0 = 1 := by rw [eU16]; exact Xi_same (by unfold rg; omega)
                  have t171 : TXT U16 (Xi T15 895 10) (Xi T15 895 11) := TXT_eq (by rw [eU16]; rfl) (t151 (by omega))
                  have y1710 : Xi U16 895 10 = Xi T15 895 10 := by rw [eU16, Xi_ne (by omega)]
                  have y1711 : Xi U16 895 11 = Xi T15 895 11 := by rw [eU16, Xi_ne (by omega)]
                  refine l_aload_n rfl rfl ?_
                  refine l_aload_n rfl rfl ?_
                  refine l_gfr rfl rfl rfl rfl rfl (hHU16.r 899 2 895 rfl) ?_
                  refine l_gfi rfl rfl rfl rfl rfl ?_
                  have w164 : -2147483648 ≤ (Xi U16 895 10) ∧ (Xi U16 895 10) ≤ 2147483647 := Xi_rgI
                  refine l_pfi rfl rfl (layClW (by omega) rfl) rfl ?_
                  obtain ⟨U17, eU17⟩ : ∃ T : sS, T = uI U16 (276 + cl) 4 (Int32.ofInt (Xi U16 895 10)) := ⟨_, rfl⟩
                  rw [← eU17]
                  have hHU17 : HI U17 := by rw [eU17]; exact HI_any hHU16 (lh_cl4 (by omega))
                  have hFU17 : FR md_rr_propertyTest S U17 := by rw [eU17]; exact FR.wI hFU16 (mdf_i (r := (276, 876, 4, 5)) (List.mem_of_getElem? (i := 4) rfl) (inR_i (by omega) (by omega) (by omega) (by omega)))
                  have w165 : Xi U17 (276 + cl) 4 = (Xi U16 895 10) := by rw [eU17]; exact Xi_same (by unfold rg; omega)
                  have t182 : TXT U17 _ _ := TXT_eq (by rw [eU17]; rfl) t171
                  have y1821 : Xi U17 895 11 = Xi U16 895 11 := by rw [eU17, Xi_ne (by omega)]
                  refine l_aload_n rfl rfl ?_
                  refine l_aload_n rfl rfl ?_
                  refine l_gfr rfl rfl rfl rfl rfl (hHU17.r 899 2 895 rfl) ?_
                  refine l_gfi rfl rfl rfl rfl rfl ?_
                  have w166 : -2147483648 ≤ (Xi U17 895 11) ∧ (Xi U17 895 11) ≤ 2147483647 := Xi_rgI
                  refine l_pfi rfl rfl (layClW (by omega) rfl) rfl ?_
                  obtain ⟨U18, eU18⟩ : ∃ T : sS, T = uI U17 (276 + cl) 5 (Int32.ofInt (Xi U17 895 11)) := ⟨_, rfl⟩
                  rw [← eU18]
                  have hHU18 : HI U18 := by rw [eU18]; exact HI_any hHU17 (lh_cl5 (by omega))
                  have hFU18 : FR md_rr_propertyTest S U18 := by rw [eU18]; exact FR.wI hFU17 (mdf_i (r := (276, 876, 5, 6)) (List.mem_of_getElem? (i := 5) rfl) (inR_i (by omega) (by omega) (by omega) (by omega)))
                  have w167 : Xi U18 (276 + cl) 5 = (Xi U17 895 11) := by rw [eU18]; exact Xi_same (by unfold rg; omega)
                  have t193 : TXT U18 _ _ := TXT_eq (by rw [eU18]; rfl) t182
                  refine l_iconst rfl ?_
                  refine l_ireturn rfl rfl ?_
                  have w168 : Xi U18 (276 + cl) 0 = Xi U16 (276 + cl) 0 := (show Xi U18 (276 + cl) 0 = Xi U17 (276 + cl) 0 from by rw [eU18]; exact Xi_ne (by omega)).trans ((show Xi U17 (276 + cl) 0 = Xi U16 (276 + cl) 0 from by rw [eU17]; exact Xi_ne (by omega)))
                  have w169 : Xi U18 (276 + cl) 2 = Xi T6 (276 + cl) 2 := (show Xi U18 (276 + cl) 2 = Xi U17 (276 + cl) 2 from by rw [eU18]; exact Xi_ne (by omega)).trans ( (show Xi U17 (276 + cl) 2 = Xi U16 (276 + cl) 2 from by rw [eU17]; exact Xi_ne (by omega)).trans ( (show Xi U16 (276 + cl) 2 = Xi T15 (276 + cl) 2 from by rw [eU16]; exact Xi_ne (by omega)).trans ( (show Xi T15 (276 + cl) 2 = Xi U7 (276 + cl) 2 from FR_cl w158 rfl (by omega)).trans ((show Xi U7 (276 + cl) 2 = Xi T6 (276 + cl) 2 from by rw [eU7]; exact Xi_ne (by omega))))))
                  have w170 : Xi U18 (276 + cl) 3 = Xi T6 (276 + cl) 3 := (show Xi U18 (276 + cl) 3 = Xi U17 (276 + cl) 3 from by rw [eU18]; exact Xi_ne (by omega)).trans ( (show Xi U17 (276 + cl) 3 = Xi U16 (276 + cl) 3 from by rw [eU17]; exact Xi_ne (by omega)).trans ( (show Xi U16 (276 + cl) 3 = Xi T15 (276 + cl) 3 from by rw [eU16]; exact Xi_ne (by omega)).trans ( (show Xi T15 (276 + cl) 3 = Xi U7 (276 + cl) 3 from FR_cl w158 rfl (by omega)).trans ((show Xi U7 (276 + cl) 3 = Xi T6 (276 + cl) 3 from by rw [eU7]; exact Xi_ne (by omega))))))
                  have w171 : Xi U18 (276 + cl) 4 = Xi U17 (276 + cl) 4 := (show Xi U18 (276 + cl) 4 = Xi U17 (276 + cl) 4 from by rw [eU18]; exact Xi_ne (by omega))
                  have w172 : Xi U18 876 8 = Xi T15 876 8 := (show Xi U18 876 8 = Xi U17 876 8 from by rw [eU18]; exact Xi_ne (by omega)).trans ( (show Xi U17 876 8 = Xi U16 876 8 from by rw [eU17]; exact Xi_ne (by omega)).trans ((show Xi U16 876 8 = Xi T15 876 8 from by rw [eU16]; exact Xi_ne (by omega))))
                  have w173 : 0 ≤ Xi T15 876 8 ∧ Xi T15 876 8 ≤ 9 := hHT15.c _ _
                  have w174 : Xi U18 895 4 = Xi S 895 4 := (show Xi U18 895 4 = Xi U17 895 4 from by rw [eU18]; exact Xi_ne (by omega)).trans ( (show Xi U17 895 4 = Xi U16 895 4 from by rw [eU17]; exact Xi_ne (by omega)).trans ( (show Xi U16 895 4 = Xi T15 895 4 from by rw [eU16]; exact Xi_ne (by omega)).trans ( (show Xi T15 895 4 = Xi U7 895 4 from w158.x _ _ rfl).trans ( (show Xi U7 895 4 = Xi T6 895 4 from by rw [eU7]; exact Xi_ne (by omega)).trans ((show Xi T6 895 4 = Xi S 895 4 from w87.x _ _ rfl))))))
                  exact ⟨hHU18, hFU18, _, rfl, ⟨by omega, by omega⟩, ((kcl_w eU18 (kcl_w eU17 (kcl_w eU16 (kcl_f w158 rfl (kcl_w eU7 (kcl_tr KCL.rf (by assumption : KCL S T6 cl)))))))), (fun q => by first | (exfalso; omega) | exact ts_2 (by omega) (x := Xi _ (276 + cl) 2) (by omega) (o54 (by omega)).1 (by omega) | exact ts_1 (by omega) (x := Xi _ (276 + cl) 2) (by omega) (o54 (by omega)).1 (by omega) (by omega) (by omega) t193), (fun q => by first | omega | (exfalso; omega))⟩
                · refine l_iconst rfl ?_
                  refine l_goto rfl rfl ?_
                  refine l_pfi rfl rfl (layClW (by omega) rfl) rfl ?_
                  obtain ⟨U19, eU19⟩ : ∃ T : sS, T = uI T15 (276 + cl) 0 (Int32.ofInt 4) := ⟨_, rfl⟩
                  rw [← eU19]
                  have hHU19 : HI U19 := by rw [eU19]; exact HI_w hHT15 (by rw [lh_cl0 (by omega)]; omega) (by rw [lh_cl0 (by omega)]; omega)
                  have hFU19 : FR md_rr_propertyTest S U19 := by rw [eU19]; exact FR.wI hFT15 (mdf_i (r := (276, 876, 0, 1)) (List.mem_of_getElem? (i := 0) rfl) (inR_i (by omega) (by omega) (by omega) (by omega)))
                  have w176 : Xi U19 (276 + cl) 0 = 4 := by rw [eU19]; exact Xi_same (by unfold rg; omega)
                  have t171 : TXT U19 (Xi T15 895 10) (Xi T15 895 11) := TXT_eq (by rw [eU19]; rfl) (t151 (by omega))
                  have y1710 : Xi U19 895 10 = Xi T15 895 10 := by rw [eU19, Xi_ne (by omega)]
                  have y1711 : Xi U19 895 11 = Xi T15 895 11 := by rw [eU19, Xi_ne (by omega)]
                  refine l_aload_n rfl rfl ?_
                  refine l_aload_n rfl rfl ?_
                  refine l_gfr rfl rfl rfl rfl rfl (hHU19.r 899 2 895 rfl) ?_
                  refine l_gfi rfl rfl rfl rfl rfl ?_
                  have w177 : -2147483648 ≤ (Xi U19 895 10) ∧ (Xi U19 895 10) ≤ 2147483647 := Xi_rgI
                  refine l_pfi rfl rfl (layClW (by omega) rfl) rfl ?_
                  obtain ⟨U20, eU20⟩ : ∃ T : sS, T = uI U19 (276 + cl) 4 (Int32.ofInt (Xi U19 895 10)) := ⟨_, rfl⟩
                  rw [← eU20]
                  have hHU20 : HI U20 := by rw [eU20]; exact HI_any hHU19 (lh_cl4 (by omega))
                  have hFU20 : FR md_rr_propertyTest S U20 := by rw [eU20]; exact FR.wI hFU19 (mdf_i (r := (276, 876, 4, 5)) (List.mem_of_getElem? (i := 4) rfl) (inR_i (by omega) (by omega) (by omega) (by omega)))
                  have w178 : Xi U20 (276 + cl) 4 = (Xi U19 895 10) := by rw [eU20]; exact Xi_same (by unfold rg; omega)
                  have t182 : TXT U20 _ _ := TXT_eq (by rw [eU20]; rfl) t171
                  have y1821 : Xi U20 895 11 = Xi U19 895 11 := by rw [eU20, Xi_ne (by omega)]
                  refine l_aload_n rfl rfl ?_
                  refine l_aload_n rfl rfl ?_
                  refine l_gfr rfl rfl rfl rfl rfl (hHU20.r 899 2 895 rfl) ?_
                  refine l_gfi rfl rfl rfl rfl rfl ?_
                  have w179 : -2147483648 ≤ (Xi U20 895 11) ∧ (Xi U20 895 11) ≤ 2147483647 := Xi_rgI
                  refine l_pfi rfl rfl (layClW (by omega) rfl) rfl ?_
                  obtain ⟨U21, eU21⟩ : ∃ T : sS, T = uI U20 (276 + cl) 5 (Int32.ofInt (Xi U20 895 11)) := ⟨_, rfl⟩
                  rw [← eU21]
                  have hHU21 : HI U21 := by rw [eU21]; exact HI_any hHU20 (lh_cl5 (by omega))
                  have hFU21 : FR md_rr_propertyTest S U21 := by rw [eU21]; exact FR.wI hFU20 (mdf_i (r := (276, 876, 5, 6)) (List.mem_of_getElem? (i := 5) rfl) (inR_i (by omega) (by omega) (by omega) (by omega)))
                  have w180 : Xi U21 (276 + cl) 5 = (Xi U20 895 11) := by rw [eU21]; exact Xi_same (by unfold rg; omega)
                  have t193 : TXT U21 _ _ := TXT_eq (by rw [eU21]; rfl) t182
                  refine l_iconst rfl ?_
                  refine l_ireturn rfl rfl ?_
                  have w181 : Xi U21 (276 + cl) 0 = Xi U19 (276 + cl) 0 := (show Xi U21 (276 + cl) 0 = Xi U20 (276 + cl) 0 from by rw [eU21]; exact Xi_ne (by omega)).trans ((show Xi U20 (276 + cl) 0 = Xi U19 (276 + cl) 0 from by rw [eU20]; exact Xi_ne (by omega)))
                  have w182 : Xi U21 (276 + cl) 2 = Xi T6 (276 + cl) 2 := (show Xi U21 (276 + cl) 2 = Xi U20 (276 + cl) 2 from by rw [eU21]; exact Xi_ne (by omega)).trans ( (show Xi U20 (276 + cl) 2 = Xi U19 (276 + cl) 2 from by rw [eU20]; exact Xi_ne (by omega)).trans ( (show Xi U19 (276 + cl) 2 = Xi T15 (276 + cl) 2 from by rw [eU19]; exact Xi_ne (by omega)).trans ( (show Xi T15 (276 + cl) 2 = Xi U7 (276 + cl) 2 from FR_cl w158 rfl (by omega)).trans ((show Xi U7 (276 + cl) 2 = Xi T6 (276 + cl) 2 from by rw [eU7]; exact Xi_ne (by omega))))))
                  have w183 : Xi U21 (276 + cl) 3 = Xi T6 (276 + cl) 3 := (show Xi U21 (276 + cl) 3 = Xi U20 (276 + cl) 3 from by rw [eU21]; exact Xi_ne (by omega)).trans ( (show Xi U20 (276 + cl) 3 = Xi U19 (276 + cl) 3 from by rw [eU20]; exact Xi_ne (by omega)).trans ( (show Xi U19 (276 + cl) 3 = Xi T15 (276 + cl) 3 from by rw [eU19]; exact Xi_ne (by omega)).trans ( (show Xi T15 (276 + cl) 3 = Xi U7 (276 + cl) 3 from FR_cl w158 rfl (by omega)).trans ((show Xi U7 (276 + cl) 3 = Xi T6 (276 + cl) 3 from by rw [eU7]; exact Xi_ne (by omega))))))
                  have w184 : Xi U21 (276 + cl) 4 = Xi U20 (276 + cl) 4 := (show Xi U21 (276 + cl) 4 = Xi U20 (276 + cl) 4 from by rw [eU21]; exact Xi_ne (by omega))
                  have w185 : Xi U21 876 8 = Xi T15 876 8 := (show Xi U21 876 8 = Xi U20 876 8 from by rw [eU21]; exact Xi_ne (by omega)).trans ( (show Xi U20 876 8 = Xi U19 876 8 from by rw [eU20]; exact Xi_ne (by omega)).trans ((show Xi U19 876 8 = Xi T15 876 8 from by rw [eU19]; exact Xi_ne (by omega))))
                  have w186 : 0 ≤ Xi T15 876 8 ∧ Xi T15 876 8 ≤ 9 := hHT15.c _ _
                  have w187 : Xi U21 895 4 = Xi S 895 4 := (show Xi U21 895 4 = Xi U20 895 4 from by rw [eU21]; exact Xi_ne (by omega)).trans ( (show Xi U20 895 4 = Xi U19 895 4 from by rw [eU20]; exact Xi_ne (by omega)).trans ( (show Xi U19 895 4 = Xi T15 895 4 from by rw [eU19]; exact Xi_ne (by omega)).trans ( (show Xi T15 895 4 = Xi U7 895 4 from w158.x _ _ rfl).trans ( (show Xi U7 895 4 = Xi T6 895 4 from by rw [eU7]; exact Xi_ne (by omega)).trans ((show Xi T6 895 4 = Xi S 895 4 from w87.x _ _ rfl))))))
                  exact ⟨hHU21, hFU21, _, rfl, ⟨by omega, by omega⟩, ((kcl_w eU21 (kcl_w eU20 (kcl_w eU19 (kcl_f w158 rfl (kcl_w eU7 (kcl_tr KCL.rf (by assumption : KCL S T6 cl)))))))), (fun q => by first | (exfalso; omega) | exact ts_2 (by omega) (x := Xi _ (276 + cl) 2) (by omega) (o54 (by omega)).1 (by omega) | exact ts_1 (by omega) (x := Xi _ (276 + cl) 2) (by omega) (o54 (by omega)).1 (by omega) (by omega) (by omega) t193), (fun q => by first | omega | (exfalso; omega))⟩
              · refine l_iconst rfl ?_
                refine l_ireturn rfl rfl ?_
                have w189 : Xi T15 (276 + cl) 0 = Xi S (276 + cl) 0 := (show Xi T15 (276 + cl) 0 = Xi U7 (276 + cl) 0 from FR_cl w158 rfl (by omega)).trans ( (show Xi U7 (276 + cl) 0 = Xi T6 (276 + cl) 0 from by rw [eU7]; exact Xi_ne (by omega)).trans ((show Xi T6 (276 + cl) 0 = Xi S (276 + cl) 0 from FR_clj w87 rfl (by omega))))
                have w190 : Xi T15 (276 + cl) 2 = Xi T6 (276 + cl) 2 := (show Xi T15 (276 + cl) 2 = Xi U7 (276 + cl) 2 from FR_cl w158 rfl (by omega)).trans ((show Xi U7 (276 + cl) 2 = Xi T6 (276 + cl) 2 from by rw [eU7]; exact Xi_ne (by omega)))
                have w191 : Xi T15 (276 + cl) 3 = Xi T6 (276 + cl) 3 := (show Xi T15 (276 + cl) 3 = Xi U7 (276 + cl) 3 from FR_cl w158 rfl (by omega)).trans ((show Xi U7 (276 + cl) 3 = Xi T6 (276 + cl) 3 from by rw [eU7]; exact Xi_ne (by omega)))
                have w192 : Xi T15 (276 + cl) 4 = Xi S (276 + cl) 4 := (show Xi T15 (276 + cl) 4 = Xi U7 (276 + cl) 4 from FR_cl w158 rfl (by omega)).trans ( (show Xi U7 (276 + cl) 4 = Xi T6 (276 + cl) 4 from by rw [eU7]; exact Xi_ne (by omega)).trans ((show Xi T6 (276 + cl) 4 = Xi S (276 + cl) 4 from FR_clj w87 rfl (by omega))))
                have w193 : Xi T15 (276 + cl) 5 = Xi S (276 + cl) 5 := (show Xi T15 (276 + cl) 5 = Xi U7 (276 + cl) 5 from FR_cl w158 rfl (by omega)).trans ( (show Xi U7 (276 + cl) 5 = Xi T6 (276 + cl) 5 from by rw [eU7]; exact Xi_ne (by omega)).trans ((show Xi T6 (276 + cl) 5 = Xi S (276 + cl) 5 from FR_clj w87 rfl (by omega))))
                have w194 : 0 ≤ Xi T15 876 8 ∧ Xi T15 876 8 ≤ 9 := hHT15.c _ _
                have w195 : Xi T15 895 4 = Xi S 895 4 := (show Xi T15 895 4 = Xi U7 895 4 from w158.x _ _ rfl).trans ( (show Xi U7 895 4 = Xi T6 895 4 from by rw [eU7]; exact Xi_ne (by omega)).trans ((show Xi T6 895 4 = Xi S 895 4 from w87.x _ _ rfl)))
                exact ⟨hHT15, hFT15, _, rfl, ⟨by omega, by omega⟩, ((kcl_f w158 rfl (kcl_w eU7 (kcl_tr KCL.rf (by assumption : KCL S T6 cl))))), (fun q => by first | (exfalso; omega) | exact ts_2 (by omega) (x := Xi _ (276 + cl) 2) (by omega) (o54 (by omega)).1 (by omega) | exact ts_1 (by omega) (x := Xi _ (276 + cl) 2) (by omega) (o54 (by omega)).1 (by omega) (by omega) (by omega) t193), (fun q => by first | omega | (exfalso; omega))⟩
          · refine l_iconst rfl ?_
            refine l_goto rfl rfl ?_
            refine l_pfz rfl rfl (layClW (by omega) rfl) rfl (by omega) ?_
            obtain ⟨U22, eU22⟩ : ∃ T : sS, T = uI T6 (276 + cl) 1 (Int32.ofInt 1) := ⟨_, rfl⟩
            rw [← eU22]
            have hHU22 : HI U22 := by rw [eU22]; exact HI_w hHT6 (by rw [lh_cl1 (by omega)]; omega) (by rw [lh_cl1 (by omega)]; omega)
            have hFU22 : FR md_rr_propertyTest S U22 := by rw [eU22]; exact FR.wI hFT6 (mdf_i (r := (276, 876, 1, 2)) (List.mem_of_getElem? (i := 1) rfl) (inR_i (by omega) (by omega) (by omega) (by omega)))
            have w197 : Xi U22 (276 + cl) 1 = 1 := by rw [eU22]; exact Xi_same (by unfold rg; omega)
            refine l_aload_n rfl rfl ?_
            refine l_gfr rfl rfl rfl rfl rfl (hHU22.r 899 2 895 rfl) ?_
            refine l_aload_n rfl rfl ?_
            refine l_gfi rfl rfl rfl (layCl (by omega)) rfl ?_
            refine l_if_eq rfl rfl (by unfold rg; omega) (fun w198 => ?_) (fun w199 => ?_)
            · refine l_iload_n rfl rfl ?_
              refine l_iconst rfl ?_
              refine l_iadd rfl ?_
              refine l_iload rfl rfl ?_
              have w200 : Xi U22 (276 + cl) 0 = Xi S (276 + cl) 0 := (show Xi U22 (276 + cl) 0 = Xi T6 (276 + cl) 0 from by rw [eU22]; exact Xi_ne (by omega)).trans ((show Xi T6 (276 + cl) 0 = Xi S (276 + cl) 0 from FR_clj w87 rfl (by omega)))
              have w201 : Xi U22 (276 + cl) 2 = Xi T6 (276 + cl) 2 := (show Xi U22 (276 + cl) 2 = Xi T6 (276 + cl) 2 from by rw [eU22]; exact Xi_ne (by omega))
              have w202 : Xi U22 (276 + cl) 3 = Xi T6 (276 + cl) 3 := (show Xi U22 (276 + cl) 3 = Xi T6 (276 + cl) 3 from by rw [eU22]; exact Xi_ne (by omega))
              have w203 : Xi U22 (276 + cl) 4 = Xi S (276 + cl) 4 := (show Xi U22 (276 + cl) 4 = Xi T6 (276 + cl) 4 from by rw [eU22]; exact Xi_ne (by omega)).trans ((show Xi T6 (276 + cl) 4 = Xi S (276 + cl) 4 from FR_clj w87 rfl (by omega)))
              have w204 : Xi U22 (276 + cl) 5 = Xi S (276 + cl) 5 := (show Xi U22 (276 + cl) 5 = Xi T6 (276 + cl) 5 from by rw [eU22]; exact Xi_ne (by omega)).trans ((show Xi T6 (276 + cl) 5 = Xi S (276 + cl) 5 from FR_clj w87 rfl (by omega)))
              refine l_callV rfl rfl rfl (t_me_readWhat hHU22 (is_ + 1) (Xi T6 9 (((Xi T6 (276 + cl) 3)).toNat)) ⟨by omega, by omega⟩ ⟨by omega, by omega⟩ (by first | assumption | exact (LEX_FR hFU22 rfl rfl (by assumption : LEX S))) (by first | assumption | exact (TOK_FR hFU22 rfl rfl rfl (by assumption : TOK S))) (by first | assumption | exact (SRX_FR hFU22 rfl (by assumption : SRX S))) _) ?_
              rintro _ T23 ⟨hHT23, w210, z209, rfl, w209, w207, w208⟩
              have hFT23 : FR md_rr_propertyTest S T23 := FR.tr hFU22 w210 rfl
              show Rl _ _ _ _ _ [iv z209] _ _
              have t151 : z209 = 1 → TXT T23 (Xi T23 895 10) (Xi T23 895 11) := by assumption
              refine l_if_ne rfl rfl (by unfold rg; omega) (fun w211 => ?_) (fun w212 => ?_)
              · refine l_aload_n rfl rfl ?_
                refine l_iload rfl rfl ?_
                refine l_iconst rfl ?_
                refine l_icmp_ne rfl rfl (by unfold rg; omega) (by unfold rg; omega) (fun w213 => ?_) (fun w214 => ?_)
                · refine l_iconst rfl ?_
                  refine l_pfi rfl rfl (layClW (by omega) rfl) rfl ?_
                  obtain ⟨U24, eU24⟩ : ∃ T : sS, T = uI T23 (276 + cl) 0 (Int32.ofInt 1) := ⟨_, rfl⟩
                  rw [← eU24]
                  have hHU24 : HI U24 := by rw [eU24]; exact HI_w hHT23 (by rw [lh_cl0 (by omega)]; omega) (by rw [lh_cl0 (by omega)]; omega)
                  have hFU24 : FR md_rr_propertyTest S U24 := by rw [eU24]; exact FR.wI hFT23 (mdf_i (r := (276, 876, 0, 1)) (List.mem_of_getElem? (i := 0) rfl) (inR_i (by omega) (by omega) (by omega) (by omega)))
                  have w215 : Xi U24 (276 + cl) 0 = 1 := by rw [eU24]; exact Xi_same (by unfold rg; omega)
                  have t171 : TXT U24 (Xi T23 895 10) (Xi T23 895 11) := TXT_eq (by rw [eU24]; rfl) (t151 (by omega))
                  have y1710 : Xi U24 895 10 = Xi T23 895 10 := by rw [eU24, Xi_ne (by omega)]
                  have y1711 : Xi U24 895 11 = Xi T23 895 11 := by rw [eU24, Xi_ne (by omega)]
                  refine l_aload_n rfl rfl ?_
                  refine l_aload_n rfl rfl ?_
                  refine l_gfr rfl rfl rfl rfl rfl (hHU24.r 899 2 895 rfl) ?_
                  refine l_gfi rfl rfl rfl rfl rfl ?_
                  have w216 : -2147483648 ≤ (Xi U24 895 10) ∧ (Xi U24 895 10) ≤ 2147483647 := Xi_rgI
                  refine l_pfi rfl rfl (layClW (by omega) rfl) rfl ?_
                  obtain ⟨U25, eU25⟩ : ∃ T : sS, T = uI U24 (276 + cl) 4 (Int32.ofInt (Xi U24 895 10)) := ⟨_, rfl⟩
                  rw [← eU25]
                  have hHU25 : HI U25 := by rw [eU25]; exact HI_any hHU24 (lh_cl4 (by omega))
                  have hFU25 : FR md_rr_propertyTest S U25 := by rw [eU25]; exact FR.wI hFU24 (mdf_i (r := (276, 876, 4, 5)) (List.mem_of_getElem? (i := 4) rfl) (inR_i (by omega) (by omega) (by omega) (by omega)))
                  have w217 : Xi U25 (276 + cl) 4 = (Xi U24 895 10) := by rw [eU25]; exact Xi_same (by unfold rg; omega)
                  have t182 : TXT U25 _ _ := TXT_eq (by rw [eU25]; rfl) t171
                  have y1821 : Xi U25 895 11 = Xi U24 895 11 := by rw [eU25, Xi_ne (by omega)]
                  refine l_aload_n rfl rfl ?_
                  refine l_aload_n rfl rfl ?_
                  refine l_gfr rfl rfl rfl rfl rfl (hHU25.r 899 2 895 rfl) ?_
                  refine l_gfi rfl rfl rfl rfl rfl ?_
                  have w218 : -2147483648 ≤ (Xi U25 895 11) ∧ (Xi U25 895 11) ≤ 2147483647 := Xi_rgI
                  refine l_pfi rfl rfl (layClW (by omega) rfl) rfl ?_
                  obtain ⟨U26, eU26⟩ : ∃ T : sS, T = uI U25 (276 + cl) 5 (Int32.ofInt (Xi U25 895 11)) := ⟨_, rfl⟩
                  rw [← eU26]
                  have hHU26 : HI U26 := by rw [eU26]; exact HI_any hHU25 (lh_cl5 (by omega))
                  have hFU26 : FR md_rr_propertyTest S U26 := by rw [eU26]; exact FR.wI hFU25 (mdf_i (r := (276, 876, 5, 6)) (List.mem_of_getElem? (i := 5) rfl) (inR_i (by omega) (by omega) (by omega) (by omega)))
                  have w219 : Xi U26 (276 + cl) 5 = (Xi U25 895 11) := by rw [eU26]; exact Xi_same (by unfold rg; omega)
                  have t193 : TXT U26 _ _ := TXT_eq (by rw [eU26]; rfl) t182
                  refine l_iconst rfl ?_
                  refine l_ireturn rfl rfl ?_
                  have w220 : Xi U26 (276 + cl) 0 = Xi U24 (276 + cl) 0 := (show Xi U26 (276 + cl) 0 = Xi U25 (276 + cl) 0 from by rw [eU26]; exact Xi_ne (by omega)).trans ((show Xi U25 (276 + cl) 0 = Xi U24 (276 + cl) 0 from by rw [eU25]; exact Xi_ne (by omega)))
                  have w221 : Xi U26 (276 + cl) 2 = Xi T6 (276 + cl) 2 := (show Xi U26 (276 + cl) 2 = Xi U25 (276 + cl) 2 from by rw [eU26]; exact Xi_ne (by omega)).trans ( (show Xi U25 (276 + cl) 2 = Xi U24 (276 + cl) 2 from by rw [eU25]; exact Xi_ne (by omega)).trans ( (show Xi U24 (276 + cl) 2 = Xi T23 (276 + cl) 2 from by rw [eU24]; exact Xi_ne (by omega)).trans ( (show Xi T23 (276 + cl) 2 = Xi U22 (276 + cl) 2 from FR_cl w210 rfl (by omega)).trans ((show Xi U22 (276 + cl) 2 = Xi T6 (276 + cl) 2 from by rw [eU22]; exact Xi_ne (by omega))))))
                  have w222 : Xi U26 (276 + cl) 3 = Xi T6 (276 + cl) 3 := (show Xi U26 (276 + cl) 3 = Xi U25 (276 + cl) 3 from by rw [eU26]; exact Xi_ne (by omega)).trans ( (show Xi U25 (276 + cl) 3 = Xi U24 (276 + cl) 3 from by rw [eU25]; exact Xi_ne (by omega)).trans ( (show Xi U24 (276 + cl) 3 = Xi T23 (276 + cl) 3 from by rw [eU24]; exact Xi_ne (by omega)).trans ( (show Xi T23 (276 + cl) 3 = Xi U22 (276 + cl) 3 from FR_cl w210 rfl (by omega)).trans ((show Xi U22 (276 + cl) 3 = Xi T6 (276 + cl) 3 from by rw [eU22]; exact Xi_ne (by omega))))))
                  have w223 : Xi U26 (276 + cl) 4 = Xi U25 (276 + cl) 4 := (show Xi U26 (276 + cl) 4 = Xi U25 (276 + cl) 4 from by rw [eU26]; exact Xi_ne (by omega))
                  have w224 : Xi U26 876 8 = Xi T23 876 8 := (show Xi U26 876 8 = Xi U25 876 8 from by rw [eU26]; exact Xi_ne (by omega)).trans ( (show Xi U25 876 8 = Xi U24 876 8 from by rw [eU25]; exact Xi_ne (by omega)).trans ((show Xi U24 876 8 = Xi T23 876 8 from by rw [eU24]; exact Xi_ne (by omega))))
                  have w225 : 0 ≤ Xi T23 876 8 ∧ Xi T23 876 8 ≤ 9 := hHT23.c _ _
                  have w226 : Xi U26 895 4 = Xi S 895 4 := (show Xi U26 895 4 = Xi U25 895 4 from by rw [eU26]; exact Xi_ne (by omega)).trans ( (show Xi U25 895 4 = Xi U24 895 4 from by rw [eU25]; exact Xi_ne (by omega)).trans ( (show Xi U24 895 4 = Xi T23 895 4 from by rw [eU24]; exact Xi_ne (by omega)).trans ( (show Xi T23 895 4 = Xi U22 895 4 from w210.x _ _ rfl).trans ( (show Xi U22 895 4 = Xi T6 895 4 from by rw [eU22]; exact Xi_ne (by omega)).trans ((show Xi T6 895 4 = Xi S 895 4 from w87.x _ _ rfl))))))
                  exact ⟨hHU26, hFU26, _, rfl, ⟨by omega, by omega⟩, ((kcl_w eU26 (kcl_w eU25 (kcl_w eU24 (kcl_f w210 rfl (kcl_w eU22 (kcl_tr KCL.rf (by assumption : KCL S T6 cl)))))))), (fun q => by first | (exfalso; omega) | exact ts_2 (by omega) (x := Xi _ (276 + cl) 2) (by omega) (o54 (by omega)).1 (by omega) | exact ts_1 (by omega) (x := Xi _ (276 + cl) 2) (by omega) (o54 (by omega)).1 (by omega) (by omega) (by omega) t193), (fun q => by first | omega | (exfalso; omega))⟩
                · refine l_iconst rfl ?_
                  refine l_goto rfl rfl ?_
                  refine l_pfi rfl rfl (layClW (by omega) rfl) rfl ?_
                  obtain ⟨U27, eU27⟩ : ∃ T : sS, T = uI T23 (276 + cl) 0 (Int32.ofInt 4) := ⟨_, rfl⟩
                  rw [← eU27]
                  have hHU27 : HI U27 := by rw [eU27]; exact HI_w hHT23 (by rw [lh_cl0 (by omega)]; omega) (by rw [lh_cl0 (by omega)]; omega)
                  have hFU27 : FR md_rr_propertyTest S U27 := by rw [eU27]; exact FR.wI hFT23 (mdf_i (r := (276, 876, 0, 1)) (List.mem_of_getElem? (i := 0) rfl) (inR_i (by omega) (by omega) (by omega) (by omega)))
                  have w228 : Xi U27 (276 + cl) 0 = 4 := by rw [eU27]; exact Xi_same (by unfold rg; omega)
                  have t171 : TXT U27 (Xi T23 895 10) (Xi T23 895 11) := TXT_eq (by rw [eU27]; rfl) (t151 (by omega))
                  have y1710 : Xi U27 895 10 = Xi T23 895 10 := by rw [eU27, Xi_ne (by omega)]
                  have y1711 : Xi U27 895 11 = Xi T23 895 11 := by rw [eU27, Xi_ne (by omega)]
                  refine l_aload_n rfl rfl ?_
                  refine l_aload_n rfl rfl ?_
                  refine l_gfr rfl rfl rfl rfl rfl (hHU27.r 899 2 895 rfl) ?_
                  refine l_gfi rfl rfl rfl rfl rfl ?_
                  have w229 : -2147483648 ≤ (Xi U27 895 10) ∧ (Xi U27 895 10) ≤ 2147483647 := Xi_rgI
                  refine l_pfi rfl rfl (layClW (by omega) rfl) rfl ?_
                  obtain ⟨U28, eU28⟩ : ∃ T : sS, T = uI U27 (276 + cl) 4 (Int32.ofInt (Xi U27 895 10)) := ⟨_, rfl⟩
                  rw [← eU28]
                  have hHU28 : HI U28 := by rw [eU28]; exact HI_any hHU27 (lh_cl4 (by omega))
                  have hFU28 : FR md_rr_propertyTest S U28 := by rw [eU28]; exact FR.wI hFU27 (mdf_i (r := (276, 876, 4, 5)) (List.mem_of_getElem? (i := 4) rfl) (inR_i (by omega) (by omega) (by omega) (by omega)))
                  have w230 : Xi U28 (276 + cl) 4 = (Xi U27 895 10) := by rw [eU28]; exact Xi_same (by unfold rg; omega)
                  have t182 : TXT U28 _ _ := TXT_eq (by rw [eU28]; rfl) t171
                  have y1821 : Xi U28 895 11 = Xi U27 895 11 := by rw [eU28, Xi_ne (by omega)]
                  refine l_aload_n rfl rfl ?_
                  refine l_aload_n rfl rfl ?_
                  refine l_gfr rfl rfl rfl rfl rfl (hHU28.r 899 2 895 rfl) ?_
                  refine l_gfi rfl rfl rfl rfl rfl ?_
                  have w231 : -2147483648 ≤ (Xi U28 895 11) ∧ (Xi U28 895 11) ≤ 2147483647 := Xi_rgI
                  refine l_pfi rfl rfl (layClW (by omega) rfl) rfl ?_
                  obtain ⟨U29, eU29⟩ : ∃ T : sS, T = uI U28 (276 + cl) 5 (Int32.ofInt (Xi U28 895 11)) := ⟨_, rfl⟩
                  rw [← eU29]
                  have hHU29 : HI U29 := by rw [eU29]; exact HI_any hHU28 (lh_cl5 (by omega))
                  have hFU29 : FR md_rr_propertyTest S U29 := by rw [eU29]; exact FR.wI hFU28 (mdf_i (r := (276, 876, 5, 6)) (List.mem_of_getElem? (i := 5) rfl) (inR_i (by omega) (by omega) (by omega) (by omega)))
                  have w232 : Xi U29 (276 + cl) 5 = (Xi U28 895 11) := by rw [eU29]; exact Xi_same (by unfold rg; omega)
                  have t193 : TXT U29 _ _ := TXT_eq (by rw [eU29]; rfl) t182
                  refine l_iconst rfl ?_
                  refine l_ireturn rfl rfl ?_
                  have w233 : Xi U29 (276 + cl) 0 = Xi U27 (276 + cl) 0 := (show Xi U29 (276 + cl) 0 = Xi U28 (276 + cl) 0 from by rw [eU29]; exact Xi_ne (by omega)).trans ((show Xi U28 (276 + cl) 0 = Xi U27 (276 + cl) 0 from by rw [eU28]; exact Xi_ne (by omega)))
                  have w234 : Xi U29 (276 + cl) 2 = Xi T6 (276 + cl) 2 := (show Xi U29 (276 + cl) 2 = Xi U28 (276 + cl) 2 from by rw [eU29]; exact Xi_ne (by omega)).trans ( (show Xi U28 (276 + cl) 2 = Xi U27 (276 + cl) 2 from by rw [eU28]; exact Xi_ne (by omega)).trans ( (show Xi U27 (276 + cl) 2 = Xi T23 (276 + cl) 2 from by rw [eU27]; exact Xi_ne (by omega)).trans ( (show Xi T23 (276 + cl) 2 = Xi U22 (276 + cl) 2 from FR_cl w210 rfl (by omega)).trans ((show Xi U22 (276 + cl) 2 = Xi T6 (276 + cl) 2 from by rw [eU22]; exact Xi_ne (by omega))))))
                  have w235 : Xi U29 (276 + cl) 3 = Xi T6 (276 + cl) 3 := (show Xi U29 (276 + cl) 3 = Xi U28 (276 + cl) 3 from by rw [eU29]; exact Xi_ne (by omega)).trans ( (show Xi U28 (276 + cl) 3 = Xi U27 (276 + cl) 3 from by rw [eU28]; exact Xi_ne (by omega)).trans ( (show Xi U27 (276 + cl) 3 = Xi T23 (276 + cl) 3 from by rw [eU27]; exact Xi_ne (by omega)).trans ( (show Xi T23 (276 + cl) 3 = Xi U22 (276 + cl) 3 from FR_cl w210 rfl (by omega)).trans ((show Xi U22 (276 + cl) 3 = Xi T6 (276 + cl) 3 from by rw [eU22]; exact Xi_ne (by omega))))))
                  have w236 : Xi U29 (276 + cl) 4 = Xi U28 (276 + cl) 4 := (show Xi U29 (276 + cl) 4 = Xi U28 (276 + cl) 4 from by rw [eU29]; exact Xi_ne (by omega))
                  have w237 : Xi U29 876 8 = Xi T23 876 8 := (show Xi U29 876 8 = Xi U28 876 8 from by rw [eU29]; exact Xi_ne (by omega)).trans ( (show Xi U28 876 8 = Xi U27 876 8 from by rw [eU28]; exact Xi_ne (by omega)).trans ((show Xi U27 876 8 = Xi T23 876 8 from by rw [eU27]; exact Xi_ne (by omega))))
                  have w238 : 0 ≤ Xi T23 876 8 ∧ Xi T23 876 8 ≤ 9 := hHT23.c _ _
                  have w239 : Xi U29 895 4 = Xi S 895 4 := (show Xi U29 895 4 = Xi U28 895 4 from by rw [eU29]; exact Xi_ne (by omega)).trans ( (show Xi U28 895 4 = Xi U27 895 4 from by rw [eU28]; exact Xi_ne (by omega)).trans ( (show Xi U27 895 4 = Xi T23 895 4 from by rw [eU27]; exact Xi_ne (by omega)).trans ( (show Xi T23 895 4 = Xi U22 895 4 from w210.x _ _ rfl).trans ( (show Xi U22 895 4 = Xi T6 895 4 from by rw [eU22]; exact Xi_ne (by omega)).trans ((show Xi T6 895 4 = Xi S 895 4 from w87.x _ _ rfl))))))
                  exact ⟨hHU29, hFU29, _, rfl, ⟨by omega, by omega⟩, ((kcl_w eU29 (kcl_w eU28 (kcl_w eU27 (kcl_f w210 rfl (kcl_w eU22 (kcl_tr KCL.rf (by assumption : KCL S T6 cl)))))))), (fun q => by first | (exfalso; omega) | exact ts_2 (by omega) (x := Xi _ (276 + cl) 2) (by omega) (o54 (by omega)).1 (by omega) | exact ts_1 (by omega) (x := Xi _ (276 + cl) 2) (by omega) (o54 (by omega)).1 (by omega) (by omega) (by omega) t193), (fun q => by first | omega | (exfalso; omega))⟩
              · refine l_iconst rfl ?_
                refine l_ireturn rfl rfl ?_
                have w241 : Xi T23 (276 + cl) 0 = Xi S (276 + cl) 0 := (show Xi T23 (276 + cl) 0 = Xi U22 (276 + cl) 0 from FR_cl w210 rfl (by omega)).trans ( (show Xi U22 (276 + cl) 0 = Xi T6 (276 + cl) 0 from by rw [eU22]; exact Xi_ne (by omega)).trans ((show Xi T6 (276 + cl) 0 = Xi S (276 + cl) 0 from FR_clj w87 rfl (by omega))))
                have w242 : Xi T23 (276 + cl) 2 = Xi T6 (276 + cl) 2 := (show Xi T23 (276 + cl) 2 = Xi U22 (276 + cl) 2 from FR_cl w210 rfl (by omega)).trans ((show Xi U22 (276 + cl) 2 = Xi T6 (276 + cl) 2 from by rw [eU22]; exact Xi_ne (by omega)))
                have w243 : Xi T23 (276 + cl) 3 = Xi T6 (276 + cl) 3 := (show Xi T23 (276 + cl) 3 = Xi U22 (276 + cl) 3 from FR_cl w210 rfl (by omega)).trans ((show Xi U22 (276 + cl) 3 = Xi T6 (276 + cl) 3 from by rw [eU22]; exact Xi_ne (by omega)))
                have w244 : Xi T23 (276 + cl) 4 = Xi S (276 + cl) 4 := (show Xi T23 (276 + cl) 4 = Xi U22 (276 + cl) 4 from FR_cl w210 rfl (by omega)).trans ( (show Xi U22 (276 + cl) 4 = Xi T6 (276 + cl) 4 from by rw [eU22]; exact Xi_ne (by omega)).trans ((show Xi T6 (276 + cl) 4 = Xi S (276 + cl) 4 from FR_clj w87 rfl (by omega))))
                have w245 : Xi T23 (276 + cl) 5 = Xi S (276 + cl) 5 := (show Xi T23 (276 + cl) 5 = Xi U22 (276 + cl) 5 from FR_cl w210 rfl (by omega)).trans ( (show Xi U22 (276 + cl) 5 = Xi T6 (276 + cl) 5 from by rw [eU22]; exact Xi_ne (by omega)).trans ((show Xi T6 (276 + cl) 5 = Xi S (276 + cl) 5 from FR_clj w87 rfl (by omega))))
                have w246 : 0 ≤ Xi T23 876 8 ∧ Xi T23 876 8 ≤ 9 := hHT23.c _ _
                have w247 : Xi T23 895 4 = Xi S 895 4 := (show Xi T23 895 4 = Xi U22 895 4 from w210.x _ _ rfl).trans ( (show Xi U22 895 4 = Xi T6 895 4 from by rw [eU22]; exact Xi_ne (by omega)).trans ((show Xi T6 895 4 = Xi S 895 4 from w87.x _ _ rfl)))
                exact ⟨hHT23, hFT23, _, rfl, ⟨by omega, by omega⟩, ((kcl_f w210 rfl (kcl_w eU22 (kcl_tr KCL.rf (by assumption : KCL S T6 cl))))), (fun q => by first | (exfalso; omega) | exact ts_2 (by omega) (x := Xi _ (276 + cl) 2) (by omega) (o54 (by omega)).1 (by omega) | exact ts_1 (by omega) (x := Xi _ (276 + cl) 2) (by omega) (o54 (by omega)).1 (by omega) (by omega) (by omega) t193), (fun q => by first | omega | (exfalso; omega))⟩
            · refine l_iload_n rfl rfl ?_
              refine l_iconst rfl ?_
              refine l_iadd rfl ?_
              refine l_goto rfl rfl ?_
              refine l_iload rfl rfl ?_
              have w249 : Xi U22 (276 + cl) 0 = Xi S (276 + cl) 0 := (show Xi U22 (276 + cl) 0 = Xi T6 (276 + cl) 0 from by rw [eU22]; exact Xi_ne (by omega)).trans ((show Xi T6 (276 + cl) 0 = Xi S (276 + cl) 0 from FR_clj w87 rfl (by omega)))
              have w250 : Xi U22 (276 + cl) 2 = Xi T6 (276 + cl) 2 := (show Xi U22 (276 + cl) 2 = Xi T6 (276 + cl) 2 from by rw [eU22]; exact Xi_ne (by omega))
              have w251 : Xi U22 (276 + cl) 3 = Xi T6 (276 + cl) 3 := (show Xi U22 (276 + cl) 3 = Xi T6 (276 + cl) 3 from by rw [eU22]; exact Xi_ne (by omega))
              have w252 : Xi U22 (276 + cl) 4 = Xi S (276 + cl) 4 := (show Xi U22 (276 + cl) 4 = Xi T6 (276 + cl) 4 from by rw [eU22]; exact Xi_ne (by omega)).trans ((show Xi T6 (276 + cl) 4 = Xi S (276 + cl) 4 from FR_clj w87 rfl (by omega)))
              have w253 : Xi U22 (276 + cl) 5 = Xi S (276 + cl) 5 := (show Xi U22 (276 + cl) 5 = Xi T6 (276 + cl) 5 from by rw [eU22]; exact Xi_ne (by omega)).trans ((show Xi T6 (276 + cl) 5 = Xi S (276 + cl) 5 from FR_clj w87 rfl (by omega)))
              refine l_callV rfl rfl rfl (t_me_readWhat hHU22 (is_ + 2) (Xi T6 9 (((Xi T6 (276 + cl) 3)).toNat)) ⟨by omega, by omega⟩ ⟨by omega, by omega⟩ (by first | assumption | exact (LEX_FR hFU22 rfl rfl (by assumption : LEX S))) (by first | assumption | exact (TOK_FR hFU22 rfl rfl rfl (by assumption : TOK S))) (by first | assumption | exact (SRX_FR hFU22 rfl (by assumption : SRX S))) _) ?_
              rintro _ T30 ⟨hHT30, w259, z258, rfl, w258, w256, w257⟩
              have hFT30 : FR md_rr_propertyTest S T30 := FR.tr hFU22 w259 rfl
              show Rl _ _ _ _ _ [iv z258] _ _
              have t151 : z258 = 1 → TXT T30 (Xi T30 895 10) (Xi T30 895 11) := by assumption
              refine l_if_ne rfl rfl (by unfold rg; omega) (fun w260 => ?_) (fun w261 => ?_)
              · refine l_aload_n rfl rfl ?_
                refine l_iload rfl rfl ?_
                refine l_iconst rfl ?_
                refine l_icmp_ne rfl rfl (by unfold rg; omega) (by unfold rg; omega) (fun w262 => ?_) (fun w263 => ?_)
                · refine l_iconst rfl ?_
                  refine l_pfi rfl rfl (layClW (by omega) rfl) rfl ?_
                  obtain ⟨U31, eU31⟩ : ∃ T : sS, T = uI T30 (276 + cl) 0 (Int32.ofInt 1) := ⟨_, rfl⟩
                  rw [← eU31]
                  have hHU31 : HI U31 := by rw [eU31]; exact HI_w hHT30 (by rw [lh_cl0 (by omega)]; omega) (by rw [lh_cl0 (by omega)]; omega)
                  have hFU31 : FR md_rr_propertyTest S U31 := by rw [eU31]; exact FR.wI hFT30 (mdf_i (r := (276, 876, 0, 1)) (List.mem_of_getElem? (i := 0) rfl) (inR_i (by omega) (by omega) (by omega) (by omega)))
                  have w264 : Xi U31 (276 + cl) 0 = 1 := by rw [eU31]; exact Xi_same (by unfold rg; omega)
                  have t171 : TXT U31 (Xi T30 895 10) (Xi T30 895 11) := TXT_eq (by rw [eU31]; rfl) (t151 (by omega))
                  have y1710 : Xi U31 895 10 = Xi T30 895 10 := by rw [eU31, Xi_ne (by omega)]
                  have y1711 : Xi U31 895 11 = Xi T30 895 11 := by rw [eU31, Xi_ne (by omega)]
                  refine l_aload_n rfl rfl ?_
                  refine l_aload_n rfl rfl ?_
                  refine l_gfr rfl rfl rfl rfl rfl (hHU31.r 899 2 895 rfl) ?_
                  refine l_gfi rfl rfl rfl rfl rfl ?_
                  have w265 : -2147483648 ≤ (Xi U31 895 10) ∧ (Xi U31 895 10) ≤ 2147483647 := Xi_rgI
                  refine l_pfi rfl rfl (layClW (by omega) rfl) rfl ?_
                  obtain ⟨U32, eU32⟩ : ∃ T : sS, T = uI U31 (276 + cl) 4 (Int32.ofInt (Xi U31 895 10)) := ⟨_, rfl⟩
                  rw [← eU32]
                  have hHU32 : HI U32 := by rw [eU32]; exact HI_any hHU31 (lh_cl4 (by omega))
                  have hFU32 : FR md_rr_propertyTest S U32 := by rw [eU32]; exact FR.wI hFU31 (mdf_i (r := (276, 876, 4, 5)) (List.mem_of_getElem? (i := 4) rfl) (inR_i (by omega) (by omega) (by omega) (by omega)))
                  have w266 : Xi U32 (276 + cl) 4 = (Xi U31 895 10) := by rw [eU32]; exact Xi_same (by unfold rg; omega)
                  have t182 : TXT U32 _ _ := TXT_eq (by rw [eU32]; rfl) t171
                  have y1821 : Xi U32 895 11 = Xi U31 895 11 := by rw [eU32, Xi_ne (by omega)]
                  refine l_aload_n rfl rfl ?_
                  refine l_aload_n rfl rfl ?_
                  refine l_gfr rfl rfl rfl rfl rfl (hHU32.r 899 2 895 rfl) ?_
                  refine l_gfi rfl rfl rfl rfl rfl ?_
                  have w267 : -2147483648 ≤ (Xi U32 895 11) ∧ (Xi U32 895 11) ≤ 2147483647 := Xi_rgI
                  refine l_pfi rfl rfl (layClW (by omega) rfl) rfl ?_
                  obtain ⟨U33, eU33⟩ : ∃ T : sS, T = uI U32 (276 + cl) 5 (Int32.ofInt (Xi U32 895 11)) := ⟨_, rfl⟩
                  rw [← eU33]
                  have hHU33 : HI U33 := by rw [eU33]; exact HI_any hHU32 (lh_cl5 (by omega))
                  have hFU33 : FR md_rr_propertyTest S U33 := by rw [eU33]; exact FR.wI hFU32 (mdf_i (r := (276, 876, 5, 6)) (List.mem_of_getElem? (i := 5) rfl) (inR_i (by omega) (by omega) (by omega) (by omega)))
                  have w268 : Xi U33 (276 + cl) 5 = (Xi U32 895 11) := by rw [eU33]; exact Xi_same (by unfold rg; omega)
                  have t193 : TXT U33 _ _ := TXT_eq (by rw [eU33]; rfl) t182
                  refine l_iconst rfl ?_
                  refine l_ireturn rfl rfl ?_
                  have w269 : Xi U33 (276 + cl) 0 = Xi U31 (276 + cl) 0 := (show Xi U33 (276 + cl) 0 = Xi U32 (276 + cl) 0 from by rw [eU33]; exact Xi_ne (by omega)).trans ((show Xi U32 (276 + cl) 0 = Xi U31 (276 + cl) 0 from by rw [eU32]; exact Xi_ne (by omega)))
                  have w270 : Xi U33 (276 + cl) 2 = Xi T6 (276 + cl) 2 := (show Xi U33 (276 + cl) 2 = Xi U32 (276 + cl) 2 from by rw [eU33]; exact Xi_ne (by omega)).trans ( (show Xi U32 (276 + cl) 2 = Xi U31 (276 + cl) 2 from by rw [eU32]; exact Xi_ne (by omega)).trans ( (show Xi U31 (276 + cl) 2 = Xi T30 (276 + cl) 2 from by rw [eU31]; exact Xi_ne (by omega)).trans ( (show Xi T30 (276 + cl) 2 = Xi U22 (276 + cl) 2 from FR_cl w259 rfl (by omega)).trans ((show Xi U22 (276 + cl) 2 = Xi T6 (276 + cl) 2 from by rw [eU22]; exact Xi_ne (by omega))))))
                  have w271 : Xi U33 (276 + cl) 3 = Xi T6 (276 + cl) 3 := (show Xi U33 (276 + cl) 3 = Xi U32 (276 + cl) 3 from by rw [eU33]; exact Xi_ne (by omega)).trans ( (show Xi U32 (276 + cl) 3 = Xi U31 (276 + cl) 3 from by rw [eU32]; exact Xi_ne (by omega)).trans ( (show Xi U31 (276 + cl) 3 = Xi T30 (276 + cl) 3 from by rw [eU31]; exact Xi_ne (by omega)).trans ( (show Xi T30 (276 + cl) 3 = Xi U22 (276 + cl) 3 from FR_cl w259 rfl (by omega)).trans ((show Xi U22 (276 + cl) 3 = Xi T6 (276 + cl) 3 from by rw [eU22]; exact Xi_ne (by omega))))))
                  have w272 : Xi U33 (276 + cl) 4 = Xi U32 (276 + cl) 4 := (show Xi U33 (276 + cl) 4 = Xi U32 (276 + cl) 4 from by rw [eU33]; exact Xi_ne (by omega))
                  have w273 : Xi U33 876 8 = Xi T30 876 8 := (show Xi U33 876 8 = Xi U32 876 8 from by rw [eU33]; exact Xi_ne (by omega)).trans ( (show Xi U32 876 8 = Xi U31 876 8 from by rw [eU32]; exact Xi_ne (by omega)).trans ((show Xi U31 876 8 = Xi T30 876 8 from by rw [eU31]; exact Xi_ne (by omega))))
                  have w274 : 0 ≤ Xi T30 876 8 ∧ Xi T30 876 8 ≤ 9 := hHT30.c _ _
                  have w275 : Xi U33 895 4 = Xi S 895 4 := (show Xi U33 895 4 = Xi U32 895 4 from by rw [eU33]; exact Xi_ne (by omega)).trans ( (show Xi U32 895 4 = Xi U31 895 4 from by rw [eU32]; exact Xi_ne (by omega)).trans ( (show Xi U31 895 4 = Xi T30 895 4 from by rw [eU31]; exact Xi_ne (by omega)).trans ( (show Xi T30 895 4 = Xi U22 895 4 from w259.x _ _ rfl).trans ( (show Xi U22 895 4 = Xi T6 895 4 from by rw [eU22]; exact Xi_ne (by omega)).trans ((show Xi T6 895 4 = Xi S 895 4 from w87.x _ _ rfl))))))
                  exact ⟨hHU33, hFU33, _, rfl, ⟨by omega, by omega⟩, ((kcl_w eU33 (kcl_w eU32 (kcl_w eU31 (kcl_f w259 rfl (kcl_w eU22 (kcl_tr KCL.rf (by assumption : KCL S T6 cl)))))))), (fun q => by first | (exfalso; omega) | exact ts_2 (by omega) (x := Xi _ (276 + cl) 2) (by omega) (o54 (by omega)).1 (by omega) | exact ts_1 (by omega) (x := Xi _ (276 + cl) 2) (by omega) (o54 (by omega)).1 (by omega) (by omega) (by omega) t193), (fun q => by first | omega | (exfalso; omega))⟩
                · refine l_iconst rfl ?_
                  refine l_goto rfl rfl ?_
                  refine l_pfi rfl rfl (layClW (by omega) rfl) rfl ?_
                  obtain ⟨U34, eU34⟩ : ∃ T : sS, T = uI T30 (276 + cl) 0 (Int32.ofInt 4) := ⟨_, rfl⟩
                  rw [← eU34]
                  have hHU34 : HI U34 := by rw [eU34]; exact HI_w hHT30 (by rw [lh_cl0 (by omega)]; omega) (by rw [lh_cl0 (by omega)]; omega)
                  have hFU34 : FR md_rr_propertyTest S U34 := by rw [eU34]; exact FR.wI hFT30 (mdf_i (r := (276, 876, 0, 1)) (List.mem_of_getElem? (i := 0) rfl) (inR_i (by omega) (by omega) (by omega) (by omega)))
                  have w277 : Xi U34 (276 + cl) 0 = 4 := by rw [eU34]; exact Xi_same (by unfold rg; omega)
                  have t171 : TXT U34 (Xi T30 895 10) (Xi T30 895 11) := TXT_eq (by rw [eU34]; rfl) (t151 (by omega))
                  have y1710 : Xi U34 895 10 = Xi T30 895 10 := by rw [eU34, Xi_ne (by omega)]
                  have y1711 : Xi U34 895 11 = Xi T30 895 11 := by rw [eU34, Xi_ne (by omega)]
                  refine l_aload_n rfl rfl ?_
                  refine l_aload_n rfl rfl ?_
                  refine l_gfr rfl rfl rfl rfl rfl (hHU34.r 899 2 895 rfl) ?_
                  refine l_gfi rfl rfl rfl rfl rfl ?_
                  have w278 : -2147483648 ≤ (Xi U34 895 10) ∧ (Xi U34 895 10) ≤ 2147483647 := Xi_rgI
                  refine l_pfi rfl rfl (layClW (by omega) rfl) rfl ?_
                  obtain ⟨U35, eU35⟩ : ∃ T : sS, T = uI U34 (276 + cl) 4 (Int32.ofInt (Xi U34 895 10)) := ⟨_, rfl⟩
                  rw [← eU35]
                  have hHU35 : HI U35 := by rw [eU35]; exact HI_any hHU34 (lh_cl4 (by omega))
                  have hFU35 : FR md_rr_propertyTest S U35 := by rw [eU35]; exact FR.wI hFU34 (mdf_i (r := (276, 876, 4, 5)) (List.mem_of_getElem? (i := 4) rfl) (inR_i (by omega) (by omega) (by omega) (by omega)))
                  have w279 : Xi U35 (276 + cl) 4 = (Xi U34 895 10) := by rw [eU35]; exact Xi_same (by unfold rg; omega)
                  have t182 : TXT U35 _ _ := TXT_eq (by rw [eU35]; rfl) t171
                  have y1821 : Xi U35 895 11 = Xi U34 895 11 := by rw [eU35, Xi_ne (by omega)]
                  refine l_aload_n rfl rfl ?_
                  refine l_aload_n rfl rfl ?_
                  refine l_gfr rfl rfl rfl rfl rfl (hHU35.r 899 2 895 rfl) ?_
                  refine l_gfi rfl rfl rfl rfl rfl ?_
                  have w280 : -2147483648 ≤ (Xi U35 895 11) ∧ (Xi U35 895 11) ≤ 2147483647 := Xi_rgI
                  refine l_pfi rfl rfl (layClW (by omega) rfl) rfl ?_
                  obtain ⟨U36, eU36⟩ : ∃ T : sS, T = uI U35 (276 + cl) 5 (Int32.ofInt (Xi U35 895 11)) := ⟨_, rfl⟩
                  rw [← eU36]
                  have hHU36 : HI U36 := by rw [eU36]; exact HI_any hHU35 (lh_cl5 (by omega))
                  have hFU36 : FR md_rr_propertyTest S U36 := by rw [eU36]; exact FR.wI hFU35 (mdf_i (r := (276, 876, 5, 6)) (List.mem_of_getElem? (i := 5) rfl) (inR_i (by omega) (by omega) (by omega) (by omega)))
                  have w281 : Xi U36 (276 + cl) 5 = (Xi U35 895 11) := by rw [eU36]; exact Xi_same (by unfold rg; omega)
                  have t193 : TXT U36 _ _ := TXT_eq (by rw [eU36]; rfl) t182
                  refine l_iconst rfl ?_
                  refine l_ireturn rfl rfl ?_
                  have w282 : Xi U36 (276 + cl) 0 = Xi U34 (276 + cl) 0 := (show Xi U36 (276 + cl) 0 = Xi U35 (276 + cl) 0 from by rw [eU36]; exact Xi_ne (by omega)).trans ((show Xi U35 (276 + cl) 0 = Xi U34 (276 + cl) 0 from by rw [eU35]; exact Xi_ne (by omega)))
                  have w283 : Xi U36 (276 + cl) 2 = Xi T6 (276 + cl) 2 := (show Xi U36 (276 + cl) 2 = Xi U35 (276 + cl) 2 from by rw [eU36]; exact Xi_ne (by omega)).trans ( (show Xi U35 (276 + cl) 2 = Xi U34 (276 + cl) 2 from by rw [eU35]; exact Xi_ne (by omega)).trans ( (show Xi U34 (276 + cl) 2 = Xi T30 (276 + cl) 2 from by rw [eU34]; exact Xi_ne (by omega)).trans ( (show Xi T30 (276 + cl) 2 = Xi U22 (276 + cl) 2 from FR_cl w259 rfl (by omega)).trans ((show Xi U22 (276 + cl) 2 = Xi T6 (276 + cl) 2 from by rw [eU22]; exact Xi_ne (by omega))))))
                  have w284 : Xi U36 (276 + cl) 3 = Xi T6 (276 + cl) 3 := (show Xi U36 (276 + cl) 3 = Xi U35 (276 + cl) 3 from by rw [eU36]; exact Xi_ne (by omega)).trans ( (show Xi U35 (276 + cl) 3 = Xi U34 (276 + cl) 3 from by rw [eU35]; exact Xi_ne (by omega)).trans ( (show Xi U34 (276 + cl) 3 = Xi T30 (276 + cl) 3 from by rw [eU34]; exact Xi_ne (by omega)).trans ( (show Xi T30 (276 + cl) 3 = Xi U22 (276 + cl) 3 from FR_cl w259 rfl (by omega)).trans ((show Xi U22 (276 + cl) 3 = Xi T6 (276 + cl) 3 from by rw [eU22]; exact Xi_ne (by omega))))))
                  have w285 : Xi U36 (276 + cl) 4 = Xi U35 (276 + cl) 4 := (show Xi U36 (276 + cl) 4 = Xi U35 (276 + cl) 4 from by rw [eU36]; exact Xi_ne (by omega))
                  have w286 : Xi U36 876 8 = Xi T30 876 8 := (show Xi U36 876 8 = Xi U35 876 8 from by rw [eU36]; exact Xi_ne (by omega)).trans ( (show Xi U35 876 8 = Xi U34 876 8 from by rw [eU35]; exact Xi_ne (by omega)).trans ((show Xi U34 876 8 = Xi T30 876 8 from by rw [eU34]; exact Xi_ne (by omega))))
                  have w287 : 0 ≤ Xi T30 876 8 ∧ Xi T30 876 8 ≤ 9 := hHT30.c _ _
                  have w288 : Xi U36 895 4 = Xi S 895 4 := (show Xi U36 895 4 = Xi U35 895 4 from by rw [eU36]; exact Xi_ne (by omega)).trans ( (show Xi U35 895 4 = Xi U34 895 4 from by rw [eU35]; exact Xi_ne (by omega)).trans ( (show Xi U34 895 4 = Xi T30 895 4 from by rw [eU34]; exact Xi_ne (by omega)).trans ( (show Xi T30 895 4 = Xi U22 895 4 from w259.x _ _ rfl).trans ( (show Xi U22 895 4 = Xi T6 895 4 from by rw [eU22]; exact Xi_ne (by omega)).trans ((show Xi T6 895 4 = Xi S 895 4 from w87.x _ _ rfl))))))
                  exact ⟨hHU36, hFU36, _, rfl, ⟨by omega, by omega⟩, ((kcl_w eU36 (kcl_w eU35 (kcl_w eU34 (kcl_f w259 rfl (kcl_w eU22 (kcl_tr KCL.rf (by assumption : KCL S T6 cl)))))))), (fun q => by first | (exfalso; omega) | exact ts_2 (by omega) (x := Xi _ (276 + cl) 2) (by omega) (o54 (by omega)).1 (by omega) | exact ts_1 (by omega) (x := Xi _ (276 + cl) 2) (by omega) (o54 (by omega)).1 (by omega) (by omega) (by omega) t193), (fun q => by first | omega | (exfalso; omega))⟩
              · refine l_iconst rfl ?_
                refine l_ireturn rfl rfl ?_
                have w290 : Xi T30 (276 + cl) 0 = Xi S (276 + cl) 0 := (show Xi T30 (276 + cl) 0 = Xi U22 (276 + cl) 0 from FR_cl w259 rfl (by omega)).trans ( (show Xi U22 (276 + cl) 0 = Xi T6 (276 + cl) 0 from by rw [eU22]; exact Xi_ne (by omega)).trans ((show Xi T6 (276 + cl) 0 = Xi S (276 + cl) 0 from FR_clj w87 rfl (by omega))))
                have w291 : Xi T30 (276 + cl) 2 = Xi T6 (276 + cl) 2 := (show Xi T30 (276 + cl) 2 = Xi U22 (276 + cl) 2 from FR_cl w259 rfl (by omega)).trans ((show Xi U22 (276 + cl) 2 = Xi T6 (276 + cl) 2 from by rw [eU22]; exact Xi_ne (by omega)))
                have w292 : Xi T30 (276 + cl) 3 = Xi T6 (276 + cl) 3 := (show Xi T30 (276 + cl) 3 = Xi U22 (276 + cl) 3 from FR_cl w259 rfl (by omega)).trans ((show Xi U22 (276 + cl) 3 = Xi T6 (276 + cl) 3 from by rw [eU22]; exact Xi_ne (by omega)))
                have w293 : Xi T30 (276 + cl) 4 = Xi S (276 + cl) 4 := (show Xi T30 (276 + cl) 4 = Xi U22 (276 + cl) 4 from FR_cl w259 rfl (by omega)).trans ( (show Xi U22 (276 + cl) 4 = Xi T6 (276 + cl) 4 from by rw [eU22]; exact Xi_ne (by omega)).trans ((show Xi T6 (276 + cl) 4 = Xi S (276 + cl) 4 from FR_clj w87 rfl (by omega))))
                have w294 : Xi T30 (276 + cl) 5 = Xi S (276 + cl) 5 := (show Xi T30 (276 + cl) 5 = Xi U22 (276 + cl) 5 from FR_cl w259 rfl (by omega)).trans ( (show Xi U22 (276 + cl) 5 = Xi T6 (276 + cl) 5 from by rw [eU22]; exact Xi_ne (by omega)).trans ((show Xi T6 (276 + cl) 5 = Xi S (276 + cl) 5 from FR_clj w87 rfl (by omega))))
                have w295 : 0 ≤ Xi T30 876 8 ∧ Xi T30 876 8 ≤ 9 := hHT30.c _ _
                have w296 : Xi T30 895 4 = Xi S 895 4 := (show Xi T30 895 4 = Xi U22 895 4 from w259.x _ _ rfl).trans ( (show Xi U22 895 4 = Xi T6 895 4 from by rw [eU22]; exact Xi_ne (by omega)).trans ((show Xi T6 895 4 = Xi S 895 4 from w87.x _ _ rfl)))
                exact ⟨hHT30, hFT30, _, rfl, ⟨by omega, by omega⟩, ((kcl_f w259 rfl (kcl_w eU22 (kcl_tr KCL.rf (by assumption : KCL S T6 cl))))), (fun q => by first | (exfalso; omega) | exact ts_2 (by omega) (x := Xi _ (276 + cl) 2) (by omega) (o54 (by omega)).1 (by omega) | exact ts_1 (by omega) (x := Xi _ (276 + cl) 2) (by omega) (o54 (by omega)).1 (by omega) (by omega) (by omega) t193), (fun q => by first | omega | (exfalso; omega))⟩
      · refine l_iconst rfl ?_
        refine l_ireturn rfl rfl ?_
        have w298 : Xi T6 (276 + cl) 0 = Xi S (276 + cl) 0 := (show Xi T6 (276 + cl) 0 = Xi S (276 + cl) 0 from FR_clj w87 rfl (by omega))
        have w299 : Xi T6 (276 + cl) 4 = Xi S (276 + cl) 4 := (show Xi T6 (276 + cl) 4 = Xi S (276 + cl) 4 from FR_clj w87 rfl (by omega))
        have w300 : Xi T6 (276 + cl) 5 = Xi S (276 + cl) 5 := (show Xi T6 (276 + cl) 5 = Xi S (276 + cl) 5 from FR_clj w87 rfl (by omega))
        have w301 : 0 ≤ Xi T6 876 8 ∧ Xi T6 876 8 ≤ 9 := hHT6.c _ _
        have w302 : Xi T6 895 4 = Xi S 895 4 := (show Xi T6 895 4 = Xi S 895 4 from w87.x _ _ rfl)
        exact ⟨hHT6, hFT6, _, rfl, ⟨by omega, by omega⟩, ((kcl_tr KCL.rf (by assumption : KCL S T6 cl))), (fun q => by first | (exfalso; omega) | exact ts_2 (by omega) (x := Xi _ (276 + cl) 2) (by omega) (o54 (by omega)).1 (by omega) | exact ts_1 (by omega) (x := Xi _ (276 + cl) 2) (by omega) (o54 (by omega)).1 (by omega) (by omega) (by omega) t193), (fun q => by first | omega | (exfalso; omega))⟩
    · refine l_iconst rfl ?_
      refine l_goto rfl rfl ?_
      refine l_istore rfl rfl rfl ?_
      refine l_aload_n rfl rfl ?_
      refine l_iload_n rfl rfl ?_
      refine l_iconst rfl ?_
      refine l_iadd rfl ?_
      refine l_iload rfl rfl ?_
      refine l_iload rfl rfl ?_
      refine l_aload_n rfl rfl ?_
      refine l_callV rfl rfl rfl (t_rr_propertyOfThing hH (from_ + 1) z11 1 cl ⟨by omega, by omega⟩ ⟨by omega, by omega⟩ ⟨by omega, by omega⟩ (by omega) (by first | assumption | exact (LEX_FR hF rfl rfl (by assumption : LEX S))) _) ?_
      rintro _ T37 ⟨hHT37, w310, z309, rfl, w309, w305, w306, w307, w308⟩
      have hFT37 : FR md_rr_propertyTest S T37 := FR.tr hF w310 rfl
      show Rl _ _ _ _ _ [iv z309] _ _
      have o54 : z309 = 1 → WHO (0 ≤ Xi S 895 4) (Xi T37 (276 + cl) 2) ∧ 0 ≤ Xi T37 (276 + cl) 3 ∧ Xi T37 (276 + cl) 3 ≤ 11 := by assumption
      have o54b : z309 = 1 → 0 ≤ Xi T37 (276 + cl) 3 ∧ Xi T37 (276 + cl) 3 ≤ 11 := fun q => (o54 q).2
      refine l_if_ne rfl rfl (by unfold rg; omega) (fun w311 => ?_) (fun w312 => ?_)
      · refine l_iload rfl rfl ?_
        refine l_if_eq rfl rfl (by unfold rg; omega) (fun w313 => absurd w313 (by omega)) (fun w314 => ?_)
        · refine l_aload_n rfl rfl ?_
          refine l_iload rfl rfl ?_
          refine l_bipush rfl rfl ?_
          refine l_icmp_ne rfl rfl (by unfold rg; omega) (by unfold rg; omega) (fun w315 => ?_) (fun w316 => ?_)
          · refine l_iconst rfl ?_
            refine l_pfi rfl rfl (layClW (by omega) rfl) rfl ?_
            obtain ⟨U38, eU38⟩ : ∃ T : sS, T = uI T37 (276 + cl) 0 (Int32.ofInt 3) := ⟨_, rfl⟩
            rw [← eU38]
            have hHU38 : HI U38 := by rw [eU38]; exact HI_w hHT37 (by rw [lh_cl0 (by omega)]; omega) (by rw [lh_cl0 (by omega)]; omega)
            have hFU38 : FR md_rr_propertyTest S U38 := by rw [eU38]; exact FR.wI hFT37 (mdf_i (r := (276, 876, 0, 1)) (List.mem_of_getElem? (i := 0) rfl) (inR_i (by omega) (by omega) (by omega) (by omega)))
            have w317 : Xi U38 (276 + cl) 0 = 3 := by rw [eU38]; exact Xi_same (by unfold rg; omega)
            refine l_aload_n rfl rfl ?_
            refine l_aload_n rfl rfl ?_
            refine l_gfr rfl rfl rfl rfl rfl (hHU38.r 899 0 876 rfl) ?_
            refine l_iload_n rfl rfl ?_
            refine l_iconst rfl ?_
            refine l_iadd rfl ?_
            have w318 : Xi U38 (276 + cl) 2 = Xi T37 (276 + cl) 2 := (show Xi U38 (276 + cl) 2 = Xi T37 (276 + cl) 2 from by rw [eU38]; exact Xi_ne (by omega))
            have w319 : Xi U38 (276 + cl) 3 = Xi T37 (276 + cl) 3 := (show Xi U38 (276 + cl) 3 = Xi T37 (276 + cl) 3 from by rw [eU38]; exact Xi_ne (by omega))
            have w320 : Xi U38 (276 + cl) 4 = Xi S (276 + cl) 4 := (show Xi U38 (276 + cl) 4 = Xi T37 (276 + cl) 4 from by rw [eU38]; exact Xi_ne (by omega)).trans ((show Xi T37 (276 + cl) 4 = Xi S (276 + cl) 4 from FR_clj w310 rfl (by omega)))
            have w321 : Xi U38 (276 + cl) 5 = Xi S (276 + cl) 5 := (show Xi U38 (276 + cl) 5 = Xi T37 (276 + cl) 5 from by rw [eU38]; exact Xi_ne (by omega)).trans ((show Xi T37 (276 + cl) 5 = Xi S (276 + cl) 5 from FR_clj w310 rfl (by omega)))
            have w322 : Xi U38 876 7 = Xi S 876 7 := (show Xi U38 876 7 = Xi T37 876 7 from by rw [eU38]; exact Xi_ne (by omega)).trans ((show Xi T37 876 7 = Xi S 876 7 from w310.x _ _ rfl))
            refine l_callV rfl rfl rfl (t_to_valueAt hHU38 (is_ + 3) ⟨by omega, by omega⟩ _) ?_
            rintro _ _ ⟨rfl, z327, rfl, w327, w326⟩
            show Rl _ _ _ _ _ [iv z327, .ref (276 + cl)] _ _
            refine l_pfi rfl rfl (layClW (by omega) rfl) rfl ?_
            obtain ⟨U39, eU39⟩ : ∃ T : sS, T = uI U38 (276 + cl) 4 (Int32.ofInt z327) := ⟨_, rfl⟩
            rw [← eU39]
            have hHU39 : HI U39 := by rw [eU39]; exact HI_any hHU38 (lh_cl4 (by omega))
            have hFU39 : FR md_rr_propertyTest S U39 := by rw [eU39]; exact FR.wI hFU38 (mdf_i (r := (276, 876, 4, 5)) (List.mem_of_getElem? (i := 4) rfl) (inR_i (by omega) (by omega) (by omega) (by omega)))
            have w328 : Xi U39 (276 + cl) 4 = z327 := by rw [eU39]; exact Xi_same (by unfold rg; omega)
            refine l_iconst rfl ?_
            refine l_ireturn rfl rfl ?_
            have w329 : Xi U39 (276 + cl) 0 = Xi U38 (276 + cl) 0 := (show Xi U39 (276 + cl) 0 = Xi U38 (276 + cl) 0 from by rw [eU39]; exact Xi_ne (by omega))
            have w330 : Xi U39 (276 + cl) 2 = Xi T37 (276 + cl) 2 := (show Xi U39 (276 + cl) 2 = Xi U38 (276 + cl) 2 from by rw [eU39]; exact Xi_ne (by omega)).trans ((show Xi U38 (276 + cl) 2 = Xi T37 (276 + cl) 2 from by rw [eU38]; exact Xi_ne (by omega)))
            have w331 : Xi U39 (276 + cl) 3 = Xi T37 (276 + cl) 3 := (show Xi U39 (276 + cl) 3 = Xi U38 (276 + cl) 3 from by rw [eU39]; exact Xi_ne (by omega)).trans ((show Xi U38 (276 + cl) 3 = Xi T37 (276 + cl) 3 from by rw [eU38]; exact Xi_ne (by omega)))
            have w332 : Xi U39 (276 + cl) 5 = Xi S (276 + cl) 5 := (show Xi U39 (276 + cl) 5 = Xi U38 (276 + cl) 5 from by rw [eU39]; exact Xi_ne (by omega)).trans ( (show Xi U38 (276 + cl) 5 = Xi T37 (276 + cl) 5 from by rw [eU38]; exact Xi_ne (by omega)).trans ((show Xi T37 (276 + cl) 5 = Xi S (276 + cl) 5 from FR_clj w310 rfl (by omega))))
            have w333 : Xi U39 876 8 = Xi T37 876 8 := (show Xi U39 876 8 = Xi U38 876 8 from by rw [eU39]; exact Xi_ne (by omega)).trans ((show Xi U38 876 8 = Xi T37 876 8 from by rw [eU38]; exact Xi_ne (by omega)))
            have w334 : 0 ≤ Xi T37 876 8 ∧ Xi T37 876 8 ≤ 9 := hHT37.c _ _
            have w335 : Xi U39 895 4 = Xi S 895 4 := (show Xi U39 895 4 = Xi U38 895 4 from by rw [eU39]; exact Xi_ne (by omega)).trans ( (show Xi U38 895 4 = Xi T37 895 4 from by rw [eU38]; exact Xi_ne (by omega)).trans ((show Xi T37 895 4 = Xi S 895 4 from w310.x _ _ rfl)))
            exact ⟨hHU39, hFU39, _, rfl, ⟨by omega, by omega⟩, ((kcl_w eU39 (kcl_w eU38 (kcl_tr KCL.rf (by assumption : KCL S T37 cl))))), (fun q => by first | (exfalso; omega) | exact ts_2 (by omega) (x := Xi _ (276 + cl) 2) (by omega) (o54 (by omega)).1 (by omega) | exact ts_1 (by omega) (x := Xi _ (276 + cl) 2) (by omega) (o54 (by omega)).1 (by omega) (by omega) (by omega) t193), (fun q => by first | omega | (exfalso; omega))⟩
          · refine l_iconst rfl ?_
            refine l_goto rfl rfl ?_
            refine l_pfi rfl rfl (layClW (by omega) rfl) rfl ?_
            obtain ⟨U40, eU40⟩ : ∃ T : sS, T = uI T37 (276 + cl) 0 (Int32.ofInt 2) := ⟨_, rfl⟩
            rw [← eU40]
            have hHU40 : HI U40 := by rw [eU40]; exact HI_w hHT37 (by rw [lh_cl0 (by omega)]; omega) (by rw [lh_cl0 (by omega)]; omega)
            have hFU40 : FR md_rr_propertyTest S U40 := by rw [eU40]; exact FR.wI hFT37 (mdf_i (r := (276, 876, 0, 1)) (List.mem_of_getElem? (i := 0) rfl) (inR_i (by omega) (by omega) (by omega) (by omega)))
            have w337 : Xi U40 (276 + cl) 0 = 2 := by rw [eU40]; exact Xi_same (by unfold rg; omega)
            refine l_aload_n rfl rfl ?_
            refine l_aload_n rfl rfl ?_
            refine l_gfr rfl rfl rfl rfl rfl (hHU40.r 899 0 876 rfl) ?_
            refine l_iload_n rfl rfl ?_
            refine l_iconst rfl ?_
            refine l_iadd rfl ?_
            have w338 : Xi U40 (276 + cl) 2 = Xi T37 (276 + cl) 2 := (show Xi U40 (276 + cl) 2 = Xi T37 (276 + cl) 2 from by rw [eU40]; exact Xi_ne (by omega))
            have w339 : Xi U40 (276 + cl) 3 = Xi T37 (276 + cl) 3 := (show Xi U40 (276 + cl) 3 = Xi T37 (276 + cl) 3 from by rw [eU40]; exact Xi_ne (by omega))
            have w340 : Xi U40 (276 + cl) 4 = Xi S (276 + cl) 4 := (show Xi U40 (276 + cl) 4 = Xi T37 (276 + cl) 4 from by rw [eU40]; exact Xi_ne (by omega)).trans ((show Xi T37 (276 + cl) 4 = Xi S (276 + cl) 4 from FR_clj w310 rfl (by omega)))
            have w341 : Xi U40 (276 + cl) 5 = Xi S (276 + cl) 5 := (show Xi U40 (276 + cl) 5 = Xi T37 (276 + cl) 5 from by rw [eU40]; exact Xi_ne (by omega)).trans ((show Xi T37 (276 + cl) 5 = Xi S (276 + cl) 5 from FR_clj w310 rfl (by omega)))
            have w342 : Xi U40 876 7 = Xi S 876 7 := (show Xi U40 876 7 = Xi T37 876 7 from by rw [eU40]; exact Xi_ne (by omega)).trans ((show Xi T37 876 7 = Xi S 876 7 from w310.x _ _ rfl))
            refine l_callV rfl rfl rfl (t_to_valueAt hHU40 (is_ + 3) ⟨by omega, by omega⟩ _) ?_
            rintro _ _ ⟨rfl, z347, rfl, w347, w346⟩
            show Rl _ _ _ _ _ [iv z347, .ref (276 + cl)] _ _
            refine l_pfi rfl rfl (layClW (by omega) rfl) rfl ?_
            obtain ⟨U41, eU41⟩ : ∃ T : sS, T = uI U40 (276 + cl) 4 (Int32.ofInt z347) := ⟨_, rfl⟩
            rw [← eU41]
            have hHU41 : HI U41 := by rw [eU41]; exact HI_any hHU40 (lh_cl4 (by omega))
            have hFU41 : FR md_rr_propertyTest S U41 := by rw [eU41]; exact FR.wI hFU40 (mdf_i (r := (276, 876, 4, 5)) (List.mem_of_getElem? (i := 4) rfl) (inR_i (by omega) (by omega) (by omega) (by omega)))
            have w348 : Xi U41 (276 + cl) 4 = z347 := by rw [eU41]; exact Xi_same (by unfold rg; omega)
            refine l_iconst rfl ?_
            refine l_ireturn rfl rfl ?_
            have w349 : Xi U41 (276 + cl) 0 = Xi U40 (276 + cl) 0 := (show Xi U41 (276 + cl) 0 = Xi U40 (276 + cl) 0 from by rw [eU41]; exact Xi_ne (by omega))
            have w350 : Xi U41 (276 + cl) 2 = Xi T37 (276 + cl) 2 := (show Xi U41 (276 + cl) 2 = Xi U40 (276 + cl) 2 from by rw [eU41]; exact Xi_ne (by omega)).trans ((show Xi U40 (276 + cl) 2 = Xi T37 (276 + cl) 2 from by rw [eU40]; exact Xi_ne (by omega)))
            have w351 : Xi U41 (276 + cl) 3 = Xi T37 (276 + cl) 3 := (show Xi U41 (276 + cl) 3 = Xi U40 (276 + cl) 3 from by rw [eU41]; exact Xi_ne (by omega)).trans ((show Xi U40 (276 + cl) 3 = Xi T37 (276 + cl) 3 from by rw [eU40]; exact Xi_ne (by omega)))
            have w352 : Xi U41 (276 + cl) 5 = Xi S (276 + cl) 5 := (show Xi U41 (276 + cl) 5 = Xi U40 (276 + cl) 5 from by rw [eU41]; exact Xi_ne (by omega)).trans ( (show Xi U40 (276 + cl) 5 = Xi T37 (276 + cl) 5 from by rw [eU40]; exact Xi_ne (by omega)).trans ((show Xi T37 (276 + cl) 5 = Xi S (276 + cl) 5 from FR_clj w310 rfl (by omega))))
            have w353 : Xi U41 876 8 = Xi T37 876 8 := (show Xi U41 876 8 = Xi U40 876 8 from by rw [eU41]; exact Xi_ne (by omega)).trans ((show Xi U40 876 8 = Xi T37 876 8 from by rw [eU40]; exact Xi_ne (by omega)))
            have w354 : 0 ≤ Xi T37 876 8 ∧ Xi T37 876 8 ≤ 9 := hHT37.c _ _
            have w355 : Xi U41 895 4 = Xi S 895 4 := (show Xi U41 895 4 = Xi U40 895 4 from by rw [eU41]; exact Xi_ne (by omega)).trans ( (show Xi U40 895 4 = Xi T37 895 4 from by rw [eU40]; exact Xi_ne (by omega)).trans ((show Xi T37 895 4 = Xi S 895 4 from w310.x _ _ rfl)))
            exact ⟨hHU41, hFU41, _, rfl, ⟨by omega, by omega⟩, ((kcl_w eU41 (kcl_w eU40 (kcl_tr KCL.rf (by assumption : KCL S T37 cl))))), (fun q => by first | (exfalso; omega) | exact ts_2 (by omega) (x := Xi _ (276 + cl) 2) (by omega) (o54 (by omega)).1 (by omega) | exact ts_1 (by omega) (x := Xi _ (276 + cl) 2) (by omega) (o54 (by omega)).1 (by omega) (by omega) (by omega) t193), (fun q => by first | omega | (exfalso; omega))⟩
      · refine l_iconst rfl ?_
        refine l_ireturn rfl rfl ?_
        have w357 : Xi T37 (276 + cl) 0 = Xi S (276 + cl) 0 := (show Xi T37 (276 + cl) 0 = Xi S (276 + cl) 0 from FR_clj w310 rfl (by omega))
        have w358 : Xi T37 (276 + cl) 4 = Xi S (276 + cl) 4 := (show Xi T37 (276 + cl) 4 = Xi S (276 + cl) 4 from FR_clj w310 rfl (by omega))
        have w359 : Xi T37 (276 + cl) 5 = Xi S (276 + cl) 5 := (show Xi T37 (276 + cl) 5 = Xi S (276 + cl) 5 from FR_clj w310 rfl (by omega))
        have w360 : 0 ≤ Xi T37 876 8 ∧ Xi T37 876 8 ≤ 9 := hHT37.c _ _
        have w361 : Xi T37 895 4 = Xi S 895 4 := (show Xi T37 895 4 = Xi S 895 4 from w310.x _ _ rfl)
        exact ⟨hHT37, hFT37, _, rfl, ⟨by omega, by omega⟩, ((kcl_tr KCL.rf (by assumption : KCL S T37 cl))), (fun q => by first | (exfalso; omega) | exact ts_2 (by omega) (x := Xi _ (276 + cl) 2) (by omega) (o54 (by omega)).1 (by omega) | exact ts_1 (by omega) (x := Xi _ (276 + cl) 2) (by omega) (o54 (by omega)).1 (by omega) (by omega) (by omega) t193), (fun q => by first | omega | (exfalso; omega))⟩
theorem prop_lt {S : sS} {a : Int} (h : PROP S a) : 0 ≤ a ∧ a + 2 < Xi S 876 7 := by
  obtain ⟨h0, h2, e, h3, h4, h5, h6⟩ := h
  exact ⟨h0, by omega⟩
theorem who_e {b : Prop} {x y : Int} (e : x = y) (h : WHO b y) : WHO b x := e ▸ h
theorem ts_na {S T : sS} {b : Prop} {c : Nat} {met prop : Int} (w : ∀ j, j ≠ 0 → j ≠ 3 → j ≠ 4 → Xi T (276 + c) j = Xi S (276 + c) j) (ha : prop = -1 → Xi T (276 + c) 0 = 0 ∧ Xi T (276 + c) 3 = met) (hb : prop ≠ -1 → Xi T (276 + c) 0 = 1 ∧ Xi T (276 + c) 3 = prop) (hw : WHO b (Xi S (276 + c) 2)) (h5 : Xi S (276 + c) 5 = 0) (hm : prop = -1 → 0 ≤ met ∧ met < Xi T 5 3) (hp : -1 ≤ prop ∧ prop ≤ 11) : TSok T b c := by
  have e2 := w 2 (by decide) (by decide) (by decide)
  have e5 := w 5 (by decide) (by decide) (by decide)
  by_cases q : prop = -1
  · exact ts_0 (ha q).1 e2 hw (by have := hm q; have := ha q; omega)
  · exact ts_1 (Or.inl (hb q).1) e2 hw (by have := hb q; omega) rfl rfl (Or.inl (by omega))
def md_rr_test : List rec := [(276, 876, 0, 1), (276, 876, 1, 2), (276, 876, 2, 3), (276, 876, 3, 4), (276, 876, 4, 5), (276, 876, 5, 6), (276, 876, 6, 7), (876, 877, 8, 9), (876, 877, 9, 10), (895, 896, 5, 6), (895, 896, 6, 7), (895, 896, 7, 8), (895, 896, 8, 9), (895, 896, 9, 10), (895, 896, 10, 11), (895, 896, 11, 12)]
abbrev Q_rr_test (S : sS) (from_ : Int) (to : Int) (cl : Nat) (now : Int) : pst := fun r S1 => HI S1 ∧ FR md_rr_test S S1 ∧ (∃ z : Int, r = some (iv z) ∧ (0 ≤ z ∧ z ≤ 1) ∧ (KCL S S1 cl) ∧ (z = 1 → TSok S1 (0 ≤ Xi S 895 4) cl) ∧ (z = 0 → Xi S1 876 8 ≠ 0))
set_option maxRecDepth 100000 in
theorem t_rr_test {S : sS} (hH : HI S) (from_ : Int) (to : Int) (cl : Nat) (now : Int) (hfrom_ : 0 ≤ from_ ∧ from_ ≤ 5140) (hto : 0 ≤ to ∧ to ≤ 5130) (hcl : cl < 600) (hnow : 0 ≤ now ∧ now ≤ 1) (hL : LEX S) (hT : TOK S) (hS : SRX S) (hlen : Xi S (276 + cl) 5 = 0) (d : Nat) : Mt lay0 (d + 5) m_rr_test [.ref 899, iv from_, iv to, .ref (276 + cl), iv now] S (Q_rr_test S from_ to cl now) := by
  refine Mt_R rfl rfl ?_
  have hF : FR md_rr_test S S := FR.rf
  have w1 : 0 ≤ Xi S 5 3 ∧ Xi S 5 3 ≤ 24 := hH.c _ _
  have w2 : -1 ≤ Xi S 895 4 ∧ Xi S 895 4 ≤ 15 := hH.c _ _
  have w3 : 0 ≤ Xi S 895 8 ∧ Xi S 895 8 ≤ 255 := hH.c _ _
  have w4 : -1 ≤ Xi S 895 9 ∧ Xi S 895 9 ≤ 11 := hH.c _ _
  have C139 : ∀  (T1 : sS) (_ : HI T1) (_ : FR md_rr_test S T1) (v6 : Int), (0 ≤ v6 ∧ v6 ≤ 5130) → (KCL S T1 cl) → (WHO (0 ≤ Xi S 895 4) (Xi T1 (276 + cl) 2)) → (Xi T1 (276 + cl) 5 = 0) → Rl lay0 (d + 4) m_rr_test 139 [(0, .ref 899), (2, iv to), (3, .ref (276 + cl)), (4, iv now), (6, iv v6)] [] T1 (Q_rr_test S from_ to cl now) := by
    intro T1 hHT1 hFT1 v6 w5 hk139 hw139 w6
    have w7 : Xi T1 5 3 = Xi S 5 3 := hFT1.x _ _ rfl
    have w8 : Xi T1 876 7 = Xi S 876 7 := hFT1.x _ _ rfl
    have w9 : Xi T1 895 4 = Xi S 895 4 := hFT1.x _ _ rfl
    have C203 : ∀  (T2 : sS) (_ : HI T2) (_ : FR md_rr_test S T2) (v6 : Int) (v7 : Int), (0 ≤ v6 ∧ v6 ≤ 5130) → (0 ≤ v7 ∧ v7 ≤ 12) → (KCL S T2 cl) → (WHO (0 ≤ Xi S 895 4) (Xi T2 (276 + cl) 2)) → (Xi T2 (276 + cl) 5 = 0) → (1 ≤ v7 → Xi T2 895 9 = -1 → Xi T2 895 8 < Xi T2 5 3) → Rl lay0 (d + 4) m_rr_test 203 [(0, .ref 899), (3, .ref (276 + cl)), (6, iv v6), (7, iv v7)] [] T2 (Q_rr_test S from_ to cl now) := by
      intro T2 hHT2 hFT2 v6 v7 w10 w11 hk203 hw203 w12 w13
      have w14 : Xi T2 5 3 = Xi S 5 3 := hFT2.x _ _ rfl
      have w15 : Xi T2 876 7 = Xi S 876 7 := hFT2.x _ _ rfl
      have w16 : Xi T2 895 4 = Xi S 895 4 := hFT2.x _ _ rfl
      have w17 : 0 ≤ Xi T2 5 3 ∧ Xi T2 5 3 ≤ 24 := hHT2.c _ _
      have w18 : 0 ≤ Xi T2 895 8 ∧ Xi T2 895 8 ≤ 255 := hHT2.c _ _
      have w19 : -1 ≤ Xi T2 895 9 ∧ Xi T2 895 9 ≤ 11 := hHT2.c _ _
      refine l_iload rfl rfl ?_
      refine l_iconst rfl ?_
      refine l_icmp_eq rfl rfl (by unfold rg; omega) (by unfold rg; omega) (fun w20 => ?_) (fun w21 => ?_)
      · refine l_aload_n rfl rfl ?_
        refine l_aload_n rfl rfl ?_
        refine l_gfr rfl rfl rfl rfl rfl (hHT2.r 899 2 895 rfl) ?_
        refine l_gfi rfl rfl rfl rfl rfl ?_
        refine l_aload_n rfl rfl ?_
        refine l_gfr rfl rfl rfl rfl rfl (hHT2.r 899 2 895 rfl) ?_
        refine l_gfi rfl rfl rfl rfl rfl ?_
        refine l_callS rfl rfl (by decide) rfl (t_rr_nameAdjective__2 hHT2 cl (Xi T2 895 8) (Xi T2 895 9) (by omega) ⟨by omega, by omega⟩ ⟨by omega, by omega⟩ _) ?_
        rintro _ T3 ⟨hHT3, w29, rfl, w24, w25, w26, w27⟩
        have hFT3 : FR md_rr_test S T3 := FR.tr hFT2 w29 rfl
        show Rl _ _ _ _ _ [] _ _
        refine l_iconst rfl ?_
        refine l_ireturn rfl rfl ?_
        have w30 : Xi T3 (276 + cl) 2 = Xi T2 (276 + cl) 2 := (show Xi T3 (276 + cl) 2 = Xi T2 (276 + cl) 2 from FR_clj w29 rfl (by omega))
        have w31 : Xi T3 (276 + cl) 5 = Xi T2 (276 + cl) 5 := (show Xi T3 (276 + cl) 5 = Xi T2 (276 + cl) 5 from FR_clj w29 rfl (by omega))
        have w32 : Xi T3 5 3 = Xi T2 5 3 := (show Xi T3 5 3 = Xi T2 5 3 from w29.x _ _ rfl)
        have w34 : Xi T3 876 8 = Xi T2 876 8 := (show Xi T3 876 8 = Xi T2 876 8 from w29.x _ _ rfl)
        have w35 : 0 ≤ Xi T2 876 8 ∧ Xi T2 876 8 ≤ 9 := hHT2.c _ _
        have w36 : Xi T3 895 4 = Xi T2 895 4 := (show Xi T3 895 4 = Xi T2 895 4 from w29.x _ _ rfl)
        have w37 : -1 ≤ Xi T2 895 4 ∧ Xi T2 895 4 ≤ 15 := hHT2.c _ _
        exact ⟨hHT3, hFT3, _, rfl, ⟨by omega, by omega⟩, ((kcl_tr hk203 (by assumption : KCL T2 T3 cl))), (fun q => by first | (exfalso; omega) | exact (by assumption : _ → TSok T3 (0 ≤ Xi S 895 4) cl) q | exact ts_5 (by assumption) ((by assumption : ∀ j, j < 4 → j ≠ 0 → Xi T3 (276 + cl) j = Xi T2 (276 + cl) j) 2 (by decide) (by decide)) hw139 | exact ts_na (by assumption) (by assumption) (by assumption) hw203 (by omega) (by omega) (by omega)), (fun q => by first | omega | (exfalso; omega))⟩
      · refine l_aload_n rfl rfl ?_
        refine l_gfr rfl rfl rfl rfl rfl (hHT2.r 899 0 876 rfl) ?_
        refine l_iload rfl rfl ?_
        refine l_if_ne rfl rfl (by unfold rg; omega) (fun w38 => ?_) (fun w39 => ?_)
        · refine l_bipush rfl rfl ?_
          refine l_iload rfl rfl ?_
          refine l_callV rfl rfl rfl (t_to_wrong hHT2 7 v6 ⟨by omega, by omega⟩ ⟨by omega, by omega⟩ _) ?_
          rintro _ T4 ⟨hHT4, w45, z44, rfl, w44, w42, w43⟩
          have hFT4 : FR md_rr_test S T4 := FR.tr hFT2 w45 rfl
          show Rl _ _ _ _ _ [iv z44] _ _
          refine l_ireturn rfl (retI_z (by omega)) ?_
          have w46 : Xi T4 (276 + cl) 0 = Xi T2 (276 + cl) 0 := (show Xi T4 (276 + cl) 0 = Xi T2 (276 + cl) 0 from FR_cl w45 rfl (by omega))
          have w47 : Xi T4 (276 + cl) 2 = Xi T2 (276 + cl) 2 := (show Xi T4 (276 + cl) 2 = Xi T2 (276 + cl) 2 from FR_cl w45 rfl (by omega))
          have w48 : Xi T4 (276 + cl) 3 = Xi T2 (276 + cl) 3 := (show Xi T4 (276 + cl) 3 = Xi T2 (276 + cl) 3 from FR_cl w45 rfl (by omega))
          have w49 : Xi T4 (276 + cl) 4 = Xi T2 (276 + cl) 4 := (show Xi T4 (276 + cl) 4 = Xi T2 (276 + cl) 4 from FR_cl w45 rfl (by omega))
          have w50 : Xi T4 (276 + cl) 5 = Xi T2 (276 + cl) 5 := (show Xi T4 (276 + cl) 5 = Xi T2 (276 + cl) 5 from FR_cl w45 rfl (by omega))
          have w51 : Xi T4 5 3 = Xi T2 5 3 := (show Xi T4 5 3 = Xi T2 5 3 from w45.x _ _ rfl)
          have w52 : 0 ≤ Xi T2 5 3 ∧ Xi T2 5 3 ≤ 24 := hHT2.c _ _
          have w53 : 0 ≤ Xi T4 876 8 ∧ Xi T4 876 8 ≤ 9 := hHT4.c _ _
          have w54 : Xi T4 895 4 = Xi T2 895 4 := (show Xi T4 895 4 = Xi T2 895 4 from w45.x _ _ rfl)
          have w55 : -1 ≤ Xi T2 895 4 ∧ Xi T2 895 4 ≤ 15 := hHT2.c _ _
          exact ⟨hHT4, hFT4, _, rfl, ⟨by omega, by omega⟩, ((kcl_f w45 rfl hk203)), (fun q => by first | (exfalso; omega) | exact (by assumption : _ → TSok T4 (0 ≤ Xi S 895 4) cl) q | exact ts_5 (by assumption) ((by assumption : ∀ j, j < 4 → j ≠ 0 → Xi T4 (276 + cl) j = Xi T2 (276 + cl) j) 2 (by decide) (by decide)) hw139 | exact ts_na (by assumption) (by assumption) (by assumption) hw203 (by omega) (by omega) (by omega)), (fun q => by first | omega | (exfalso; omega))⟩
        · refine l_iconst rfl ?_
          refine l_goto rfl rfl ?_
          refine l_iload rfl rfl ?_
          refine l_callV rfl rfl rfl (t_to_wrong hHT2 4 v6 ⟨by omega, by omega⟩ ⟨by omega, by omega⟩ _) ?_
          rintro _ T5 ⟨hHT5, w61, z60, rfl, w60, w58, w59⟩
          have hFT5 : FR md_rr_test S T5 := FR.tr hFT2 w61 rfl
          show Rl _ _ _ _ _ [iv z60] _ _
          refine l_ireturn rfl (retI_z (by omega)) ?_
          have w62 : Xi T5 (276 + cl) 0 = Xi T2 (276 + cl) 0 := (show Xi T5 (276 + cl) 0 = Xi T2 (276 + cl) 0 from FR_cl w61 rfl (by omega))
          have w63 : Xi T5 (276 + cl) 2 = Xi T2 (276 + cl) 2 := (show Xi T5 (276 + cl) 2 = Xi T2 (276 + cl) 2 from FR_cl w61 rfl (by omega))
          have w64 : Xi T5 (276 + cl) 3 = Xi T2 (276 + cl) 3 := (show Xi T5 (276 + cl) 3 = Xi T2 (276 + cl) 3 from FR_cl w61 rfl (by omega))
          have w65 : Xi T5 (276 + cl) 4 = Xi T2 (276 + cl) 4 := (show Xi T5 (276 + cl) 4 = Xi T2 (276 + cl) 4 from FR_cl w61 rfl (by omega))
          have w66 : Xi T5 (276 + cl) 5 = Xi T2 (276 + cl) 5 := (show Xi T5 (276 + cl) 5 = Xi T2 (276 + cl) 5 from FR_cl w61 rfl (by omega))
          have w67 : Xi T5 5 3 = Xi T2 5 3 := (show Xi T5 5 3 = Xi T2 5 3 from w61.x _ _ rfl)
          have w69 : 0 ≤ Xi T5 876 8 ∧ Xi T5 876 8 ≤ 9 := hHT5.c _ _
          have w70 : Xi T5 895 4 = Xi T2 895 4 := (show Xi T5 895 4 = Xi T2 895 4 from w61.x _ _ rfl)
          have w71 : -1 ≤ Xi T2 895 4 ∧ Xi T2 895 4 ≤ 15 := hHT2.c _ _
          exact ⟨hHT5, hFT5, _, rfl, ⟨by omega, by omega⟩, ((kcl_f w61 rfl hk203)), (fun q => by first | (exfalso; omega) | exact (by assumption : _ → TSok T5 (0 ≤ Xi S 895 4) cl) q | exact ts_5 (by assumption) ((by assumption : ∀ j, j < 4 → j ≠ 0 → Xi T5 (276 + cl) j = Xi T2 (276 + cl) j) 2 (by decide) (by decide)) hw139 | exact ts_na (by assumption) (by assumption) (by assumption) hw203 (by omega) (by omega) (by omega)), (fun q => by first | omega | (exfalso; omega))⟩
    refine l_aload_n rfl rfl ?_
    refine l_gfr rfl rfl rfl rfl rfl (hHT1.r 899 0 876 rfl) ?_
    refine l_iload rfl rfl ?_
    have w73 : 0 ≤ Xi T1 876 7 ∧ Xi T1 876 7 ≤ 5125 := hHT1.c _ _
    refine l_callV rfl rfl rfl (t_to_typeAt hHT1 v6 ⟨by omega, by omega⟩ _) ?_
    rintro _ _ ⟨rfl, z78, rfl, w78, w75, w76, w77⟩
    clear w76 w77
    show Rl _ _ _ _ _ [iv z78] _ _
    refine l_bipush rfl rfl ?_
    refine l_icmp_eq rfl rfl (by unfold rg; omega) (by unfold rg; omega) (fun w79 => ?_) (fun w80 => ?_)
    · refine l_aload_n rfl rfl ?_
      refine l_gfr rfl rfl rfl rfl rfl (hHT1.r 899 2 895 rfl) ?_
      refine l_aload_n rfl rfl ?_
      refine l_gfr rfl rfl rfl rfl rfl (hHT1.r 899 2 895 rfl) ?_
      refine l_gfi rfl rfl rfl rfl rfl ?_
      have w81 : -1 ≤ (Xi T1 895 6) ∧ (Xi T1 895 6) ≤ 15 := hHT1.c _ _
      refine l_iload rfl rfl ?_
      refine l_iload_n rfl rfl ?_
      refine l_aload_n rfl rfl ?_
      refine l_gfi rfl rfl rfl (layCl (by omega)) rfl ?_
      have w82 : 0 ≤ (Xi T1 (276 + cl) 1) ∧ (Xi T1 (276 + cl) 1) ≤ 1 := clc1 hHT1 (by omega)
      refine l_if_ne rfl rfl (by unfold rg; omega) (fun w83 => ?_) (fun w84 => ?_)
      · refine l_iconst rfl ?_
        refine l_iload rfl rfl ?_
        refine l_if_ne rfl rfl (by unfold rg; omega) (fun w85 => ?_) (fun w86 => ?_)
        · refine l_iconst rfl ?_
          have w87 : 0 ≤ Xi T1 5 3 ∧ Xi T1 5 3 ≤ 24 := hHT1.c _ _
          refine l_callV rfl rfl rfl (t_me_readAdjective hHT1 (Xi T1 895 6) v6 to 0 0 ⟨by omega, by omega⟩ ⟨by omega, by omega⟩ ⟨by omega, by omega⟩ ⟨by omega, by omega⟩ ⟨by omega, by omega⟩ (by first | assumption | exact (LEX_FR hFT1 rfl rfl (by assumption : LEX S))) _) ?_
          rintro _ T6 ⟨hHT6, w92, z91, rfl, w91, w89, w90⟩
          have hFT6 : FR md_rr_test S T6 := FR.tr hFT1 w92 rfl
          show Rl _ _ _ _ _ [iv z91] _ _
          refine l_istore rfl rfl rfl ?_
          have w93 : Xi T6 (276 + cl) 0 = Xi T1 (276 + cl) 0 := (show Xi T6 (276 + cl) 0 = Xi T1 (276 + cl) 0 from FR_cl w92 rfl (by omega))
          have w94 : Xi T6 (276 + cl) 2 = Xi T1 (276 + cl) 2 := (show Xi T6 (276 + cl) 2 = Xi T1 (276 + cl) 2 from FR_cl w92 rfl (by omega))
          have w95 : Xi T6 (276 + cl) 3 = Xi T1 (276 + cl) 3 := (show Xi T6 (276 + cl) 3 = Xi T1 (276 + cl) 3 from FR_cl w92 rfl (by omega))
          have w96 : Xi T6 (276 + cl) 4 = Xi T1 (276 + cl) 4 := (show Xi T6 (276 + cl) 4 = Xi T1 (276 + cl) 4 from FR_cl w92 rfl (by omega))
          have w97 : Xi T6 (276 + cl) 5 = Xi T1 (276 + cl) 5 := (show Xi T6 (276 + cl) 5 = Xi T1 (276 + cl) 5 from FR_cl w92 rfl (by omega))
          have w98 : Xi T6 5 3 = Xi T1 5 3 := (show Xi T6 5 3 = Xi T1 5 3 from w92.x _ _ rfl)
          have w100 : Xi T6 895 4 = Xi T1 895 4 := (show Xi T6 895 4 = Xi T1 895 4 from w92.x _ _ rfl)
          have w101 : -1 ≤ Xi T1 895 4 ∧ Xi T1 895 4 ≤ 15 := hHT1.c _ _
          have w102 : 0 ≤ Xi T6 895 8 ∧ Xi T6 895 8 ≤ 255 := hHT6.c _ _
          have w103 : -1 ≤ Xi T6 895 9 ∧ Xi T6 895 9 ≤ 11 := hHT6.c _ _
          exact Rl_weak (C203 T6 hHT6 hFT6 (v6) (z91) (by omega) (by omega) ((kcl_f w92 rfl hk139)) (who_e (by omega) hw139) (by omega) (by omega)) (And.intro rfl (And.intro rfl (And.intro rfl (And.intro rfl (True.intro)))))
        · refine l_iconst rfl ?_
          refine l_goto rfl rfl ?_
          have w104 : 0 ≤ Xi T1 5 3 ∧ Xi T1 5 3 ≤ 24 := hHT1.c _ _
          refine l_callV rfl rfl rfl (t_me_readAdjective hHT1 (Xi T1 895 6) v6 to 0 1 ⟨by omega, by omega⟩ ⟨by omega, by omega⟩ ⟨by omega, by omega⟩ ⟨by omega, by omega⟩ ⟨by omega, by omega⟩ (by first | assumption | exact (LEX_FR hFT1 rfl rfl (by assumption : LEX S))) _) ?_
          rintro _ T7 ⟨hHT7, w109, z108, rfl, w108, w106, w107⟩
          have hFT7 : FR md_rr_test S T7 := FR.tr hFT1 w109 rfl
          show Rl _ _ _ _ _ [iv z108] _ _
          refine l_istore rfl rfl rfl ?_
          have w110 : Xi T7 (276 + cl) 0 = Xi T1 (276 + cl) 0 := (show Xi T7 (276 + cl) 0 = Xi T1 (276 + cl) 0 from FR_cl w109 rfl (by omega))
          have w111 : Xi T7 (276 + cl) 2 = Xi T1 (276 + cl) 2 := (show Xi T7 (276 + cl) 2 = Xi T1 (276 + cl) 2 from FR_cl w109 rfl (by omega))
          have w112 : Xi T7 (276 + cl) 3 = Xi T1 (276 + cl) 3 := (show Xi T7 (276 + cl) 3 = Xi T1 (276 + cl) 3 from FR_cl w109 rfl (by omega))
          have w113 : Xi T7 (276 + cl) 4 = Xi T1 (276 + cl) 4 := (show Xi T7 (276 + cl) 4 = Xi T1 (276 + cl) 4 from FR_cl w109 rfl (by omega))
          have w114 : Xi T7 (276 + cl) 5 = Xi T1 (276 + cl) 5 := (show Xi T7 (276 + cl) 5 = Xi T1 (276 + cl) 5 from FR_cl w109 rfl (by omega))
          have w115 : Xi T7 5 3 = Xi T1 5 3 := (show Xi T7 5 3 = Xi T1 5 3 from w109.x _ _ rfl)
          have w117 : Xi T7 895 4 = Xi T1 895 4 := (show Xi T7 895 4 = Xi T1 895 4 from w109.x _ _ rfl)
          have w118 : -1 ≤ Xi T1 895 4 ∧ Xi T1 895 4 ≤ 15 := hHT1.c _ _
          have w119 : 0 ≤ Xi T7 895 8 ∧ Xi T7 895 8 ≤ 255 := hHT7.c _ _
          have w120 : -1 ≤ Xi T7 895 9 ∧ Xi T7 895 9 ≤ 11 := hHT7.c _ _
          exact Rl_weak (C203 T7 hHT7 hFT7 (v6) (z108) (by omega) (by omega) ((kcl_f w109 rfl hk139)) (who_e (by omega) hw139) (by omega) (by omega)) (And.intro rfl (And.intro rfl (And.intro rfl (And.intro rfl (True.intro)))))
      · refine l_iconst rfl ?_
        refine l_goto rfl rfl ?_
        refine l_iload rfl rfl ?_
        refine l_if_ne rfl rfl (by unfold rg; omega) (fun w121 => ?_) (fun w122 => ?_)
        · refine l_iconst rfl ?_
          have w123 : 0 ≤ Xi T1 5 3 ∧ Xi T1 5 3 ≤ 24 := hHT1.c _ _
          refine l_callV rfl rfl rfl (t_me_readAdjective hHT1 (Xi T1 895 6) v6 to 1 0 ⟨by omega, by omega⟩ ⟨by omega, by omega⟩ ⟨by omega, by omega⟩ ⟨by omega, by omega⟩ ⟨by omega, by omega⟩ (by first | assumption | exact (LEX_FR hFT1 rfl rfl (by assumption : LEX S))) _) ?_
          rintro _ T8 ⟨hHT8, w128, z127, rfl, w127, w125, w126⟩
          have hFT8 : FR md_rr_test S T8 := FR.tr hFT1 w128 rfl
          show Rl _ _ _ _ _ [iv z127] _ _
          refine l_istore rfl rfl rfl ?_
          have w129 : Xi T8 (276 + cl) 0 = Xi T1 (276 + cl) 0 := (show Xi T8 (276 + cl) 0 = Xi T1 (276 + cl) 0 from FR_cl w128 rfl (by omega))
          have w130 : Xi T8 (276 + cl) 2 = Xi T1 (276 + cl) 2 := (show Xi T8 (276 + cl) 2 = Xi T1 (276 + cl) 2 from FR_cl w128 rfl (by omega))
          have w131 : Xi T8 (276 + cl) 3 = Xi T1 (276 + cl) 3 := (show Xi T8 (276 + cl) 3 = Xi T1 (276 + cl) 3 from FR_cl w128 rfl (by omega))
          have w132 : Xi T8 (276 + cl) 4 = Xi T1 (276 + cl) 4 := (show Xi T8 (276 + cl) 4 = Xi T1 (276 + cl) 4 from FR_cl w128 rfl (by omega))
          have w133 : Xi T8 (276 + cl) 5 = Xi T1 (276 + cl) 5 := (show Xi T8 (276 + cl) 5 = Xi T1 (276 + cl) 5 from FR_cl w128 rfl (by omega))
          have w134 : Xi T8 5 3 = Xi T1 5 3 := (show Xi T8 5 3 = Xi T1 5 3 from w128.x _ _ rfl)
          have w136 : Xi T8 895 4 = Xi T1 895 4 := (show Xi T8 895 4 = Xi T1 895 4 from w128.x _ _ rfl)
          have w137 : -1 ≤ Xi T1 895 4 ∧ Xi T1 895 4 ≤ 15 := hHT1.c _ _
          have w138 : 0 ≤ Xi T8 895 8 ∧ Xi T8 895 8 ≤ 255 := hHT8.c _ _
          have w139 : -1 ≤ Xi T8 895 9 ∧ Xi T8 895 9 ≤ 11 := hHT8.c _ _
          exact Rl_weak (C203 T8 hHT8 hFT8 (v6) (z127) (by omega) (by omega) ((kcl_f w128 rfl hk139)) (who_e (by omega) hw139) (by omega) (by omega)) (And.intro rfl (And.intro rfl (And.intro rfl (And.intro rfl (True.intro)))))
        · refine l_iconst rfl ?_
          refine l_goto rfl rfl ?_
          have w140 : 0 ≤ Xi T1 5 3 ∧ Xi T1 5 3 ≤ 24 := hHT1.c _ _
          refine l_callV rfl rfl rfl (t_me_readAdjective hHT1 (Xi T1 895 6) v6 to 1 1 ⟨by omega, by omega⟩ ⟨by omega, by omega⟩ ⟨by omega, by omega⟩ ⟨by omega, by omega⟩ ⟨by omega, by omega⟩ (by first | assumption | exact (LEX_FR hFT1 rfl rfl (by assumption : LEX S))) _) ?_
          rintro _ T9 ⟨hHT9, w145, z144, rfl, w144, w142, w143⟩
          have hFT9 : FR md_rr_test S T9 := FR.tr hFT1 w145 rfl
          show Rl _ _ _ _ _ [iv z144] _ _
          refine l_istore rfl rfl rfl ?_
          have w146 : Xi T9 (276 + cl) 0 = Xi T1 (276 + cl) 0 := (show Xi T9 (276 + cl) 0 = Xi T1 (276 + cl) 0 from FR_cl w145 rfl (by omega))
          have w147 : Xi T9 (276 + cl) 2 = Xi T1 (276 + cl) 2 := (show Xi T9 (276 + cl) 2 = Xi T1 (276 + cl) 2 from FR_cl w145 rfl (by omega))
          have w148 : Xi T9 (276 + cl) 3 = Xi T1 (276 + cl) 3 := (show Xi T9 (276 + cl) 3 = Xi T1 (276 + cl) 3 from FR_cl w145 rfl (by omega))
          have w149 : Xi T9 (276 + cl) 4 = Xi T1 (276 + cl) 4 := (show Xi T9 (276 + cl) 4 = Xi T1 (276 + cl) 4 from FR_cl w145 rfl (by omega))
          have w150 : Xi T9 (276 + cl) 5 = Xi T1 (276 + cl) 5 := (show Xi T9 (276 + cl) 5 = Xi T1 (276 + cl) 5 from FR_cl w145 rfl (by omega))
          have w151 : Xi T9 5 3 = Xi T1 5 3 := (show Xi T9 5 3 = Xi T1 5 3 from w145.x _ _ rfl)
          have w153 : Xi T9 895 4 = Xi T1 895 4 := (show Xi T9 895 4 = Xi T1 895 4 from w145.x _ _ rfl)
          have w154 : -1 ≤ Xi T1 895 4 ∧ Xi T1 895 4 ≤ 15 := hHT1.c _ _
          have w155 : 0 ≤ Xi T9 895 8 ∧ Xi T9 895 8 ≤ 255 := hHT9.c _ _
          have w156 : -1 ≤ Xi T9 895 9 ∧ Xi T9 895 9 ≤ 11 := hHT9.c _ _
          exact Rl_weak (C203 T9 hHT9 hFT9 (v6) (z144) (by omega) (by omega) ((kcl_f w145 rfl hk139)) (who_e (by omega) hw139) (by omega) (by omega)) (And.intro rfl (And.intro rfl (And.intro rfl (And.intro rfl (True.intro)))))
    · refine l_aload_n rfl rfl ?_
      refine l_iload rfl rfl ?_
      refine l_iload_n rfl rfl ?_
      refine l_aload_n rfl rfl ?_
      refine l_callV rfl rfl rfl (t_rr_placeTest hHT1 v6 to cl ⟨by omega, by omega⟩ ⟨by omega, by omega⟩ (by omega) (by first | assumption | exact (LEX_FR hFT1 rfl rfl (by assumption : LEX S))) _) ?_
      rintro _ T10 ⟨hHT10, w164, z163, rfl, w163, w159, w160, w161, w162⟩
      have hFT10 : FR md_rr_test S T10 := FR.tr hFT1 w164 rfl
      show Rl _ _ _ _ _ [iv z163] _ _
      refine l_ireturn rfl (retI_z (by omega)) ?_
      have w165 : Xi T10 (276 + cl) 2 = Xi T1 (276 + cl) 2 := (show Xi T10 (276 + cl) 2 = Xi T1 (276 + cl) 2 from FR_clj w164 rfl (by omega))
      have w166 : Xi T10 (276 + cl) 3 = Xi T1 (276 + cl) 3 := (show Xi T10 (276 + cl) 3 = Xi T1 (276 + cl) 3 from FR_clj w164 rfl (by omega))
      have w167 : Xi T10 (276 + cl) 5 = Xi T1 (276 + cl) 5 := (show Xi T10 (276 + cl) 5 = Xi T1 (276 + cl) 5 from FR_clj w164 rfl (by omega))
      have w168 : Xi T10 5 3 = Xi T1 5 3 := (show Xi T10 5 3 = Xi T1 5 3 from w164.x _ _ rfl)
      have w169 : 0 ≤ Xi T1 5 3 ∧ Xi T1 5 3 ≤ 24 := hHT1.c _ _
      have w170 : 0 ≤ Xi T10 876 8 ∧ Xi T10 876 8 ≤ 9 := hHT10.c _ _
      have w171 : Xi T10 895 4 = Xi T1 895 4 := (show Xi T10 895 4 = Xi T1 895 4 from w164.x _ _ rfl)
      have w172 : -1 ≤ Xi T1 895 4 ∧ Xi T1 895 4 ≤ 15 := hHT1.c _ _
      exact ⟨hHT10, hFT10, _, rfl, ⟨by omega, by omega⟩, ((kcl_tr hk139 (by assumption : KCL T1 T10 cl))), (fun q => by first | (exfalso; omega) | exact (by assumption : _ → TSok T10 (0 ≤ Xi S 895 4) cl) q | exact ts_5 (by assumption) ((by assumption : ∀ j, j < 4 → j ≠ 0 → Xi T10 (276 + cl) j = Xi T1 (276 + cl) j) 2 (by decide) (by decide)) hw139 | exact ts_na (by assumption) (by assumption) (by assumption) hw203 (by omega) (by omega) (by omega)), (fun q => by first | omega | (exfalso; omega))⟩
  refine l_aload_n rfl rfl ?_
  refine l_gfr rfl rfl rfl rfl rfl (hH.r 899 0 876 rfl) ?_
  refine l_iconst rfl ?_
  refine l_iload_n rfl rfl ?_
  refine l_iload_n rfl rfl ?_
  refine l_callV rfl rfl rfl (t_to_firstOf hH 4 from_ to ⟨by omega, by omega⟩ ⟨by omega, by omega⟩ ⟨by omega, by omega⟩ _) ?_
  rintro _ _ ⟨rfl, z176, rfl, w176, w175⟩
  show Rl _ _ _ _ _ [iv z176] _ _
  refine l_istore rfl rfl rfl ?_
  refine l_iload rfl rfl ?_
  refine l_iconst rfl ?_
  refine l_icmp_ne rfl rfl (by unfold rg; omega) (by unfold rg; omega) (fun w177 => ?_) (fun w178 => ?_)
  · refine l_aload_n rfl rfl ?_
    refine l_gfr rfl rfl rfl rfl rfl (hH.r 899 0 876 rfl) ?_
    refine l_iload_n rfl rfl ?_
    refine l_callV rfl rfl rfl (t_to_beginsProperty hH from_ ⟨by omega, by omega⟩ _) ?_
    rintro _ _ ⟨rfl, z182, rfl, w182, w181⟩
    show Rl _ _ _ _ _ [iv z182] _ _
    have p31 : z182 = 1 → from_ + 2 < Xi S 876 7 := fun q => (prop_lt ((by assumption : z182 = 1 → PROP S from_) q)).2
    refine l_if_eq rfl rfl (by unfold rg; omega) (fun w183 => ?_) (fun w184 => ?_)
    · refine l_aload_n rfl rfl ?_
      refine l_gfr rfl rfl rfl rfl rfl (hH.r 899 2 895 rfl) ?_
      refine l_iload_n rfl rfl ?_
      refine l_iload_n rfl rfl ?_
      refine l_callV rfl rfl rfl (t_me_readThing hH from_ to ⟨by omega, by omega⟩ ⟨by omega, by omega⟩ (by first | assumption | exact (LEX_FR hF rfl rfl (by assumption : LEX S))) _) ?_
      rintro _ T11 ⟨hHT11, w192, z191, rfl, w191, w187, w188, w189, w190⟩
      have hFT11 : FR md_rr_test S T11 := FR.tr hF w192 rfl
      show Rl _ _ _ _ _ [iv z191] _ _
      have w52 : Xi T11 895 5 ≠ -1 → WHO (0 ≤ Xi S 895 4) (Xi T11 895 5) := fun q => who_of q (hHT11.c 895 5).1 (fun e => by have t := (by assumption : Xi T11 895 5 = -2 → 0 ≤ Xi S 895 4) e; omega)
      refine l_pop rfl rfl ?_
      refine l_aload_n rfl rfl ?_
      refine l_gfr rfl rfl rfl rfl rfl (hHT11.r 899 2 895 rfl) ?_
      refine l_gfi rfl rfl rfl rfl rfl ?_
      have w193 : -2 ≤ (Xi T11 895 5) ∧ (Xi T11 895 5) ≤ 23 := hHT11.c _ _
      refine l_iconst rfl ?_
      refine l_icmp_ne rfl rfl (by unfold rg; omega) (by unfold rg; omega) (fun w194 => ?_) (fun w195 => ?_)
      · refine l_aload_n rfl rfl ?_
        refine l_aload_n rfl rfl ?_
        refine l_gfr rfl rfl rfl rfl rfl (hHT11.r 899 2 895 rfl) ?_
        refine l_gfi rfl rfl rfl rfl rfl ?_
        refine l_pfi rfl rfl (layClW (by omega) rfl) rfl ?_
        obtain ⟨U12, eU12⟩ : ∃ T : sS, T = uI T11 (276 + cl) 2 (Int32.ofInt (Xi T11 895 5)) := ⟨_, rfl⟩
        rw [← eU12]
        have hHU12 : HI U12 := by rw [eU12]; exact HI_w hHT11 (by rw [lh_cl2 (by omega)]; omega) (by rw [lh_cl2 (by omega)]; omega)
        have hFU12 : FR md_rr_test S U12 := by rw [eU12]; exact FR.wI hFT11 (mdf_i (r := (276, 876, 2, 3)) (List.mem_of_getElem? (i := 2) rfl) (inR_i (by omega) (by omega) (by omega) (by omega)))
        have w196 : Xi U12 (276 + cl) 2 = (Xi T11 895 5) := by rw [eU12]; exact Xi_same (by unfold rg; omega)
        refine l_aload_n rfl rfl ?_
        refine l_aload_n rfl rfl ?_
        refine l_gfr rfl rfl rfl rfl rfl (hHU12.r 899 0 876 rfl) ?_
        refine l_iload rfl rfl ?_
        refine l_iconst rfl ?_
        refine l_iadd rfl ?_
        have w197 : Xi U12 (276 + cl) 0 = Xi S (276 + cl) 0 := (show Xi U12 (276 + cl) 0 = Xi T11 (276 + cl) 0 from by rw [eU12]; exact Xi_ne (by omega)).trans ((show Xi T11 (276 + cl) 0 = Xi S (276 + cl) 0 from FR_cl w192 rfl (by omega)))
        have w198 : Xi U12 (276 + cl) 3 = Xi S (276 + cl) 3 := (show Xi U12 (276 + cl) 3 = Xi T11 (276 + cl) 3 from by rw [eU12]; exact Xi_ne (by omega)).trans ((show Xi T11 (276 + cl) 3 = Xi S (276 + cl) 3 from FR_cl w192 rfl (by omega)))
        have w199 : Xi U12 (276 + cl) 4 = Xi S (276 + cl) 4 := (show Xi U12 (276 + cl) 4 = Xi T11 (276 + cl) 4 from by rw [eU12]; exact Xi_ne (by omega)).trans ((show Xi T11 (276 + cl) 4 = Xi S (276 + cl) 4 from FR_cl w192 rfl (by omega)))
        have w200 : Xi U12 (276 + cl) 5 = Xi S (276 + cl) 5 := (show Xi U12 (276 + cl) 5 = Xi T11 (276 + cl) 5 from by rw [eU12]; exact Xi_ne (by omega)).trans ((show Xi T11 (276 + cl) 5 = Xi S (276 + cl) 5 from FR_cl w192 rfl (by omega)))
        have w203 : Xi U12 876 7 = Xi S 876 7 := (show Xi U12 876 7 = Xi T11 876 7 from by rw [eU12]; exact Xi_ne (by omega)).trans ((show Xi T11 876 7 = Xi S 876 7 from w192.x _ _ rfl))
        have w204 : 0 ≤ Xi S 876 7 ∧ Xi S 876 7 ≤ 5125 := hH.c _ _
        refine l_callV rfl rfl rfl (t_to_typeAt hHU12 (z176 + 1) ⟨by omega, by omega⟩ _) ?_
        rintro _ _ ⟨rfl, z210, rfl, w210, w207, w208, w209⟩
        clear w208 w209
        show Rl _ _ _ _ _ [iv z210, .ref (276 + cl)] _ _
        refine l_bipush rfl rfl ?_
        refine l_icmp_ne rfl rfl (by unfold rg; omega) (by unfold rg; omega) (fun w211 => ?_) (fun w212 => ?_)
        · refine l_iconst rfl ?_
          refine l_pfz rfl rfl (layClW (by omega) rfl) rfl (by omega) ?_
          obtain ⟨U13, eU13⟩ : ∃ T : sS, T = uI U12 (276 + cl) 1 (Int32.ofInt 0) := ⟨_, rfl⟩
          rw [← eU13]
          have hHU13 : HI U13 := by rw [eU13]; exact HI_w hHU12 (by rw [lh_cl1 (by omega)]; omega) (by rw [lh_cl1 (by omega)]; omega)
          have hFU13 : FR md_rr_test S U13 := by rw [eU13]; exact FR.wI hFU12 (mdf_i (r := (276, 876, 1, 2)) (List.mem_of_getElem? (i := 1) rfl) (inR_i (by omega) (by omega) (by omega) (by omega)))
          have w213 : Xi U13 (276 + cl) 1 = 0 := by rw [eU13]; exact Xi_same (by unfold rg; omega)
          refine l_aload_n rfl rfl ?_
          refine l_gfi rfl rfl rfl (layCl (by omega)) rfl ?_
          refine l_if_eq rfl rfl (by unfold rg; omega) (fun w214 => ?_) (fun w215 => ?_)
          · refine l_iload rfl rfl ?_
            refine l_iconst rfl ?_
            refine l_iadd rfl ?_
            refine l_istore rfl rfl rfl ?_
            have w216 : Xi U13 (276 + cl) 0 = Xi S (276 + cl) 0 := (show Xi U13 (276 + cl) 0 = Xi U12 (276 + cl) 0 from by rw [eU13]; exact Xi_ne (by omega)).trans ( (show Xi U12 (276 + cl) 0 = Xi T11 (276 + cl) 0 from by rw [eU12]; exact Xi_ne (by omega)).trans ((show Xi T11 (276 + cl) 0 = Xi S (276 + cl) 0 from FR_cl w192 rfl (by omega))))
            have w217 : Xi U13 (276 + cl) 2 = Xi U12 (276 + cl) 2 := (show Xi U13 (276 + cl) 2 = Xi U12 (276 + cl) 2 from by rw [eU13]; exact Xi_ne (by omega))
            have w218 : Xi U13 (276 + cl) 3 = Xi S (276 + cl) 3 := (show Xi U13 (276 + cl) 3 = Xi U12 (276 + cl) 3 from by rw [eU13]; exact Xi_ne (by omega)).trans ( (show Xi U12 (276 + cl) 3 = Xi T11 (276 + cl) 3 from by rw [eU12]; exact Xi_ne (by omega)).trans ((show Xi T11 (276 + cl) 3 = Xi S (276 + cl) 3 from FR_cl w192 rfl (by omega))))
            have w219 : Xi U13 (276 + cl) 4 = Xi S (276 + cl) 4 := (show Xi U13 (276 + cl) 4 = Xi U12 (276 + cl) 4 from by rw [eU13]; exact Xi_ne (by omega)).trans ( (show Xi U12 (276 + cl) 4 = Xi T11 (276 + cl) 4 from by rw [eU12]; exact Xi_ne (by omega)).trans ((show Xi T11 (276 + cl) 4 = Xi S (276 + cl) 4 from FR_cl w192 rfl (by omega))))
            have w220 : Xi U13 (276 + cl) 5 = Xi S (276 + cl) 5 := (show Xi U13 (276 + cl) 5 = Xi U12 (276 + cl) 5 from by rw [eU13]; exact Xi_ne (by omega)).trans ( (show Xi U12 (276 + cl) 5 = Xi T11 (276 + cl) 5 from by rw [eU12]; exact Xi_ne (by omega)).trans ((show Xi T11 (276 + cl) 5 = Xi S (276 + cl) 5 from FR_cl w192 rfl (by omega))))
            have w221 : Xi U13 5 3 = Xi S 5 3 := (show Xi U13 5 3 = Xi U12 5 3 from by rw [eU13]; exact Xi_ne (by omega)).trans ( (show Xi U12 5 3 = Xi T11 5 3 from by rw [eU12]; exact Xi_ne (by omega)).trans ((show Xi T11 5 3 = Xi S 5 3 from w192.x _ _ rfl)))
            have w223 : Xi U13 895 4 = Xi S 895 4 := (show Xi U13 895 4 = Xi U12 895 4 from by rw [eU13]; exact Xi_ne (by omega)).trans ( (show Xi U12 895 4 = Xi T11 895 4 from by rw [eU12]; exact Xi_ne (by omega)).trans ((show Xi T11 895 4 = Xi S 895 4 from w192.x _ _ rfl)))
            exact Rl_weak (C139 U13 hHU13 hFU13 ((z176 + 1)) (by omega) ((kcl_w eU13 (kcl_w eU12 (kcl_f w192 rfl KCL.rf)))) (who_e (by omega) (w52 (by omega))) (by omega)) (And.intro rfl (And.intro rfl (And.intro rfl (And.intro rfl (And.intro rfl (True.intro))))))
          · refine l_iload rfl rfl ?_
            refine l_iconst rfl ?_
            refine l_iadd rfl ?_
            refine l_goto rfl rfl ?_
            refine l_istore rfl rfl rfl ?_
            have w225 : Xi U13 (276 + cl) 0 = Xi S (276 + cl) 0 := (show Xi U13 (276 + cl) 0 = Xi U12 (276 + cl) 0 from by rw [eU13]; exact Xi_ne (by omega)).trans ( (show Xi U12 (276 + cl) 0 = Xi T11 (276 + cl) 0 from by rw [eU12]; exact Xi_ne (by omega)).trans ((show Xi T11 (276 + cl) 0 = Xi S (276 + cl) 0 from FR_cl w192 rfl (by omega))))
            have w226 : Xi U13 (276 + cl) 2 = Xi U12 (276 + cl) 2 := (show Xi U13 (276 + cl) 2 = Xi U12 (276 + cl) 2 from by rw [eU13]; exact Xi_ne (by omega))
            have w227 : Xi U13 (276 + cl) 3 = Xi S (276 + cl) 3 := (show Xi U13 (276 + cl) 3 = Xi U12 (276 + cl) 3 from by rw [eU13]; exact Xi_ne (by omega)).trans ( (show Xi U12 (276 + cl) 3 = Xi T11 (276 + cl) 3 from by rw [eU12]; exact Xi_ne (by omega)).trans ((show Xi T11 (276 + cl) 3 = Xi S (276 + cl) 3 from FR_cl w192 rfl (by omega))))
            have w228 : Xi U13 (276 + cl) 4 = Xi S (276 + cl) 4 := (show Xi U13 (276 + cl) 4 = Xi U12 (276 + cl) 4 from by rw [eU13]; exact Xi_ne (by omega)).trans ( (show Xi U12 (276 + cl) 4 = Xi T11 (276 + cl) 4 from by rw [eU12]; exact Xi_ne (by omega)).trans ((show Xi T11 (276 + cl) 4 = Xi S (276 + cl) 4 from FR_cl w192 rfl (by omega))))
            have w229 : Xi U13 (276 + cl) 5 = Xi S (276 + cl) 5 := (show Xi U13 (276 + cl) 5 = Xi U12 (276 + cl) 5 from by rw [eU13]; exact Xi_ne (by omega)).trans ( (show Xi U12 (276 + cl) 5 = Xi T11 (276 + cl) 5 from by rw [eU12]; exact Xi_ne (by omega)).trans ((show Xi T11 (276 + cl) 5 = Xi S (276 + cl) 5 from FR_cl w192 rfl (by omega))))
            have w230 : Xi U13 5 3 = Xi S 5 3 := (show Xi U13 5 3 = Xi U12 5 3 from by rw [eU13]; exact Xi_ne (by omega)).trans ( (show Xi U12 5 3 = Xi T11 5 3 from by rw [eU12]; exact Xi_ne (by omega)).trans ((show Xi T11 5 3 = Xi S 5 3 from w192.x _ _ rfl)))
            have w232 : Xi U13 895 4 = Xi S 895 4 := (show Xi U13 895 4 = Xi U12 895 4 from by rw [eU13]; exact Xi_ne (by omega)).trans ( (show Xi U12 895 4 = Xi T11 895 4 from by rw [eU12]; exact Xi_ne (by omega)).trans ((show Xi T11 895 4 = Xi S 895 4 from w192.x _ _ rfl)))
            exact Rl_weak (C139 U13 hHU13 hFU13 ((z176 + 2)) (by omega) ((kcl_w eU13 (kcl_w eU12 (kcl_f w192 rfl KCL.rf)))) (who_e (by omega) (w52 (by omega))) (by omega)) (And.intro rfl (And.intro rfl (And.intro rfl (And.intro rfl (And.intro rfl (True.intro))))))
        · refine l_iconst rfl ?_
          refine l_goto rfl rfl ?_
          refine l_pfz rfl rfl (layClW (by omega) rfl) rfl (by omega) ?_
          obtain ⟨U14, eU14⟩ : ∃ T : sS, T = uI U12 (276 + cl) 1 (Int32.ofInt 1) := ⟨_, rfl⟩
          rw [← eU14]
          have hHU14 : HI U14 := by rw [eU14]; exact HI_w hHU12 (by rw [lh_cl1 (by omega)]; omega) (by rw [lh_cl1 (by omega)]; omega)
          have hFU14 : FR md_rr_test S U14 := by rw [eU14]; exact FR.wI hFU12 (mdf_i (r := (276, 876, 1, 2)) (List.mem_of_getElem? (i := 1) rfl) (inR_i (by omega) (by omega) (by omega) (by omega)))
          have w234 : Xi U14 (276 + cl) 1 = 1 := by rw [eU14]; exact Xi_same (by unfold rg; omega)
          refine l_aload_n rfl rfl ?_
          refine l_gfi rfl rfl rfl (layCl (by omega)) rfl ?_
          refine l_if_eq rfl rfl (by unfold rg; omega) (fun w235 => ?_) (fun w236 => ?_)
          · refine l_iload rfl rfl ?_
            refine l_iconst rfl ?_
            refine l_iadd rfl ?_
            refine l_istore rfl rfl rfl ?_
            have w237 : Xi U14 (276 + cl) 0 = Xi S (276 + cl) 0 := (show Xi U14 (276 + cl) 0 = Xi U12 (276 + cl) 0 from by rw [eU14]; exact Xi_ne (by omega)).trans ( (show Xi U12 (276 + cl) 0 = Xi T11 (276 + cl) 0 from by rw [eU12]; exact Xi_ne (by omega)).trans ((show Xi T11 (276 + cl) 0 = Xi S (276 + cl) 0 from FR_cl w192 rfl (by omega))))
            have w238 : Xi U14 (276 + cl) 2 = Xi U12 (276 + cl) 2 := (show Xi U14 (276 + cl) 2 = Xi U12 (276 + cl) 2 from by rw [eU14]; exact Xi_ne (by omega))
            have w239 : Xi U14 (276 + cl) 3 = Xi S (276 + cl) 3 := (show Xi U14 (276 + cl) 3 = Xi U12 (276 + cl) 3 from by rw [eU14]; exact Xi_ne (by omega)).trans ( (show Xi U12 (276 + cl) 3 = Xi T11 (276 + cl) 3 from by rw [eU12]; exact Xi_ne (by omega)).trans ((show Xi T11 (276 + cl) 3 = Xi S (276 + cl) 3 from FR_cl w192 rfl (by omega))))
            have w240 : Xi U14 (276 + cl) 4 = Xi S (276 + cl) 4 := (show Xi U14 (276 + cl) 4 = Xi U12 (276 + cl) 4 from by rw [eU14]; exact Xi_ne (by omega)).trans ( (show Xi U12 (276 + cl) 4 = Xi T11 (276 + cl) 4 from by rw [eU12]; exact Xi_ne (by omega)).trans ((show Xi T11 (276 + cl) 4 = Xi S (276 + cl) 4 from FR_cl w192 rfl (by omega))))
            have w241 : Xi U14 (276 + cl) 5 = Xi S (276 + cl) 5 := (show Xi U14 (276 + cl) 5 = Xi U12 (276 + cl) 5 from by rw [eU14]; exact Xi_ne (by omega)).trans ( (show Xi U12 (276 + cl) 5 = Xi T11 (276 + cl) 5 from by rw [eU12]; exact Xi_ne (by omega)).trans ((show Xi T11 (276 + cl) 5 = Xi S (276 + cl) 5 from FR_cl w192 rfl (by omega))))
            have w242 : Xi U14 5 3 = Xi S 5 3 := (show Xi U14 5 3 = Xi U12 5 3 from by rw [eU14]; exact Xi_ne (by omega)).trans ( (show Xi U12 5 3 = Xi T11 5 3 from by rw [eU12]; exact Xi_ne (by omega)).trans ((show Xi T11 5 3 = Xi S 5 3 from w192.x _ _ rfl)))
            have w244 : Xi U14 895 4 = Xi S 895 4 := (show Xi U14 895 4 = Xi U12 895 4 from by rw [eU14]; exact Xi_ne (by omega)).trans ( (show Xi U12 895 4 = Xi T11 895 4 from by rw [eU12]; exact Xi_ne (by omega)).trans ((show Xi T11 895 4 = Xi S 895 4 from w192.x _ _ rfl)))
            exact Rl_weak (C139 U14 hHU14 hFU14 ((z176 + 1)) (by omega) ((kcl_w eU14 (kcl_w eU12 (kcl_f w192 rfl KCL.rf)))) (who_e (by omega) (w52 (by omega))) (by omega)) (And.intro rfl (And.intro rfl (And.intro rfl (And.intro rfl (And.intro rfl (True.intro))))))
          · refine l_iload rfl rfl ?_
            refine l_iconst rfl ?_
            refine l_iadd rfl ?_
            refine l_goto rfl rfl ?_
            refine l_istore rfl rfl rfl ?_
            have w246 : Xi U14 (276 + cl) 0 = Xi S (276 + cl) 0 := (show Xi U14 (276 + cl) 0 = Xi U12 (276 + cl) 0 from by rw [eU14]; exact Xi_ne (by omega)).trans ( (show Xi U12 (276 + cl) 0 = Xi T11 (276 + cl) 0 from by rw [eU12]; exact Xi_ne (by omega)).trans ((show Xi T11 (276 + cl) 0 = Xi S (276 + cl) 0 from FR_cl w192 rfl (by omega))))
            have w247 : Xi U14 (276 + cl) 2 = Xi U12 (276 + cl) 2 := (show Xi U14 (276 + cl) 2 = Xi U12 (276 + cl) 2 from by rw [eU14]; exact Xi_ne (by omega))
            have w248 : Xi U14 (276 + cl) 3 = Xi S (276 + cl) 3 := (show Xi U14 (276 + cl) 3 = Xi U12 (276 + cl) 3 from by rw [eU14]; exact Xi_ne (by omega)).trans ( (show Xi U12 (276 + cl) 3 = Xi T11 (276 + cl) 3 from by rw [eU12]; exact Xi_ne (by omega)).trans ((show Xi T11 (276 + cl) 3 = Xi S (276 + cl) 3 from FR_cl w192 rfl (by omega))))
            have w249 : Xi U14 (276 + cl) 4 = Xi S (276 + cl) 4 := (show Xi U14 (276 + cl) 4 = Xi U12 (276 + cl) 4 from by rw [eU14]; exact Xi_ne (by omega)).trans ( (show Xi U12 (276 + cl) 4 = Xi T11 (276 + cl) 4 from by rw [eU12]; exact Xi_ne (by omega)).trans ((show Xi T11 (276 + cl) 4 = Xi S (276 + cl) 4 from FR_cl w192 rfl (by omega))))
            have w250 : Xi U14 (276 + cl) 5 = Xi S (276 + cl) 5 := (show Xi U14 (276 + cl) 5 = Xi U12 (276 + cl) 5 from by rw [eU14]; exact Xi_ne (by omega)).trans ( (show Xi U12 (276 + cl) 5 = Xi T11 (276 + cl) 5 from by rw [eU12]; exact Xi_ne (by omega)).trans ((show Xi T11 (276 + cl) 5 = Xi S (276 + cl) 5 from FR_cl w192 rfl (by omega))))
            have w251 : Xi U14 5 3 = Xi S 5 3 := (show Xi U14 5 3 = Xi U12 5 3 from by rw [eU14]; exact Xi_ne (by omega)).trans ( (show Xi U12 5 3 = Xi T11 5 3 from by rw [eU12]; exact Xi_ne (by omega)).trans ((show Xi T11 5 3 = Xi S 5 3 from w192.x _ _ rfl)))
            have w253 : Xi U14 895 4 = Xi S 895 4 := (show Xi U14 895 4 = Xi U12 895 4 from by rw [eU14]; exact Xi_ne (by omega)).trans ( (show Xi U12 895 4 = Xi T11 895 4 from by rw [eU12]; exact Xi_ne (by omega)).trans ((show Xi T11 895 4 = Xi S 895 4 from w192.x _ _ rfl)))
            exact Rl_weak (C139 U14 hHU14 hFU14 ((z176 + 2)) (by omega) ((kcl_w eU14 (kcl_w eU12 (kcl_f w192 rfl KCL.rf)))) (who_e (by omega) (w52 (by omega))) (by omega)) (And.intro rfl (And.intro rfl (And.intro rfl (And.intro rfl (And.intro rfl (True.intro))))))
      · refine l_aload_n rfl rfl ?_
        refine l_gfr rfl rfl rfl rfl rfl (hHT11.r 899 0 876 rfl) ?_
        refine l_iconst rfl ?_
        refine l_aload_n rfl rfl ?_
        refine l_gfr rfl rfl rfl rfl rfl (hHT11.r 899 2 895 rfl) ?_
        refine l_gfi rfl rfl rfl rfl rfl ?_
        have w255 : -2147483648 ≤ (Xi T11 895 7) ∧ (Xi T11 895 7) ≤ 2147483647 := Xi_rgI
        have w256 : Xi T11 (276 + cl) 0 = Xi S (276 + cl) 0 := (show Xi T11 (276 + cl) 0 = Xi S (276 + cl) 0 from FR_cl w192 rfl (by omega))
        have w257 : Xi T11 (276 + cl) 2 = Xi S (276 + cl) 2 := (show Xi T11 (276 + cl) 2 = Xi S (276 + cl) 2 from FR_cl w192 rfl (by omega))
        have w258 : Xi T11 (276 + cl) 3 = Xi S (276 + cl) 3 := (show Xi T11 (276 + cl) 3 = Xi S (276 + cl) 3 from FR_cl w192 rfl (by omega))
        have w259 : Xi T11 (276 + cl) 4 = Xi S (276 + cl) 4 := (show Xi T11 (276 + cl) 4 = Xi S (276 + cl) 4 from FR_cl w192 rfl (by omega))
        have w260 : Xi T11 (276 + cl) 5 = Xi S (276 + cl) 5 := (show Xi T11 (276 + cl) 5 = Xi S (276 + cl) 5 from FR_cl w192 rfl (by omega))
        refine l_callV rfl rfl rfl (t_to_wrong hHT11 4 (Xi T11 895 7) ⟨by omega, by omega⟩ ⟨by omega, by omega⟩ _) ?_
        rintro _ T15 ⟨hHT15, w268, z267, rfl, w267, w265, w266⟩
        have hFT15 : FR md_rr_test S T15 := FR.tr hFT11 w268 rfl
        show Rl _ _ _ _ _ [iv z267] _ _
        refine l_ireturn rfl (retI_z (by omega)) ?_
        have w269 : Xi T15 (276 + cl) 0 = Xi S (276 + cl) 0 := (show Xi T15 (276 + cl) 0 = Xi T11 (276 + cl) 0 from FR_cl w268 rfl (by omega)).trans ((show Xi T11 (276 + cl) 0 = Xi S (276 + cl) 0 from FR_cl w192 rfl (by omega)))
        have w270 : Xi T15 (276 + cl) 2 = Xi S (276 + cl) 2 := (show Xi T15 (276 + cl) 2 = Xi T11 (276 + cl) 2 from FR_cl w268 rfl (by omega)).trans ((show Xi T11 (276 + cl) 2 = Xi S (276 + cl) 2 from FR_cl w192 rfl (by omega)))
        have w271 : Xi T15 (276 + cl) 3 = Xi S (276 + cl) 3 := (show Xi T15 (276 + cl) 3 = Xi T11 (276 + cl) 3 from FR_cl w268 rfl (by omega)).trans ((show Xi T11 (276 + cl) 3 = Xi S (276 + cl) 3 from FR_cl w192 rfl (by omega)))
        have w272 : Xi T15 (276 + cl) 4 = Xi S (276 + cl) 4 := (show Xi T15 (276 + cl) 4 = Xi T11 (276 + cl) 4 from FR_cl w268 rfl (by omega)).trans ((show Xi T11 (276 + cl) 4 = Xi S (276 + cl) 4 from FR_cl w192 rfl (by omega)))
        have w273 : Xi T15 (276 + cl) 5 = Xi S (276 + cl) 5 := (show Xi T15 (276 + cl) 5 = Xi T11 (276 + cl) 5 from FR_cl w268 rfl (by omega)).trans ((show Xi T11 (276 + cl) 5 = Xi S (276 + cl) 5 from FR_cl w192 rfl (by omega)))
        have w274 : Xi T15 5 3 = Xi S 5 3 := (show Xi T15 5 3 = Xi T11 5 3 from w268.x _ _ rfl).trans ((show Xi T11 5 3 = Xi S 5 3 from w192.x _ _ rfl))
        have w276 : 0 ≤ Xi T15 876 8 ∧ Xi T15 876 8 ≤ 9 := hHT15.c _ _
        have w277 : Xi T15 895 4 = Xi S 895 4 := (show Xi T15 895 4 = Xi T11 895 4 from w268.x _ _ rfl).trans ((show Xi T11 895 4 = Xi S 895 4 from w192.x _ _ rfl))
        exact ⟨hHT15, hFT15, _, rfl, ⟨by omega, by omega⟩, ((kcl_f w268 rfl (kcl_f w192 rfl KCL.rf))), (fun q => by first | (exfalso; omega) | exact (by assumption : _ → TSok T15 (0 ≤ Xi S 895 4) cl) q | exact ts_5 (by assumption) ((by assumption : ∀ j, j < 4 → j ≠ 0 → Xi T15 (276 + cl) j = Xi T11 (276 + cl) j) 2 (by decide) (by decide)) hw139 | exact ts_na (by assumption) (by assumption) (by assumption) hw203 (by omega) (by omega) (by omega)), (fun q => by first | omega | (exfalso; omega))⟩
    · refine l_aload_n rfl rfl ?_
      refine l_iload_n rfl rfl ?_
      refine l_iload rfl rfl ?_
      refine l_aload_n rfl rfl ?_
      refine l_callV rfl rfl rfl (t_rr_propertyTest hH from_ z176 cl ⟨by omega, by omega⟩ ⟨by omega, by omega⟩ (by omega) (by first | assumption | exact (LEX_FR hF rfl rfl (by assumption : LEX S))) (by first | assumption | exact (TOK_FR hF rfl rfl rfl (by assumption : TOK S))) (by first | assumption | exact (SRX_FR hF rfl (by assumption : SRX S))) _) ?_
      rintro _ T16 ⟨hHT16, w285, z284, rfl, w284, w281, w282, w283⟩
      have hFT16 : FR md_rr_test S T16 := FR.tr hF w285 rfl
      show Rl _ _ _ _ _ [iv z284] _ _
      refine l_ireturn rfl (retI_z (by omega)) ?_
      have w286 : Xi T16 5 3 = Xi S 5 3 := (show Xi T16 5 3 = Xi S 5 3 from w285.x _ _ rfl)
      have w288 : 0 ≤ Xi T16 876 8 ∧ Xi T16 876 8 ≤ 9 := hHT16.c _ _
      have w289 : Xi T16 895 4 = Xi S 895 4 := (show Xi T16 895 4 = Xi S 895 4 from w285.x _ _ rfl)
      exact ⟨hHT16, hFT16, _, rfl, ⟨by omega, by omega⟩, ((kcl_tr KCL.rf (by assumption : KCL S T16 cl))), (fun q => by first | (exfalso; omega) | exact (by assumption : _ → TSok T16 (0 ≤ Xi S 895 4) cl) q | exact ts_5 (by assumption) ((by assumption : ∀ j, j < 4 → j ≠ 0 → Xi T16 (276 + cl) j = Xi S (276 + cl) j) 2 (by decide) (by decide)) hw139 | exact ts_na (by assumption) (by assumption) (by assumption) hw203 (by omega) (by omega) (by omega)), (fun q => by first | omega | (exfalso; omega))⟩
  · refine l_aload_n rfl rfl ?_
    refine l_iload_n rfl rfl ?_
    refine l_iload_n rfl rfl ?_
    refine l_aload_n rfl rfl ?_
    refine l_callV rfl rfl rfl (t_rr_saying hH from_ to cl ⟨by omega, by omega⟩ ⟨by omega, by omega⟩ (by omega) (by first | assumption | exact (LEX_FR hF rfl rfl (by assumption : LEX S))) _) ?_
    rintro _ T17 ⟨hHT17, w297, z296, rfl, w296, w293, w294, w295⟩
    have hFT17 : FR md_rr_test S T17 := FR.tr hF w297 rfl
    show Rl _ _ _ _ _ [iv z296] _ _
    refine l_ireturn rfl (retI_z (by omega)) ?_
    have w298 : Xi T17 (276 + cl) 4 = Xi S (276 + cl) 4 := (show Xi T17 (276 + cl) 4 = Xi S (276 + cl) 4 from FR_clj w297 rfl (by omega))
    have w299 : Xi T17 (276 + cl) 5 = Xi S (276 + cl) 5 := (show Xi T17 (276 + cl) 5 = Xi S (276 + cl) 5 from FR_clj w297 rfl (by omega))
    have w300 : Xi T17 5 3 = Xi S 5 3 := (show Xi T17 5 3 = Xi S 5 3 from w297.x _ _ rfl)
    have w302 : 0 ≤ Xi T17 876 8 ∧ Xi T17 876 8 ≤ 9 := hHT17.c _ _
    have w303 : Xi T17 895 4 = Xi S 895 4 := (show Xi T17 895 4 = Xi S 895 4 from w297.x _ _ rfl)
    exact ⟨hHT17, hFT17, _, rfl, ⟨by omega, by omega⟩, ((kcl_tr KCL.rf (by assumption : KCL S T17 cl))), (fun q => by first | (exfalso; omega) | exact (by assumption : _ → TSok T17 (0 ≤ Xi S 895 4) cl) q | exact ts_5 (by assumption) ((by assumption : ∀ j, j < 4 → j ≠ 0 → Xi T17 (276 + cl) j = Xi S (276 + cl) j) 2 (by decide) (by decide)) hw139 | exact ts_na (by assumption) (by assumption) (by assumption) hw203 (by omega) (by omega) (by omega)), (fun q => by first | omega | (exfalso; omega))⟩
theorem sG_n {l : List rec} {S T : sS} {n : Nat} (hH : HI S) (h : FR l S T) (e : (kdis l [(5, 6), (19, 20), (274, 276), (902, 904)] && (!(mdf l 20 1) && !(mdf l 246 8))) = true) (k : KCL S T n) (hn : Xi S 246 5 ≤ n) (hc : Xi S 246 5 ≤ Xi T 246 5) : sG S T := by
  simp only [Bool.and_eq_true, Bool.not_eq_true'] at e
  have s := h.smk e.1
  have x8 := h.x 246 8 e.2.2
  have r8 : 0 ≤ Xi S 246 8 ∧ Xi S 246 8 ≤ 1666 := hH.c _ _
  have y3 : Xi T 5 3 = Xi S 5 3 := s.x 5 rfl 3
  have y8 : Xi T 5 8 = Xi S 5 8 := s.x 5 rfl 8
  exact ⟨fun a j ha => s a j (by
    obtain ⟨q, hq, h1⟩ := List.any_eq_true.mp ha
    rw [List.mem_singleton] at hq
    subst hq
    rw [Bool.and_eq_true] at h1
    exact inK_i (a := 902) (b := 904) (by decide) (Nat.le_of_ble_eq_true h1.1) (Nat.le_of_ble_eq_true h1.2)), (h 20 1 e.2.1).2.2, ⟨by omega, by omega, fun j _ => ⟨s.x 274 rfl j, s.x 275 rfl j⟩⟩, by omega, by omega, fun j _ => s.x 19 rfl j, hc, fun c h6 hk j => k c j h6 (by omega)⟩
theorem ts_s {S T : sS} {b : Prop} {f z : Nat} {v : Int} (hH : HI S) (g : sG S T) (h : ∀ i : Nat, (i : Int) < v → TSok S b (f + i)) (hv : 0 ≤ v) (hb : (f : Int) + v ≤ Xi S 246 5) (h6 : (f : Int) + v ≤ 600) (hn : TSok T b z) (hz : (z : Int) = f + v) : ∀ i : Nat, (i : Int) < v + 1 → TSok T b (f + i) := fun i hi => by
  by_cases e : (i : Int) < v
  · exact TSok_sG hH g (by omega) (by omega) (h i e)
  · rw [show f + i = z by omega]; exact hn
def md_rr_tests : List rec := [(246, 247, 5, 6), (276, 876, 0, 1), (276, 876, 1, 2), (276, 876, 2, 3), (276, 876, 3, 4), (276, 876, 4, 5), (276, 876, 5, 6), (276, 876, 6, 7), (876, 877, 8, 9), (876, 877, 9, 10), (895, 896, 5, 6), (895, 896, 6, 7), (895, 896, 7, 8), (895, 896, 8, 9), (895, 896, 9, 10), (895, 896, 10, 11), (895, 896, 11, 12), (899, 900, 5, 6), (899, 900, 6, 7)]
abbrev Q_rr_tests (S : sS) (from_ : Int) : pst := fun r S1 => HI S1 ∧ FR md_rr_tests S S1 ∧ (∃ z : Int, r = some (iv z) ∧ (0 ≤ z ∧ z ≤ 1) ∧ (z = 1 → sG S S1) ∧ (z = 1 → Xi S1 899 6 ≤ 6 ∧ Xi S1 246 5 = Xi S 246 5 + Xi S1 899 6) ∧ (z = 1 → ∀ i : Nat, (i : Int) < Xi S1 899 6 → TSok S1 (0 ≤ Xi S 895 4) ((Xi S 246 5).toNat + i)) ∧ (z = 0 → Xi S1 876 8 ≠ 0))
set_option maxRecDepth 100000 in
theorem t_rr_tests {S : sS} (hH : HI S) (from_ : Int) (hfrom_ : -1 ≤ from_ ∧ from_ ≤ 5132) (hL : LEX S) (hT : TOK S) (hS : SRX S) (hn : Xi S 246 5 + 6 ≤ 600) (d : Nat) : Mt lay0 (d + 6) m_rr_tests [.ref 899, iv from_] S (Q_rr_tests S from_) := by
  refine Mt_R rfl rfl ?_
  have hF : FR md_rr_tests S S := FR.rf
  have w1 : 0 ≤ Xi S 246 5 ∧ Xi S 246 5 ≤ 200000 := hH.c _ _
  have w2 : -1 ≤ Xi S 895 4 ∧ Xi S 895 4 ≤ 15 := hH.c _ _
  have w3 : 0 ≤ Xi S 899 6 ∧ Xi S 899 6 ≤ 6 := hH.c _ _
  have C21 : ∀ (n21 : Nat) (T1 : sS) (_ : HI T1) (_ : FR md_rr_tests S T1) (v2 : Int) (v3 : Int) (v4 : Int), (-1 ≤ v2 ∧ v2 ≤ 5132) → (0 ≤ v3 ∧ v3 ≤ 1) → (0 ≤ v4 ∧ v4 ≤ 6) → (sG S T1) → (Xi T1 899 6 = v4) → (Xi T1 246 5 = Xi S 246 5 + v4) → (v3 = 1 → 0 ≤ v2 ∧ v2 ≤ 5132) → (∀ i : Nat, (i : Int) < v4 → TSok T1 (0 ≤ Xi S 895 4) ((Xi S 246 5).toNat + i)) → n21 = (7 - v4).toNat → Rl lay0 (d + 5) m_rr_tests 21 [(0, .ref 899), (2, iv v2), (3, iv v3), (4, iv v4)] [] T1 (Q_rr_tests S from_) := by
    intro n21
    induction n21 using Nat.strongRecOn with
    | ind n21 ih21 =>
      intro T1 hHT1 hFT1 v2 v3 v4 w4 w5 w6 hg21 w7 w8 w9 ht21 hm21
      have w10 : Xi T1 876 7 = Xi S 876 7 := hFT1.x _ _ rfl
      have w11 : Xi T1 895 4 = Xi S 895 4 := hFT1.x _ _ rfl
      have w12 : 0 ≤ Xi T1 246 5 ∧ Xi T1 246 5 ≤ 200000 := hHT1.c _ _
      have w13 : 0 ≤ Xi T1 899 6 ∧ Xi T1 899 6 ≤ 6 := hHT1.c _ _
      refine l_iload_n rfl rfl ?_
      refine l_if_eq rfl rfl (by unfold rg; omega) (fun w14 => ?_) (fun w15 => ?_)
      · refine l_iconst rfl ?_
        refine l_ireturn rfl rfl ?_
        have w17 : 0 ≤ Xi T1 876 8 ∧ Xi T1 876 8 ≤ 9 := hHT1.c _ _
        have w18 : -1 ≤ Xi T1 895 4 ∧ Xi T1 895 4 ≤ 15 := hHT1.c _ _
        exact ⟨hHT1, hFT1, _, rfl, ⟨by omega, by omega⟩, (fun q => by first | (exfalso; omega) | exact hg21), (by omega), (fun q => by first | (exfalso; omega) | (intro i hi; exact ht21 i (by omega))), (fun q => by first | omega | (exfalso; omega))⟩
      · refine l_iload rfl rfl ?_
        refine l_bipush rfl rfl ?_
        refine l_icmp_ne rfl rfl (by unfold rg; omega) (by unfold rg; omega) (fun w21 => ?_) (fun w22 => ?_)
        · refine l_aload_n rfl rfl ?_
          refine l_aload_n rfl rfl ?_
          refine l_gfr rfl rfl rfl rfl rfl (hHT1.r 899 0 876 rfl) ?_
          refine l_iload_n rfl rfl ?_
          refine l_iconst rfl ?_
          have w24 : 0 ≤ Xi T1 876 7 ∧ Xi T1 876 7 ≤ 5125 := hHT1.c _ _
          refine l_callV rfl rfl rfl (t_to_testEnd__2 hHT1 v2 0 ⟨by omega, by omega⟩ ⟨by omega, by omega⟩ _) ?_
          rintro _ _ ⟨rfl, z32, rfl, w32, w28, w29, w30, w31⟩
          show Rl _ _ _ _ _ [iv z32, .ref 899] _ _
          refine l_pfi rfl rfl rfl rfl ?_
          obtain ⟨U2, eU2⟩ : ∃ T : sS, T = uI T1 899 5 (Int32.ofInt z32) := ⟨_, rfl⟩
          rw [← eU2]
          have hHU2 : HI U2 := by rw [eU2]; exact HI_w hHT1 (show -1 ≤ z32 by omega) (show z32 ≤ 5131 by omega)
          have hFU2 : FR md_rr_tests S U2 := by rw [eU2]; exact FR.wI hFT1 (mdf_i (r := (899, 900, 5, 6)) (List.mem_of_getElem? (i := 17) rfl) (inR_i (by omega) (by omega) (by omega) (by omega)))
          have w33 : Xi U2 899 5 = z32 := by rw [eU2]; exact Xi_same (by unfold rg; omega)
          refine l_aload_n rfl rfl ?_
          refine l_iload_n rfl rfl ?_
          refine l_aload_n rfl rfl ?_
          refine l_gfi rfl rfl rfl rfl rfl ?_
          refine l_aload_n rfl rfl ?_
          refine l_gfr rfl rfl rfl rfl rfl (hHU2.r 899 3 246 rfl) ?_
          refine l_iconst rfl ?_
          have w34 : Xi U2 246 5 = Xi T1 246 5 := (show Xi U2 246 5 = Xi T1 246 5 from by rw [eU2]; exact Xi_ne (by omega))
          refine l_callV rfl rfl rfl (t_bo_nextClause__2 hHU2 0 ⟨by omega, by omega⟩ (by first | assumption | omega) _) ?_
          rintro _ T3 ⟨hHT3, w46, z45, rfl, w45, w41, w42, w43, w44⟩
          have hFT3 : FR md_rr_tests S T3 := FR.tr hFU2 w46 rfl
          show Rl _ _ _ _ _ [.ref (276 + z45), iv (Xi U2 899 5), iv v2, .ref 899] _ _
          refine l_iconst rfl ?_
          have w48 : Xi T3 895 4 = Xi T1 895 4 := (show Xi T3 895 4 = Xi U2 895 4 from w46.x _ _ rfl).trans ((show Xi U2 895 4 = Xi T1 895 4 from by rw [eU2]; exact Xi_ne (by omega)))
          have w49 : -1 ≤ Xi T1 895 4 ∧ Xi T1 895 4 ≤ 15 := hHT1.c _ _
          have w50 : Xi T3 899 5 = Xi U2 899 5 := (show Xi T3 899 5 = Xi U2 899 5 from w46.x _ _ rfl)
          have w51 : -1 ≤ Xi U2 899 5 ∧ Xi U2 899 5 ≤ 5131 := hHU2.c _ _
          refine l_callV rfl rfl rfl (t_rr_test hHT3 v2 (Xi U2 899 5) z45 0 ⟨by omega, by omega⟩ ⟨by omega, by omega⟩ (by omega) ⟨by omega, by omega⟩ (by first | assumption | exact (LEX_FR hFT3 rfl rfl (by assumption : LEX S))) (by first | assumption | exact (TOK_FR hFT3 rfl rfl rfl (by assumption : TOK S))) (by first | assumption | exact (SRX_FR hFT3 rfl (by assumption : SRX S))) (by first | assumption | omega) _) ?_
          rintro _ T4 ⟨hHT4, w58, z57, rfl, w57, w54, w55, w56⟩
          have hFT4 : FR md_rr_tests S T4 := FR.tr hFT3 w58 rfl
          show Rl _ _ _ _ _ [iv z57] _ _
          have o71 : z57 = 1 → TSok T4 (0 ≤ Xi S 895 4) _ := fun q => ((by assumption : z57 = 1 → TSok T4 (0 ≤ Xi T3 895 4) _) q).mono (fun e => by omega)
          refine l_if_ne rfl rfl (by unfold rg; omega) (fun w59 => ?_) (fun w60 => ?_)
          · refine l_aload_n rfl rfl ?_
            refine l_dup rfl rfl ?_
            refine l_gfi rfl rfl rfl rfl rfl ?_
            have w61 : (Xi T4 899 6) = (Xi T1 899 6) := (show Xi T4 899 6 = Xi T3 899 6 from w58.x _ _ rfl).trans ( (show Xi T3 899 6 = Xi U2 899 6 from w46.x _ _ rfl).trans ((show Xi U2 899 6 = Xi T1 899 6 from by rw [eU2]; exact Xi_ne (by omega))))
            rw [w61]
            refine l_iconst rfl ?_
            refine l_iadd rfl ?_
            refine l_pfi rfl rfl rfl rfl ?_
            obtain ⟨U5, eU5⟩ : ∃ T : sS, T = uI T4 899 6 (Int32.ofInt ((Xi T1 899 6) + 1)) := ⟨_, rfl⟩
            rw [← eU5]
            have hHU5 : HI U5 := by rw [eU5]; exact HI_w hHT4 (show 0 ≤ ((Xi T1 899 6) + 1) by omega) (show ((Xi T1 899 6) + 1) ≤ 6 by omega)
            have hFU5 : FR md_rr_tests S U5 := by rw [eU5]; exact FR.wI hFT4 (mdf_i (r := (899, 900, 6, 7)) (List.mem_of_getElem? (i := 18) rfl) (inR_i (by omega) (by omega) (by omega) (by omega)))
            have w62 : Xi U5 899 6 = ((Xi T1 899 6) + 1) := by rw [eU5]; exact Xi_same (by unfold rg; omega)
            have o86 : TSok U5 (0 ≤ Xi S 895 4) _ := TSok_f hHT4 (FR_e eU5) rfl rfl rfl (by omega) (o71 (by omega))
            refine l_aload_n rfl rfl ?_
            refine l_gfr rfl rfl rfl rfl rfl (hHU5.r 899 0 876 rfl) ?_
            refine l_aload_n rfl rfl ?_
            refine l_gfi rfl rfl rfl rfl rfl ?_
            have w63 : (Xi U5 899 5) = (Xi U2 899 5) := (show Xi U5 899 5 = Xi T4 899 5 from by rw [eU5]; exact Xi_ne (by omega)).trans ( (show Xi T4 899 5 = Xi T3 899 5 from w58.x _ _ rfl).trans ((show Xi T3 899 5 = Xi U2 899 5 from w46.x _ _ rfl)))
            rw [w63]
            have w66 : Xi U5 876 7 = Xi T1 876 7 := (show Xi U5 876 7 = Xi T4 876 7 from by rw [eU5]; exact Xi_ne (by omega)).trans ( (show Xi T4 876 7 = Xi T3 876 7 from w58.x _ _ rfl).trans ( (show Xi T3 876 7 = Xi U2 876 7 from w46.x _ _ rfl).trans ((show Xi U2 876 7 = Xi T1 876 7 from by rw [eU2]; exact Xi_ne (by omega)))))
            have w70 : Xi U5 899 5 = Xi U2 899 5 := (show Xi U5 899 5 = Xi T4 899 5 from by rw [eU5]; exact Xi_ne (by omega)).trans ( (show Xi T4 899 5 = Xi T3 899 5 from w58.x _ _ rfl).trans ((show Xi T3 899 5 = Xi U2 899 5 from w46.x _ _ rfl)))
            refine l_callV rfl rfl rfl (t_to_typeAt hHU5 (Xi U2 899 5) ⟨by omega, by omega⟩ _) ?_
            rintro _ _ ⟨rfl, z76, rfl, w76, w73, w74, w75⟩
            clear w74 w75
            show Rl _ _ _ _ _ [iv z76] _ _
            refine l_bipush rfl rfl ?_
            refine l_icmp_ne rfl rfl (by unfold rg; omega) (by unfold rg; omega) (fun w77 => ?_) (fun w78 => ?_)
            · refine l_iconst rfl ?_
              refine l_istore_n rfl rfl rfl ?_
              refine l_aload_n rfl rfl ?_
              refine l_gfi rfl rfl rfl rfl rfl ?_
              have w79 : (Xi U5 899 5) = (Xi U2 899 5) := (show Xi U5 899 5 = Xi T4 899 5 from by rw [eU5]; exact Xi_ne (by omega)).trans ( (show Xi T4 899 5 = Xi T3 899 5 from w58.x _ _ rfl).trans ((show Xi T3 899 5 = Xi U2 899 5 from w46.x _ _ rfl)))
              rw [w79]
              refine l_iconst rfl ?_
              refine l_iadd rfl ?_
              refine l_istore_n rfl rfl rfl ?_
              refine l_iinc rfl rfl rfl rfl ?_
              refine l_goto rfl rfl ?_
              have w80 : Xi U5 246 5 = Xi T3 246 5 := (show Xi U5 246 5 = Xi T4 246 5 from by rw [eU5]; exact Xi_ne (by omega)).trans ((show Xi T4 246 5 = Xi T3 246 5 from w58.x _ _ rfl))
              have w81 : 0 ≤ Xi T3 246 5 ∧ Xi T3 246 5 ≤ 200000 := hHT3.c _ _
              have w82 : Xi U5 895 4 = Xi T1 895 4 := (show Xi U5 895 4 = Xi T4 895 4 from by rw [eU5]; exact Xi_ne (by omega)).trans ( (show Xi T4 895 4 = Xi T3 895 4 from w58.x _ _ rfl).trans ( (show Xi T3 895 4 = Xi U2 895 4 from w46.x _ _ rfl).trans ((show Xi U2 895 4 = Xi T1 895 4 from by rw [eU2]; exact Xi_ne (by omega)))))
              have w86 : 0 ≤ Xi U5 899 6 ∧ Xi U5 899 6 ≤ 6 := hHU5.c _ _
              exact Rl_weak (ih21 _ (by omega) U5 hHU5 hFU5 (((Xi U2 899 5) + 1)) (0) ((v4 + 1)) (by omega) (by omega) (by omega) (by first | exact sG_n (n := 600) hH ((show FR md_rr_tests T1 U5 from by rw [eU5]; exact FR.wI (FR.tr (FR.tr (show FR md_rr_tests T1 U2 from by rw [eU2]; exact FR.wI FR.rf (mdf_i (r := (899, 900, 5, 6)) (List.mem_of_getElem? (i := 17) rfl) (inR_i (by omega) (by omega) (by omega) (by omega)))) w46 rfl) w58 rfl) (mdf_i (r := (899, 900, 6, 7)) (List.mem_of_getElem? (i := 18) rfl) (inR_i (by omega) (by omega) (by omega) (by omega)))) : FR md_rr_tests T1 U5) rfl (kcl_o eU5 (by omega) (kcl_tr (kcl_tr (kcl_o eU2 (by omega) KCL.rf) (by assumption : KCL U2 T3 _)) (by assumption : KCL T3 T4 _))) (by omega) (by omega) | exact sG.tr hg21 (sG_n hHT1 ((show FR md_rr_tests T1 U5 from by rw [eU5]; exact FR.wI (FR.tr (FR.tr (show FR md_rr_tests T1 U2 from by rw [eU2]; exact FR.wI FR.rf (mdf_i (r := (899, 900, 5, 6)) (List.mem_of_getElem? (i := 17) rfl) (inR_i (by omega) (by omega) (by omega) (by omega)))) w46 rfl) w58 rfl) (mdf_i (r := (899, 900, 6, 7)) (List.mem_of_getElem? (i := 18) rfl) (inR_i (by omega) (by omega) (by omega) (by omega)))) : FR md_rr_tests T1 U5) rfl (kcl_o eU5 (by omega) (kcl_tr (kcl_tr (kcl_o eU2 (by omega) KCL.rf) (by assumption : KCL U2 T3 _)) (by assumption : KCL T3 T4 _))) (by omega) (by omega))) (by omega) (by omega) (by omega) (by first | exact fun i hi => by omega | exact ts_s hHT1 (sG_n hHT1 ((show FR md_rr_tests T1 U5 from by rw [eU5]; exact FR.wI (FR.tr (FR.tr (show FR md_rr_tests T1 U2 from by rw [eU2]; exact FR.wI FR.rf (mdf_i (r := (899, 900, 5, 6)) (List.mem_of_getElem? (i := 17) rfl) (inR_i (by omega) (by omega) (by omega) (by omega)))) w46 rfl) w58 rfl) (mdf_i (r := (899, 900, 6, 7)) (List.mem_of_getElem? (i := 18) rfl) (inR_i (by omega) (by omega) (by omega) (by omega)))) : FR md_rr_tests T1 U5) rfl (kcl_o eU5 (by omega) (kcl_tr (kcl_tr (kcl_o eU2 (by omega) KCL.rf) (by assumption : KCL U2 T3 _)) (by assumption : KCL T3 T4 _))) (by omega) (by omega)) ht21 (by omega) (by omega) (by omega) o86 (by omega)) rfl) (And.intro rfl (And.intro rfl (And.intro rfl (And.intro rfl (True.intro)))))
            · refine l_iconst rfl ?_
              refine l_goto rfl rfl ?_
              refine l_istore_n rfl rfl rfl ?_
              refine l_aload_n rfl rfl ?_
              refine l_gfi rfl rfl rfl rfl rfl ?_
              have w87 : (Xi U5 899 5) = (Xi U2 899 5) := (show Xi U5 899 5 = Xi T4 899 5 from by rw [eU5]; exact Xi_ne (by omega)).trans ( (show Xi T4 899 5 = Xi T3 899 5 from w58.x _ _ rfl).trans ((show Xi T3 899 5 = Xi U2 899 5 from w46.x _ _ rfl)))
              rw [w87]
              refine l_iconst rfl ?_
              refine l_iadd rfl ?_
              refine l_istore_n rfl rfl rfl ?_
              refine l_iinc rfl rfl rfl rfl ?_
              refine l_goto rfl rfl ?_
              have w88 : Xi U5 246 5 = Xi T3 246 5 := (show Xi U5 246 5 = Xi T4 246 5 from by rw [eU5]; exact Xi_ne (by omega)).trans ((show Xi T4 246 5 = Xi T3 246 5 from w58.x _ _ rfl))
              have w89 : 0 ≤ Xi T3 246 5 ∧ Xi T3 246 5 ≤ 200000 := hHT3.c _ _
              have w90 : Xi U5 895 4 = Xi T1 895 4 := (show Xi U5 895 4 = Xi T4 895 4 from by rw [eU5]; exact Xi_ne (by omega)).trans ( (show Xi T4 895 4 = Xi T3 895 4 from w58.x _ _ rfl).trans ( (show Xi T3 895 4 = Xi U2 895 4 from w46.x _ _ rfl).trans ((show Xi U2 895 4 = Xi T1 895 4 from by rw [eU2]; exact Xi_ne (by omega)))))
              have w94 : 0 ≤ Xi U5 899 6 ∧ Xi U5 899 6 ≤ 6 := hHU5.c _ _
              exact Rl_weak (ih21 _ (by omega) U5 hHU5 hFU5 (((Xi U2 899 5) + 1)) (1) ((v4 + 1)) (by omega) (by omega) (by omega) (by first | exact sG_n (n := 600) hH ((show FR md_rr_tests T1 U5 from by rw [eU5]; exact FR.wI (FR.tr (FR.tr (show FR md_rr_tests T1 U2 from by rw [eU2]; exact FR.wI FR.rf (mdf_i (r := (899, 900, 5, 6)) (List.mem_of_getElem? (i := 17) rfl) (inR_i (by omega) (by omega) (by omega) (by omega)))) w46 rfl) w58 rfl) (mdf_i (r := (899, 900, 6, 7)) (List.mem_of_getElem? (i := 18) rfl) (inR_i (by omega) (by omega) (by omega) (by omega)))) : FR md_rr_tests T1 U5) rfl (kcl_o eU5 (by omega) (kcl_tr (kcl_tr (kcl_o eU2 (by omega) KCL.rf) (by assumption : KCL U2 T3 _)) (by assumption : KCL T3 T4 _))) (by omega) (by omega) | exact sG.tr hg21 (sG_n hHT1 ((show FR md_rr_tests T1 U5 from by rw [eU5]; exact FR.wI (FR.tr (FR.tr (show FR md_rr_tests T1 U2 from by rw [eU2]; exact FR.wI FR.rf (mdf_i (r := (899, 900, 5, 6)) (List.mem_of_getElem? (i := 17) rfl) (inR_i (by omega) (by omega) (by omega) (by omega)))) w46 rfl) w58 rfl) (mdf_i (r := (899, 900, 6, 7)) (List.mem_of_getElem? (i := 18) rfl) (inR_i (by omega) (by omega) (by omega) (by omega)))) : FR md_rr_tests T1 U5) rfl (kcl_o eU5 (by omega) (kcl_tr (kcl_tr (kcl_o eU2 (by omega) KCL.rf) (by assumption : KCL U2 T3 _)) (by assumption : KCL T3 T4 _))) (by omega) (by omega))) (by omega) (by omega) (by omega) (by first | exact fun i hi => by omega | exact ts_s hHT1 (sG_n hHT1 ((show FR md_rr_tests T1 U5 from by rw [eU5]; exact FR.wI (FR.tr (FR.tr (show FR md_rr_tests T1 U2 from by rw [eU2]; exact FR.wI FR.rf (mdf_i (r := (899, 900, 5, 6)) (List.mem_of_getElem? (i := 17) rfl) (inR_i (by omega) (by omega) (by omega) (by omega)))) w46 rfl) w58 rfl) (mdf_i (r := (899, 900, 6, 7)) (List.mem_of_getElem? (i := 18) rfl) (inR_i (by omega) (by omega) (by omega) (by omega)))) : FR md_rr_tests T1 U5) rfl (kcl_o eU5 (by omega) (kcl_tr (kcl_tr (kcl_o eU2 (by omega) KCL.rf) (by assumption : KCL U2 T3 _)) (by assumption : KCL T3 T4 _))) (by omega) (by omega)) ht21 (by omega) (by omega) (by omega) o86 (by omega)) rfl) (And.intro rfl (And.intro rfl (And.intro rfl (And.intro rfl (True.intro)))))
          · refine l_iconst rfl ?_
            refine l_ireturn rfl rfl ?_
            have w95 : Xi T4 246 5 = Xi T3 246 5 := (show Xi T4 246 5 = Xi T3 246 5 from w58.x _ _ rfl)
            have w96 : 0 ≤ Xi T3 246 5 ∧ Xi T3 246 5 ≤ 200000 := hHT3.c _ _
            have w97 : 0 ≤ Xi T4 876 8 ∧ Xi T4 876 8 ≤ 9 := hHT4.c _ _
            have w98 : Xi T4 895 4 = Xi T1 895 4 := (show Xi T4 895 4 = Xi T3 895 4 from w58.x _ _ rfl).trans ( (show Xi T3 895 4 = Xi U2 895 4 from w46.x _ _ rfl).trans ((show Xi U2 895 4 = Xi T1 895 4 from by rw [eU2]; exact Xi_ne (by omega))))
            have w102 : Xi T4 899 6 = Xi T1 899 6 := (show Xi T4 899 6 = Xi T3 899 6 from w58.x _ _ rfl).trans ( (show Xi T3 899 6 = Xi U2 899 6 from w46.x _ _ rfl).trans ((show Xi U2 899 6 = Xi T1 899 6 from by rw [eU2]; exact Xi_ne (by omega))))
            exact ⟨hHT4, hFT4, _, rfl, ⟨by omega, by omega⟩, (fun q => by first | (exfalso; omega) | exact hg21), (by omega), (fun q => by first | (exfalso; omega) | (intro i hi; exact ht21 i (by omega))), (fun q => by first | omega | (exfalso; omega))⟩
        · refine l_aload_n rfl rfl ?_
          refine l_gfr rfl rfl rfl rfl rfl (hHT1.r 899 0 876 rfl) ?_
          refine l_bipush rfl rfl ?_
          refine l_iload_n rfl rfl ?_
          refine l_callV rfl rfl rfl (t_to_wrong hHT1 9 v2 ⟨by omega, by omega⟩ ⟨by omega, by omega⟩ _) ?_
          rintro _ T6 ⟨hHT6, w111, z110, rfl, w110, w108, w109⟩
          have hFT6 : FR md_rr_tests S T6 := FR.tr hFT1 w111 rfl
          show Rl _ _ _ _ _ [iv z110] _ _
          refine l_ireturn rfl (retI_z (by omega)) ?_
          have w112 : Xi T6 246 5 = Xi T1 246 5 := (show Xi T6 246 5 = Xi T1 246 5 from w111.x _ _ rfl)
          have w114 : 0 ≤ Xi T6 876 8 ∧ Xi T6 876 8 ≤ 9 := hHT6.c _ _
          have w115 : Xi T6 895 4 = Xi T1 895 4 := (show Xi T6 895 4 = Xi T1 895 4 from w111.x _ _ rfl)
          have w116 : -1 ≤ Xi T1 895 4 ∧ Xi T1 895 4 ≤ 15 := hHT1.c _ _
          have w119 : Xi T6 899 6 = Xi T1 899 6 := (show Xi T6 899 6 = Xi T1 899 6 from w111.x _ _ rfl)
          exact ⟨hHT6, hFT6, _, rfl, ⟨by omega, by omega⟩, (fun q => by first | (exfalso; omega) | exact hg21), (by omega), (fun q => by first | (exfalso; omega) | (intro i hi; exact ht21 i (by omega))), (fun q => by first | omega | (exfalso; omega))⟩
  refine l_iload_n rfl rfl ?_
  refine l_istore_n rfl rfl rfl ?_
  refine l_iload_n rfl rfl ?_
  refine l_iconst rfl ?_
  refine l_icmp_eq rfl rfl (by unfold rg; omega) (by unfold rg; omega) (fun w121 => ?_) (fun w122 => ?_)
  · refine l_iconst rfl ?_
    refine l_istore_n rfl rfl rfl ?_
    refine l_aload_n rfl rfl ?_
    refine l_iconst rfl ?_
    refine l_pfi rfl rfl rfl rfl ?_
    obtain ⟨U7, eU7⟩ : ∃ T : sS, T = uI S 899 6 (Int32.ofInt 0) := ⟨_, rfl⟩
    rw [← eU7]
    have hHU7 : HI U7 := by rw [eU7]; exact HI_w hH (show 0 ≤ 0 by omega) (show 0 ≤ 6 by omega)
    have hFU7 : FR md_rr_tests S U7 := by rw [eU7]; exact FR.wI hF (mdf_i (r := (899, 900, 6, 7)) (List.mem_of_getElem? (i := 18) rfl) (inR_i (by omega) (by omega) (by omega) (by omega)))
    have w123 : Xi U7 899 6 = 0 := by rw [eU7]; exact Xi_same (by unfold rg; omega)
    refine l_iconst rfl ?_
    refine l_istore rfl rfl rfl ?_
    have w124 : Xi U7 246 5 = Xi S 246 5 := (show Xi U7 246 5 = Xi S 246 5 from by rw [eU7]; exact Xi_ne (by omega))
    have w126 : Xi U7 895 4 = Xi S 895 4 := (show Xi U7 895 4 = Xi S 895 4 from by rw [eU7]; exact Xi_ne (by omega))
    have w128 : Xi U7 899 5 = Xi S 899 5 := (show Xi U7 899 5 = Xi S 899 5 from by rw [eU7]; exact Xi_ne (by omega))
    have w129 : -1 ≤ Xi S 899 5 ∧ Xi S 899 5 ≤ 5131 := hH.c _ _
    have w130 : 0 ≤ Xi U7 899 6 ∧ Xi U7 899 6 ≤ 6 := hHU7.c _ _
    exact Rl_weak (C21 _ U7 hHU7 hFU7 (from_) (0) (0) (by omega) (by omega) (by omega) (by first | exact sG_n (n := 600) hH ((show FR md_rr_tests S U7 from by rw [eU7]; exact FR.wI FR.rf (mdf_i (r := (899, 900, 6, 7)) (List.mem_of_getElem? (i := 18) rfl) (inR_i (by omega) (by omega) (by omega) (by omega)))) : FR md_rr_tests S U7) rfl (kcl_o eU7 (by omega) KCL.rf) (by omega) (by omega) | exact sG.tr hg21 (sG_n hH ((show FR md_rr_tests S U7 from by rw [eU7]; exact FR.wI FR.rf (mdf_i (r := (899, 900, 6, 7)) (List.mem_of_getElem? (i := 18) rfl) (inR_i (by omega) (by omega) (by omega) (by omega)))) : FR md_rr_tests S U7) rfl (kcl_o eU7 (by omega) KCL.rf) (by omega) (by omega))) (by omega) (by omega) (by omega) (by first | exact fun i hi => by omega | exact ts_s hH (sG_n hH ((show FR md_rr_tests S U7 from by rw [eU7]; exact FR.wI FR.rf (mdf_i (r := (899, 900, 6, 7)) (List.mem_of_getElem? (i := 18) rfl) (inR_i (by omega) (by omega) (by omega) (by omega)))) : FR md_rr_tests S U7) rfl (kcl_o eU7 (by omega) KCL.rf) (by omega) (by omega)) ht21 (by omega) (by omega) (by omega) o86 (by omega)) rfl) (And.intro rfl (And.intro rfl (And.intro rfl (And.intro rfl (True.intro)))))
  · refine l_iconst rfl ?_
    refine l_goto rfl rfl ?_
    refine l_istore_n rfl rfl rfl ?_
    refine l_aload_n rfl rfl ?_
    refine l_iconst rfl ?_
    refine l_pfi rfl rfl rfl rfl ?_
    obtain ⟨U8, eU8⟩ : ∃ T : sS, T = uI S 899 6 (Int32.ofInt 0) := ⟨_, rfl⟩
    rw [← eU8]
    have hHU8 : HI U8 := by rw [eU8]; exact HI_w hH (show 0 ≤ 0 by omega) (show 0 ≤ 6 by omega)
    have hFU8 : FR md_rr_tests S U8 := by rw [eU8]; exact FR.wI hF (mdf_i (r := (899, 900, 6, 7)) (List.mem_of_getElem? (i := 18) rfl) (inR_i (by omega) (by omega) (by omega) (by omega)))
    have w131 : Xi U8 899 6 = 0 := by rw [eU8]; exact Xi_same (by unfold rg; omega)
    refine l_iconst rfl ?_
    refine l_istore rfl rfl rfl ?_
    have w132 : Xi U8 246 5 = Xi S 246 5 := (show Xi U8 246 5 = Xi S 246 5 from by rw [eU8]; exact Xi_ne (by omega))
    have w134 : Xi U8 895 4 = Xi S 895 4 := (show Xi U8 895 4 = Xi S 895 4 from by rw [eU8]; exact Xi_ne (by omega))
    have w136 : Xi U8 899 5 = Xi S 899 5 := (show Xi U8 899 5 = Xi S 899 5 from by rw [eU8]; exact Xi_ne (by omega))
    have w137 : -1 ≤ Xi S 899 5 ∧ Xi S 899 5 ≤ 5131 := hH.c _ _
    have w138 : 0 ≤ Xi U8 899 6 ∧ Xi U8 899 6 ≤ 6 := hHU8.c _ _
    exact Rl_weak (C21 _ U8 hHU8 hFU8 (from_) (1) (0) (by omega) (by omega) (by omega) (by first | exact sG_n (n := 600) hH ((show FR md_rr_tests S U8 from by rw [eU8]; exact FR.wI FR.rf (mdf_i (r := (899, 900, 6, 7)) (List.mem_of_getElem? (i := 18) rfl) (inR_i (by omega) (by omega) (by omega) (by omega)))) : FR md_rr_tests S U8) rfl (kcl_o eU8 (by omega) KCL.rf) (by omega) (by omega) | exact sG.tr hg21 (sG_n hH ((show FR md_rr_tests S U8 from by rw [eU8]; exact FR.wI FR.rf (mdf_i (r := (899, 900, 6, 7)) (List.mem_of_getElem? (i := 18) rfl) (inR_i (by omega) (by omega) (by omega) (by omega)))) : FR md_rr_tests S U8) rfl (kcl_o eU8 (by omega) KCL.rf) (by omega) (by omega))) (by omega) (by omega) (by omega) (by first | exact fun i hi => by omega | exact ts_s hH (sG_n hH ((show FR md_rr_tests S U8 from by rw [eU8]; exact FR.wI FR.rf (mdf_i (r := (899, 900, 6, 7)) (List.mem_of_getElem? (i := 18) rfl) (inR_i (by omega) (by omega) (by omega) (by omega)))) : FR md_rr_tests S U8) rfl (kcl_o eU8 (by omega) KCL.rf) (by omega) (by omega)) ht21 (by omega) (by omega) (by omega) o86 (by omega)) rfl) (And.intro rfl (And.intro rfl (And.intro rfl (And.intro rfl (True.intro)))))


