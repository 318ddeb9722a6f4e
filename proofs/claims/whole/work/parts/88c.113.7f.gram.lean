section
/-- the sort of a sentence by what stands behind is or are -/
def bes (T : Int → Int) (a : Int) : Int := if T a = 0 ∧ T (a + 1) = 18 then 10 else if T a = 1 ∧ T (a + 1) = 27 then 11 else if art7 (T a) then 12 else if pl7 (T a) then 13 else if T a = 6 ∨ T a = 32 then 15 else crs T 0 a
theorem bes_10 {T : Int → Int} {a s : Int} (h : T a = 0 ∧ T (a + 1) = 18) (e : s = 10) : s = bes T a := by unfold bes; rw [if_pos h, e]
theorem bes_11 {T : Int → Int} {a s : Int} (h : T a = 1 ∧ T (a + 1) = 27) (e : s = 11) : s = bes T a := by unfold bes; rw [if_neg (by omega), if_pos h, e]
theorem bes_12 {T : Int → Int} {a s : Int} (n : ¬ (T a = 0 ∧ T (a + 1) = 18)) (m : ¬ (T a = 1 ∧ T (a + 1) = 27)) (h : art7 (T a)) (e : s = 12) : s = bes T a := by unfold bes; rw [if_neg n, if_neg m, if_pos h, e]
theorem bes_13 {T : Int → Int} {a s : Int} (h : pl7 (T a)) (e : s = 13) : s = bes T a := by
  unfold bes
  rw [if_neg (by omega), if_neg (by omega), if_neg (by unfold art7; omega), if_pos h, e]
theorem bes_r {T : Int → Int} {a s : Int} (h1 : ¬ art7 (T a)) (h2 : ¬ pl7 (T a)) (h : ((T a = 6 ∨ T a = 32) ∧ s = 15) ∨ (T a ≠ 6 ∧ T a ≠ 32 ∧ s = crs T 0 a)) : s = bes T a := by
  have k1 := h1
  unfold art7 at k1
  unfold bes
  rw [if_neg (by omega), if_neg (by omega), if_neg h1, if_neg h2]
  rcases h with ⟨h, e⟩ | ⟨h, h3, e⟩
  · rw [if_pos h, e]
  · rw [if_neg (by omega), e]
theorem crs_1 {T : Int → Int} {al a : Int} (h : al ≠ 0) : crs T al a = 15 := if_pos h
def BES (S : sS) (T : Int → Int) : Prop := (bp7 T 0 → Xi S 890 2 = 9) ∧ (¬ bp7 T 0 → ∃ a, gSq (gLs T 0) (gBe T) = (1, a) ∧ Xi S 890 2 = bes T a)
def OTS (S : sS) (T : Int → Int) : Prop := (T 0 = 2 ∧ T 1 = 25 → Xi S 890 2 = 7) ∧ (T 0 = 2 ∧ T 1 = 19 → Xi S 890 2 = 8) ∧ (¬ (T 0 = 2 ∧ T 1 = 25) → ¬ (T 0 = 2 ∧ T 1 = 19) → Xi S 890 3 = tk7 T ∧ ((kt7 T = 4 ∨ kt7 T = 5) → BES S T) ∧ (kt7 T = 12 → Xi S 890 2 = 17) ∧ (kt7 T = 13 → Xi S 890 2 = 18) ∧ (kt7 T = 21 → Xi S 890 2 = 19) ∧ (¬ (kt7 T = 4 ∨ kt7 T = 5) → kt7 T ≠ 12 → kt7 T ≠ 13 → kt7 T ≠ 21 → Xi S 890 2 = 20))
def CKS (S : sS) (T : Int → Int) : Prop := (T 0 = 102 → Xi S 890 2 = 0) ∧ (T 0 = 33 → Xi S 890 2 = 1) ∧ (T 0 = 35 → Xi S 890 2 = 2) ∧ (T 0 = 38 → Xi S 890 2 = 3) ∧ (T 0 = 40 → Xi S 890 2 = 4) ∧ (T 0 = 39 → Xi S 890 2 = 5) ∧ (T 0 = 41 → Xi S 890 2 = 6) ∧ (T 0 ≠ 102 → T 0 ≠ 33 → T 0 ≠ 35 → T 0 ≠ 38 → T 0 ≠ 40 → T 0 ≠ 39 → T 0 ≠ 41 → OTS S T)

def md_gr_checkBe__p : List rec := [(890, 891, 1, 2), (890, 891, 2, 3)]
abbrev Q_gr_checkBe__p (S : sS) : pst := fun r S1 => RI S1 ∧ FR md_gr_checkBe__p S S1 ∧ (∃ z : Int, r = some (iv z) ∧ (0 ≤ z ∧ z ≤ 1) ∧ (ckB (ty7 S)  = (z, Xi S1 890 1)) ∧ (Xi S 890 1 ≤ Xi S1 890 1 ∧ Xi S1 890 1 ≤ Xi S 876 7) ∧ (z = 1 → BES S1 (ty7 S)))
set_option maxRecDepth 100000 in
theorem c11_gr_checkBe__p {S : sS} (hH : RI S) (hfr : NFR S) (hr : Xi S 876 7 ≤ 5130) (ha : 0 ≤ Xi S 890 1 ∧ Xi S 890 1 ≤ Xi S 876 7) (hls : LST S) (h0 : Xi S 890 1 = 0) (d : Nat) (fu : Nat) : (Hid (bp7 (ty7 S) 0)) → Pl fu lay0 (d + 4) m_gr_checkBe 11 [(0, .ref 890)] [] S (Q_gr_checkBe__p S) := by
  have hF : FR md_gr_checkBe__p S S := FR.rf
  have w1 : -2147483648 ≤ Xi S 876 7 ∧ Xi S 876 7 ≤ 2147483647 := Xi_rgI
  have w2 : -2147483648 ≤ Xi S 890 1 ∧ Xi S 890 1 ≤ 2147483647 := Xi_rgI
  have w3 : -2147483648 ≤ Xi S 890 2 ∧ Xi S 890 2 ≤ 2147483647 := Xi_rgI
  intro b11
  refine y_aload_n rfl rfl ?_
  refine y_bipush rfl rfl ?_
  refine y_pfi rfl rfl rfl rfl ?_
  obtain ⟨U1, eU1⟩ : ∃ T : sS, T = uI S 890 2 (Int32.ofInt 9) := ⟨_, rfl⟩
  rw [← eU1]
  have hHU1 : RI U1 := by rw [eU1]; exact RI_w hH
  have hFU1 : FR md_gr_checkBe__p S U1 := by rw [eU1]; exact FR.wI hF (mdf_i (r := (890, 891, 2, 3)) (List.mem_of_getElem? (i := 1) rfl) (inR_i (by omega) (by omega) (by omega) (by omega)))
  have w4 : Xi U1 890 2 = 9 := by rw [eU1]; exact Xi_same (by unfold rg; omega)
  refine y_aload_n rfl rfl ?_
  refine y_aload_n rfl rfl ?_
  refine y_gfr rfl rfl rfl rfl rfl (hHU1.r 890 0 876 rfl) ?_
  refine y_iconst rfl ?_
  have w5 : Xi U1 876 7 = Xi S 876 7 := (show Xi U1 876 7 = Xi S 876 7 from by rw [eU1]; exact Xi_ne (by omega))
  have w6 : Xi U1 890 1 = Xi S 890 1 := (show Xi U1 890 1 = Xi S 890 1 from by rw [eU1]; exact Xi_ne (by omega))
  refine y_callV rfl rfl rfl (t_to_runEnd__p hHU1 1 ⟨by omega, by omega⟩ _) ?_
  rintro _ _ ⟨rfl, z9, rfl, w9, w7, w8⟩
  show Pl _ _ _ _ _ _ [iv z9, .ref 890] _ _
  have gq23 := w7
  rw [FRT hFU1 rfl rfl] at gq23
  try rw [show Xi U1 890 1 = 0 by omega] at gq23
  clear w7
  refine y_iconst rfl ?_
  refine y_iadd rfl ?_
  refine y_pfi rfl rfl rfl rfl ?_
  obtain ⟨U2, eU2⟩ : ∃ T : sS, T = uI U1 890 1 (Int32.ofInt (z9 + 1)) := ⟨_, rfl⟩
  rw [← eU2]
  have hHU2 : RI U2 := by rw [eU2]; exact RI_w hHU1
  have hFU2 : FR md_gr_checkBe__p S U2 := by rw [eU2]; exact FR.wI hFU1 (mdf_i (r := (890, 891, 1, 2)) (List.mem_of_getElem? (i := 0) rfl) (inR_i (by omega) (by omega) (by omega) (by omega)))
  have w10 : Xi U2 890 1 = (z9 + 1) := by rw [eU2]; exact Xi_same (by unfold rg; omega)
  have x28 : Xi U2 890 1 ≤ Xi S 876 7 ∧ 0 ≤ Xi U2 890 1 := by have t := ty_lt b11.o.2.2 (by decide); rw [show (0 : Int) + 1 = 1 from rfl] at t; omega
  refine y_aload_n rfl rfl ?_
  have w11 : Xi U2 876 7 = Xi S 876 7 := (show Xi U2 876 7 = Xi U1 876 7 from by rw [eU2]; exact Xi_ne (by omega)).trans ((show Xi U1 876 7 = Xi S 876 7 from by rw [eU1]; exact Xi_ne (by omega)))
  refine y_callV rfl rfl rfl (t_gr_takeName__p hHU2 (by first | assumption | exact (NFR_FR hFU2 rfl rfl (by assumption : NFR S))) (by first | assumption | omega) (by first | assumption | omega) _) ?_
  rintro _ T3 ⟨hHT3, w16, z15, rfl, w15, w13, w14⟩
  have hFT3 : FR md_gr_checkBe__p S T3 := FR.tr hFU2 w16 rfl
  show Pl _ _ _ _ _ _ [iv z15] _ _
  have gp32 := w13
  rw [FRT hFU2 rfl rfl] at gp32
  try rw [show Xi U2 890 1 = (z9 + 1) by omega] at gp32
  clear w13
  refine y_if_eq rfl rfl (by unfold rg; omega) (fun w17 => ?_) (fun w18 => ?_)
  · rw [show z15 = 0 by omega] at gp32
    refine y_iconst rfl ?_
    refine y_ireturn rfl rfl ?_
    have w19 : Xi T3 876 7 = Xi S 876 7 := (show Xi T3 876 7 = Xi U2 876 7 from w16.x _ _ rfl).trans ( (show Xi U2 876 7 = Xi U1 876 7 from by rw [eU2]; exact Xi_ne (by omega)).trans ((show Xi U1 876 7 = Xi S 876 7 from by rw [eU1]; exact Xi_ne (by omega))))
    have w20 : Xi T3 890 2 = Xi U1 890 2 := (show Xi T3 890 2 = Xi U2 890 2 from w16.x _ _ rfl).trans ((show Xi U2 890 2 = Xi U1 890 2 from by rw [eU2]; exact Xi_ne (by omega)))
    exact ⟨hHT3, hFT3, _, rfl, ⟨by omega, by omega⟩, (by  first | (have t := b11; rw [ckB_0 b11.o]; simp only [gS_1, gS_0, o_1, o_0, i10, i00, n10, n00, if_true, if_false, gq23, gp32]) | (have t := k119; rw [ckB_1 nb119.o, B119, gS_1, ckB2_10 k119]; simp only [gS_1, gS_0, o_1, o_0, i10, i00, n10, n00, if_true, if_false, gq23, gp32]) | (have t := k186; rw [ckB_1 nb186.o, B186, gS_1, ckB2_11 k186]; simp only [gS_1, gS_0, o_1, o_0, i10, i00, n10, n00, if_true, if_false, gq23, gp32]) | (have t := a258; rw [ckB_1 nb258.o, B258, gS_1, ckB2_12 n258.o m258.o a258.o]; simp only [gS_1, gS_0, o_1, o_0, i10, i00, n10, n00, if_true, if_false, gq23, gp32]; first | done | (rw [if_pos (p282.o.1 (by omega))]; simp only [gS_1, gS_0, o_1, o_0, i10, i00, n10, n00, if_true, if_false, gq23, gp32]) | (rw [if_neg (p282.o.2 (by omega))]; simp only [gS_1, gS_0, o_1, o_0, i10, i00, n10, n00, if_true, if_false, gq23, gp32])) | (have t := p318; rw [ckB_1 nb318.o, B318, gS_1, ckB2_13 p318.o]; simp only [gS_1, gS_0, o_1, o_0, i10, i00, n10, n00, if_true, if_false, gq23, gp32]) | (have t := q347; rw [ckB_1 nb347.o, B347, gS_1, ckB2_15 a347.o q347.o]; simp only [gS_1, gS_0, o_1, o_0, i10, i00, n10, n00, if_true, if_false, gq23, gp32]) | (rw [ckB_1 nb67.o]; simp only [gS_1, gS_0, o_1, o_0, i10, i00, n10, n00, if_true, if_false, gq23, gp32])), (by omega), (by first | (have t := b11; exact (fun _ => ⟨fun _ => by omega, fun q => absurd b11.o q⟩)) | (have t := k119; exact (fun _ => ⟨fun q => absurd q nb119.o, fun _ => ⟨_, B119, bes_10 k119 (by omega)⟩⟩)) | (have t := k186; exact (fun _ => ⟨fun q => absurd q nb186.o, fun _ => ⟨_, B186, bes_11 k186 (by omega)⟩⟩)) | (have t := a258; exact (fun _ => ⟨fun q => absurd q nb258.o, fun _ => ⟨_, B258, bes_12 n258.o m258.o a258.o (by omega)⟩⟩)) | (have t := p318; exact (fun _ => ⟨fun q => absurd q nb318.o, fun _ => ⟨_, B318, bes_13 p318.o (by omega)⟩⟩)) | (have t := q347; exact (fun z1 => ⟨fun q => absurd q nb347.o, fun _ => ⟨_, B347, bes_r a347.o q347.o (s371.o z1)⟩⟩)) | exact (fun q => absurd q (by omega)))⟩
  · rw [show z15 = 1 by omega] at gp32
    refine y_aload_n rfl rfl ?_
    have w21 : Xi T3 876 7 = Xi S 876 7 := (show Xi T3 876 7 = Xi U2 876 7 from w16.x _ _ rfl).trans ( (show Xi U2 876 7 = Xi U1 876 7 from by rw [eU2]; exact Xi_ne (by omega)).trans ((show Xi U1 876 7 = Xi S 876 7 from by rw [eU1]; exact Xi_ne (by omega))))
    refine y_callV rfl rfl rfl (t_gr_takeBe__p hHT3 (by first | assumption | exact (NFR_FR hFT3 rfl rfl (by assumption : NFR S))) (by first | assumption | omega) (by first | assumption | omega) _) ?_
    rintro _ T4 ⟨hHT4, w26, z25, rfl, w25, w23, w24⟩
    have hFT4 : FR md_gr_checkBe__p S T4 := FR.tr hFT3 w26 rfl
    show Pl _ _ _ _ _ _ [iv z25] _ _
    have gp39 := w23
    rw [FRT hFT3 rfl rfl] at gp39
    clear w23
    refine y_if_eq rfl rfl (by unfold rg; omega) (fun w27 => ?_) (fun w28 => ?_)
    · rw [show z25 = 0 by omega] at gp39
      refine y_iconst rfl ?_
      refine y_ireturn rfl rfl ?_
      have w29 : Xi T4 876 7 = Xi S 876 7 := (show Xi T4 876 7 = Xi T3 876 7 from w26.x _ _ rfl).trans ( (show Xi T3 876 7 = Xi U2 876 7 from w16.x _ _ rfl).trans ( (show Xi U2 876 7 = Xi U1 876 7 from by rw [eU2]; exact Xi_ne (by omega)).trans ((show Xi U1 876 7 = Xi S 876 7 from by rw [eU1]; exact Xi_ne (by omega)))))
      have w30 : Xi T4 890 2 = Xi U1 890 2 := (show Xi T4 890 2 = Xi T3 890 2 from w26.x _ _ rfl).trans ( (show Xi T3 890 2 = Xi U2 890 2 from w16.x _ _ rfl).trans ((show Xi U2 890 2 = Xi U1 890 2 from by rw [eU2]; exact Xi_ne (by omega))))
      exact ⟨hHT4, hFT4, _, rfl, ⟨by omega, by omega⟩, (by  first | (have t := b11; rw [ckB_0 b11.o]; simp only [gS_1, gS_0, o_1, o_0, i10, i00, n10, n00, if_true, if_false, gq23, gp32, gp39]) | (have t := k119; rw [ckB_1 nb119.o, B119, gS_1, ckB2_10 k119]; simp only [gS_1, gS_0, o_1, o_0, i10, i00, n10, n00, if_true, if_false, gq23, gp32, gp39]) | (have t := k186; rw [ckB_1 nb186.o, B186, gS_1, ckB2_11 k186]; simp only [gS_1, gS_0, o_1, o_0, i10, i00, n10, n00, if_true, if_false, gq23, gp32, gp39]) | (have t := a258; rw [ckB_1 nb258.o, B258, gS_1, ckB2_12 n258.o m258.o a258.o]; simp only [gS_1, gS_0, o_1, o_0, i10, i00, n10, n00, if_true, if_false, gq23, gp32, gp39]; first | done | (rw [if_pos (p282.o.1 (by omega))]; simp only [gS_1, gS_0, o_1, o_0, i10, i00, n10, n00, if_true, if_false, gq23, gp32, gp39]) | (rw [if_neg (p282.o.2 (by omega))]; simp only [gS_1, gS_0, o_1, o_0, i10, i00, n10, n00, if_true, if_false, gq23, gp32, gp39])) | (have t := p318; rw [ckB_1 nb318.o, B318, gS_1, ckB2_13 p318.o]; simp only [gS_1, gS_0, o_1, o_0, i10, i00, n10, n00, if_true, if_false, gq23, gp32, gp39]) | (have t := q347; rw [ckB_1 nb347.o, B347, gS_1, ckB2_15 a347.o q347.o]; simp only [gS_1, gS_0, o_1, o_0, i10, i00, n10, n00, if_true, if_false, gq23, gp32, gp39]) | (rw [ckB_1 nb67.o]; simp only [gS_1, gS_0, o_1, o_0, i10, i00, n10, n00, if_true, if_false, gq23, gp32, gp39])), (by omega), (by first | (have t := b11; exact (fun _ => ⟨fun _ => by omega, fun q => absurd b11.o q⟩)) | (have t := k119; exact (fun _ => ⟨fun q => absurd q nb119.o, fun _ => ⟨_, B119, bes_10 k119 (by omega)⟩⟩)) | (have t := k186; exact (fun _ => ⟨fun q => absurd q nb186.o, fun _ => ⟨_, B186, bes_11 k186 (by omega)⟩⟩)) | (have t := a258; exact (fun _ => ⟨fun q => absurd q nb258.o, fun _ => ⟨_, B258, bes_12 n258.o m258.o a258.o (by omega)⟩⟩)) | (have t := p318; exact (fun _ => ⟨fun q => absurd q nb318.o, fun _ => ⟨_, B318, bes_13 p318.o (by omega)⟩⟩)) | (have t := q347; exact (fun z1 => ⟨fun q => absurd q nb347.o, fun _ => ⟨_, B347, bes_r a347.o q347.o (s371.o z1)⟩⟩)) | exact (fun q => absurd q (by omega)))⟩
    · rw [show z25 = 1 by omega] at gp39
      refine y_aload_n rfl rfl ?_
      have w31 : Xi T4 876 7 = Xi S 876 7 := (show Xi T4 876 7 = Xi T3 876 7 from w26.x _ _ rfl).trans ( (show Xi T3 876 7 = Xi U2 876 7 from w16.x _ _ rfl).trans ( (show Xi U2 876 7 = Xi U1 876 7 from by rw [eU2]; exact Xi_ne (by omega)).trans ((show Xi U1 876 7 = Xi S 876 7 from by rw [eU1]; exact Xi_ne (by omega)))))
      refine y_callV rfl rfl rfl (t_gr_takeWhat__p hHT4 (by first | assumption | exact (NFR_FR hFT4 rfl rfl (by assumption : NFR S))) (by first | assumption | omega) (by first | assumption | omega) _) ?_
      rintro _ T5 ⟨hHT5, w36, z35, rfl, w35, w33, w34⟩
      have hFT5 : FR md_gr_checkBe__p S T5 := FR.tr hFT4 w36 rfl
      show Pl _ _ _ _ _ _ [iv z35] _ _
      have gp46 := w33
      rw [FRT hFT4 rfl rfl] at gp46
      clear w33
      refine y_if_eq rfl rfl (by unfold rg; omega) (fun w37 => ?_) (fun w38 => ?_)
      · rw [show z35 = 0 by omega] at gp46
        refine y_iconst rfl ?_
        refine y_ireturn rfl rfl ?_
        have w39 : Xi T5 876 7 = Xi S 876 7 := (show Xi T5 876 7 = Xi T4 876 7 from w36.x _ _ rfl).trans ( (show Xi T4 876 7 = Xi T3 876 7 from w26.x _ _ rfl).trans ( (show Xi T3 876 7 = Xi U2 876 7 from w16.x _ _ rfl).trans ( (show Xi U2 876 7 = Xi U1 876 7 from by rw [eU2]; exact Xi_ne (by omega)).trans ((show Xi U1 876 7 = Xi S 876 7 from by rw [eU1]; exact Xi_ne (by omega))))))
        have w40 : Xi T5 890 2 = Xi U1 890 2 := (show Xi T5 890 2 = Xi T4 890 2 from w36.x _ _ rfl).trans ( (show Xi T4 890 2 = Xi T3 890 2 from w26.x _ _ rfl).trans ( (show Xi T3 890 2 = Xi U2 890 2 from w16.x _ _ rfl).trans ((show Xi U2 890 2 = Xi U1 890 2 from by rw [eU2]; exact Xi_ne (by omega)))))
        exact ⟨hHT5, hFT5, _, rfl, ⟨by omega, by omega⟩, (by  first | (have t := b11; rw [ckB_0 b11.o]; simp only [gS_1, gS_0, o_1, o_0, i10, i00, n10, n00, if_true, if_false, gq23, gp32, gp39, gp46]) | (have t := k119; rw [ckB_1 nb119.o, B119, gS_1, ckB2_10 k119]; simp only [gS_1, gS_0, o_1, o_0, i10, i00, n10, n00, if_true, if_false, gq23, gp32, gp39, gp46]) | (have t := k186; rw [ckB_1 nb186.o, B186, gS_1, ckB2_11 k186]; simp only [gS_1, gS_0, o_1, o_0, i10, i00, n10, n00, if_true, if_false, gq23, gp32, gp39, gp46]) | (have t := a258; rw [ckB_1 nb258.o, B258, gS_1, ckB2_12 n258.o m258.o a258.o]; simp only [gS_1, gS_0, o_1, o_0, i10, i00, n10, n00, if_true, if_false, gq23, gp32, gp39, gp46]; first | done | (rw [if_pos (p282.o.1 (by omega))]; simp only [gS_1, gS_0, o_1, o_0, i10, i00, n10, n00, if_true, if_false, gq23, gp32, gp39, gp46]) | (rw [if_neg (p282.o.2 (by omega))]; simp only [gS_1, gS_0, o_1, o_0, i10, i00, n10, n00, if_true, if_false, gq23, gp32, gp39, gp46])) | (have t := p318; rw [ckB_1 nb318.o, B318, gS_1, ckB2_13 p318.o]; simp only [gS_1, gS_0, o_1, o_0, i10, i00, n10, n00, if_true, if_false, gq23, gp32, gp39, gp46]) | (have t := q347; rw [ckB_1 nb347.o, B347, gS_1, ckB2_15 a347.o q347.o]; simp only [gS_1, gS_0, o_1, o_0, i10, i00, n10, n00, if_true, if_false, gq23, gp32, gp39, gp46]) | (rw [ckB_1 nb67.o]; simp only [gS_1, gS_0, o_1, o_0, i10, i00, n10, n00, if_true, if_false, gq23, gp32, gp39, gp46])), (by omega), (by first | (have t := b11; exact (fun _ => ⟨fun _ => by omega, fun q => absurd b11.o q⟩)) | (have t := k119; exact (fun _ => ⟨fun q => absurd q nb119.o, fun _ => ⟨_, B119, bes_10 k119 (by omega)⟩⟩)) | (have t := k186; exact (fun _ => ⟨fun q => absurd q nb186.o, fun _ => ⟨_, B186, bes_11 k186 (by omega)⟩⟩)) | (have t := a258; exact (fun _ => ⟨fun q => absurd q nb258.o, fun _ => ⟨_, B258, bes_12 n258.o m258.o a258.o (by omega)⟩⟩)) | (have t := p318; exact (fun _ => ⟨fun q => absurd q nb318.o, fun _ => ⟨_, B318, bes_13 p318.o (by omega)⟩⟩)) | (have t := q347; exact (fun z1 => ⟨fun q => absurd q nb347.o, fun _ => ⟨_, B347, bes_r a347.o q347.o (s371.o z1)⟩⟩)) | exact (fun q => absurd q (by omega)))⟩
      · rw [show z35 = 1 by omega] at gp46
        refine y_aload_n rfl rfl ?_
        refine y_bipush rfl rfl ?_
        have w41 : Xi T5 876 7 = Xi S 876 7 := (show Xi T5 876 7 = Xi T4 876 7 from w36.x _ _ rfl).trans ( (show Xi T4 876 7 = Xi T3 876 7 from w26.x _ _ rfl).trans ( (show Xi T3 876 7 = Xi U2 876 7 from w16.x _ _ rfl).trans ( (show Xi U2 876 7 = Xi U1 876 7 from by rw [eU2]; exact Xi_ne (by omega)).trans ((show Xi U1 876 7 = Xi S 876 7 from by rw [eU1]; exact Xi_ne (by omega))))))
        refine y_callV rfl rfl rfl (t_gr_take__p hHT5 103 ⟨by omega, by omega⟩ (by first | assumption | exact (NFR_FR hFT5 rfl rfl (by assumption : NFR S))) (by first | assumption | omega) (by first | assumption | omega) _) ?_
        rintro _ T6 ⟨hHT6, w46, z45, rfl, w45, w43, w44⟩
        have hFT6 : FR md_gr_checkBe__p S T6 := FR.tr hFT5 w46 rfl
        show Pl _ _ _ _ _ _ [iv z45] _ _
        have gp55 := w43
        rw [FRT hFT5 rfl rfl] at gp55
        clear w43
        refine y_if_eq rfl rfl (by unfold rg; omega) (fun w47 => ?_) (fun w48 => ?_)
        · rw [show z45 = 0 by omega] at gp55
          refine y_iconst rfl ?_
          refine y_ireturn rfl rfl ?_
          have w49 : Xi T6 876 7 = Xi S 876 7 := (show Xi T6 876 7 = Xi T5 876 7 from w46.x _ _ rfl).trans ( (show Xi T5 876 7 = Xi T4 876 7 from w36.x _ _ rfl).trans ( (show Xi T4 876 7 = Xi T3 876 7 from w26.x _ _ rfl).trans ( (show Xi T3 876 7 = Xi U2 876 7 from w16.x _ _ rfl).trans ( (show Xi U2 876 7 = Xi U1 876 7 from by rw [eU2]; exact Xi_ne (by omega)).trans ((show Xi U1 876 7 = Xi S 876 7 from by rw [eU1]; exact Xi_ne (by omega)))))))
          have w50 : Xi T6 890 2 = Xi U1 890 2 := (show Xi T6 890 2 = Xi T5 890 2 from w46.x _ _ rfl).trans ( (show Xi T5 890 2 = Xi T4 890 2 from w36.x _ _ rfl).trans ( (show Xi T4 890 2 = Xi T3 890 2 from w26.x _ _ rfl).trans ( (show Xi T3 890 2 = Xi U2 890 2 from w16.x _ _ rfl).trans ((show Xi U2 890 2 = Xi U1 890 2 from by rw [eU2]; exact Xi_ne (by omega))))))
          exact ⟨hHT6, hFT6, _, rfl, ⟨by omega, by omega⟩, (by  first | (have t := b11; rw [ckB_0 b11.o]; simp only [gS_1, gS_0, o_1, o_0, i10, i00, n10, n00, if_true, if_false, gq23, gp32, gp39, gp46, gp55]) | (have t := k119; rw [ckB_1 nb119.o, B119, gS_1, ckB2_10 k119]; simp only [gS_1, gS_0, o_1, o_0, i10, i00, n10, n00, if_true, if_false, gq23, gp32, gp39, gp46, gp55]) | (have t := k186; rw [ckB_1 nb186.o, B186, gS_1, ckB2_11 k186]; simp only [gS_1, gS_0, o_1, o_0, i10, i00, n10, n00, if_true, if_false, gq23, gp32, gp39, gp46, gp55]) | (have t := a258; rw [ckB_1 nb258.o, B258, gS_1, ckB2_12 n258.o m258.o a258.o]; simp only [gS_1, gS_0, o_1, o_0, i10, i00, n10, n00, if_true, if_false, gq23, gp32, gp39, gp46, gp55]; first | done | (rw [if_pos (p282.o.1 (by omega))]; simp only [gS_1, gS_0, o_1, o_0, i10, i00, n10, n00, if_true, if_false, gq23, gp32, gp39, gp46, gp55]) | (rw [if_neg (p282.o.2 (by omega))]; simp only [gS_1, gS_0, o_1, o_0, i10, i00, n10, n00, if_true, if_false, gq23, gp32, gp39, gp46, gp55])) | (have t := p318; rw [ckB_1 nb318.o, B318, gS_1, ckB2_13 p318.o]; simp only [gS_1, gS_0, o_1, o_0, i10, i00, n10, n00, if_true, if_false, gq23, gp32, gp39, gp46, gp55]) | (have t := q347; rw [ckB_1 nb347.o, B347, gS_1, ckB2_15 a347.o q347.o]; simp only [gS_1, gS_0, o_1, o_0, i10, i00, n10, n00, if_true, if_false, gq23, gp32, gp39, gp46, gp55]) | (rw [ckB_1 nb67.o]; simp only [gS_1, gS_0, o_1, o_0, i10, i00, n10, n00, if_true, if_false, gq23, gp32, gp39, gp46, gp55])), (by omega), (by first | (have t := b11; exact (fun _ => ⟨fun _ => by omega, fun q => absurd b11.o q⟩)) | (have t := k119; exact (fun _ => ⟨fun q => absurd q nb119.o, fun _ => ⟨_, B119, bes_10 k119 (by omega)⟩⟩)) | (have t := k186; exact (fun _ => ⟨fun q => absurd q nb186.o, fun _ => ⟨_, B186, bes_11 k186 (by omega)⟩⟩)) | (have t := a258; exact (fun _ => ⟨fun q => absurd q nb258.o, fun _ => ⟨_, B258, bes_12 n258.o m258.o a258.o (by omega)⟩⟩)) | (have t := p318; exact (fun _ => ⟨fun q => absurd q nb318.o, fun _ => ⟨_, B318, bes_13 p318.o (by omega)⟩⟩)) | (have t := q347; exact (fun z1 => ⟨fun q => absurd q nb347.o, fun _ => ⟨_, B347, bes_r a347.o q347.o (s371.o z1)⟩⟩)) | exact (fun q => absurd q (by omega)))⟩
        · rw [show z45 = 1 by omega] at gp55
          refine y_iconst rfl ?_
          refine y_goto rfl rfl ?_
          refine y_ireturn rfl rfl ?_
          have w51 : Xi T6 876 7 = Xi S 876 7 := (show Xi T6 876 7 = Xi T5 876 7 from w46.x _ _ rfl).trans ( (show Xi T5 876 7 = Xi T4 876 7 from w36.x _ _ rfl).trans ( (show Xi T4 876 7 = Xi T3 876 7 from w26.x _ _ rfl).trans ( (show Xi T3 876 7 = Xi U2 876 7 from w16.x _ _ rfl).trans ( (show Xi U2 876 7 = Xi U1 876 7 from by rw [eU2]; exact Xi_ne (by omega)).trans ((show Xi U1 876 7 = Xi S 876 7 from by rw [eU1]; exact Xi_ne (by omega)))))))
          have w52 : Xi T6 890 2 = Xi U1 890 2 := (show Xi T6 890 2 = Xi T5 890 2 from w46.x _ _ rfl).trans ( (show Xi T5 890 2 = Xi T4 890 2 from w36.x _ _ rfl).trans ( (show Xi T4 890 2 = Xi T3 890 2 from w26.x _ _ rfl).trans ( (show Xi T3 890 2 = Xi U2 890 2 from w16.x _ _ rfl).trans ((show Xi U2 890 2 = Xi U1 890 2 from by rw [eU2]; exact Xi_ne (by omega))))))
          exact ⟨hHT6, hFT6, _, rfl, ⟨by omega, by omega⟩, (by  first | (have t := b11; rw [ckB_0 b11.o]; simp only [gS_1, gS_0, o_1, o_0, i10, i00, n10, n00, if_true, if_false, gq23, gp32, gp39, gp46, gp55]) | (have t := k119; rw [ckB_1 nb119.o, B119, gS_1, ckB2_10 k119]; simp only [gS_1, gS_0, o_1, o_0, i10, i00, n10, n00, if_true, if_false, gq23, gp32, gp39, gp46, gp55]) | (have t := k186; rw [ckB_1 nb186.o, B186, gS_1, ckB2_11 k186]; simp only [gS_1, gS_0, o_1, o_0, i10, i00, n10, n00, if_true, if_false, gq23, gp32, gp39, gp46, gp55]) | (have t := a258; rw [ckB_1 nb258.o, B258, gS_1, ckB2_12 n258.o m258.o a258.o]; simp only [gS_1, gS_0, o_1, o_0, i10, i00, n10, n00, if_true, if_false, gq23, gp32, gp39, gp46, gp55]; first | done | (rw [if_pos (p282.o.1 (by omega))]; simp only [gS_1, gS_0, o_1, o_0, i10, i00, n10, n00, if_true, if_false, gq23, gp32, gp39, gp46, gp55]) | (rw [if_neg (p282.o.2 (by omega))]; simp only [gS_1, gS_0, o_1, o_0, i10, i00, n10, n00, if_true, if_false, gq23, gp32, gp39, gp46, gp55])) | (have t := p318; rw [ckB_1 nb318.o, B318, gS_1, ckB2_13 p318.o]; simp only [gS_1, gS_0, o_1, o_0, i10, i00, n10, n00, if_true, if_false, gq23, gp32, gp39, gp46, gp55]) | (have t := q347; rw [ckB_1 nb347.o, B347, gS_1, ckB2_15 a347.o q347.o]; simp only [gS_1, gS_0, o_1, o_0, i10, i00, n10, n00, if_true, if_false, gq23, gp32, gp39, gp46, gp55]) | (rw [ckB_1 nb67.o]; simp only [gS_1, gS_0, o_1, o_0, i10, i00, n10, n00, if_true, if_false, gq23, gp32, gp39, gp46, gp55])), (by omega), (by first | (have t := b11; exact (fun _ => ⟨fun _ => by omega, fun q => absurd b11.o q⟩)) | (have t := k119; exact (fun _ => ⟨fun q => absurd q nb119.o, fun _ => ⟨_, B119, bes_10 k119 (by omega)⟩⟩)) | (have t := k186; exact (fun _ => ⟨fun q => absurd q nb186.o, fun _ => ⟨_, B186, bes_11 k186 (by omega)⟩⟩)) | (have t := a258; exact (fun _ => ⟨fun q => absurd q nb258.o, fun _ => ⟨_, B258, bes_12 n258.o m258.o a258.o (by omega)⟩⟩)) | (have t := p318; exact (fun _ => ⟨fun q => absurd q nb318.o, fun _ => ⟨_, B318, bes_13 p318.o (by omega)⟩⟩)) | (have t := q347; exact (fun z1 => ⟨fun q => absurd q nb347.o, fun _ => ⟨_, B347, bes_r a347.o q347.o (s371.o z1)⟩⟩)) | exact (fun q => absurd q (by omega)))⟩
set_option maxRecDepth 100000 in
theorem c119_gr_checkBe__p {S : sS} (hH : RI S) (hfr : NFR S) (hr : Xi S 876 7 ≤ 5130) (ha : 0 ≤ Xi S 890 1 ∧ Xi S 890 1 ≤ Xi S 876 7) (hls : LST S) (h0 : Xi S 890 1 = 0) (d : Nat) (fu : Nat) : ∀  (T7 : sS) (_ : RI T7) (_ : FR md_gr_checkBe__p S T7), (gSq (gLs (ty7 S) 0) (gBe (ty7 S)) = (1, Xi T7 890 1)) → (Hid (¬ bp7 (ty7 S) 0)) → (0 ≤ Xi T7 890 1 ∧ Xi T7 890 1 ≤ Xi S 876 7) → (ty7 S (Xi T7 890 1) = 0 ∧ ty7 S (Xi T7 890 1 + 1) = 18) → Pl fu lay0 (d + 4) m_gr_checkBe 119 [(0, .ref 890)] [] T7 (Q_gr_checkBe__p S) := by
  have hF : FR md_gr_checkBe__p S S := FR.rf
  have w1 : -2147483648 ≤ Xi S 876 7 ∧ Xi S 876 7 ≤ 2147483647 := Xi_rgI
  have w2 : -2147483648 ≤ Xi S 890 1 ∧ Xi S 890 1 ≤ 2147483647 := Xi_rgI
  have w3 : -2147483648 ≤ Xi S 890 2 ∧ Xi S 890 2 ≤ 2147483647 := Xi_rgI
  intro T7 hHT7 hFT7 B119 nb119 w53 k119
  have w54 : Xi T7 876 7 = Xi S 876 7 := hFT7.x _ _ rfl
  have w55 : -2147483648 ≤ Xi T7 876 7 ∧ Xi T7 876 7 ≤ 2147483647 := Xi_rgI
  have w56 : -2147483648 ≤ Xi T7 890 1 ∧ Xi T7 890 1 ≤ 2147483647 := Xi_rgI
  have w57 : -2147483648 ≤ Xi T7 890 2 ∧ Xi T7 890 2 ≤ 2147483647 := Xi_rgI
  refine y_aload_n rfl rfl ?_
  refine y_bipush rfl rfl ?_
  refine y_pfi rfl rfl rfl rfl ?_
  obtain ⟨U8, eU8⟩ : ∃ T : sS, T = uI T7 890 2 (Int32.ofInt 10) := ⟨_, rfl⟩
  rw [← eU8]
  have hHU8 : RI U8 := by rw [eU8]; exact RI_w hHT7
  have hFU8 : FR md_gr_checkBe__p S U8 := by rw [eU8]; exact FR.wI hFT7 (mdf_i (r := (890, 891, 2, 3)) (List.mem_of_getElem? (i := 1) rfl) (inR_i (by omega) (by omega) (by omega) (by omega)))
  have w58 : Xi U8 890 2 = 10 := by rw [eU8]; exact Xi_same (by unfold rg; omega)
  refine y_aload_n rfl rfl ?_
  refine y_dup rfl rfl ?_
  refine y_gfi rfl rfl rfl rfl rfl ?_
  have w59 : (Xi U8 890 1) = (Xi T7 890 1) := (show Xi U8 890 1 = Xi T7 890 1 from by rw [eU8]; exact Xi_ne (by omega))
  rw [w59]
  refine y_iconst rfl ?_
  refine y_iadd rfl ?_
  refine y_pfi rfl rfl rfl rfl ?_
  obtain ⟨U9, eU9⟩ : ∃ T : sS, T = uI U8 890 1 (Int32.ofInt ((Xi T7 890 1) + 2)) := ⟨_, rfl⟩
  rw [← eU9]
  have hHU9 : RI U9 := by rw [eU9]; exact RI_w hHU8
  have hFU9 : FR md_gr_checkBe__p S U9 := by rw [eU9]; exact FR.wI hFU8 (mdf_i (r := (890, 891, 1, 2)) (List.mem_of_getElem? (i := 0) rfl) (inR_i (by omega) (by omega) (by omega) (by omega)))
  have w60 : Xi U9 890 1 = ((Xi T7 890 1) + 2) := by rw [eU9]; exact Xi_same (by unfold rg; omega)
  have x132 : Xi U9 890 1 ≤ Xi S 876 7 := by have t := ty_lt k119.2 (by decide); omega
  refine y_aload_n rfl rfl ?_
  refine y_bipush rfl rfl ?_
  have w61 : Xi U9 876 7 = Xi T7 876 7 := (show Xi U9 876 7 = Xi U8 876 7 from by rw [eU9]; exact Xi_ne (by omega)).trans ((show Xi U8 876 7 = Xi T7 876 7 from by rw [eU8]; exact Xi_ne (by omega)))
  refine y_callV rfl rfl rfl (t_gr_take__p hHU9 7 ⟨by omega, by omega⟩ (by first | assumption | exact (NFR_FR hFU9 rfl rfl (by assumption : NFR S))) (by first | assumption | omega) (by first | assumption | omega) _) ?_
  rintro _ T10 ⟨hHT10, w66, z65, rfl, w65, w63, w64⟩
  have hFT10 : FR md_gr_checkBe__p S T10 := FR.tr hFU9 w66 rfl
  show Pl _ _ _ _ _ _ [iv z65] _ _
  have gp138 := w63
  rw [FRT hFU9 rfl rfl] at gp138
  try rw [show Xi U9 890 1 = ((Xi T7 890 1) + 2) by omega] at gp138
  clear w63
  refine y_if_eq rfl rfl (by unfold rg; omega) (fun w67 => ?_) (fun w68 => ?_)
  · rw [show z65 = 0 by omega] at gp138
    refine y_aload_n rfl rfl ?_
    refine y_bipush rfl rfl ?_
    have w69 : Xi T10 876 7 = Xi T7 876 7 := (show Xi T10 876 7 = Xi U9 876 7 from w66.x _ _ rfl).trans ( (show Xi U9 876 7 = Xi U8 876 7 from by rw [eU9]; exact Xi_ne (by omega)).trans ((show Xi U8 876 7 = Xi T7 876 7 from by rw [eU8]; exact Xi_ne (by omega))))
    refine y_callV rfl rfl rfl (t_gr_take__p hHT10 103 ⟨by omega, by omega⟩ (by first | assumption | exact (NFR_FR hFT10 rfl rfl (by assumption : NFR S))) (by first | assumption | omega) (by first | assumption | omega) _) ?_
    rintro _ T11 ⟨hHT11, w74, z73, rfl, w73, w71, w72⟩
    have hFT11 : FR md_gr_checkBe__p S T11 := FR.tr hFT10 w74 rfl
    show Pl _ _ _ _ _ _ [iv z73] _ _
    have gp163 := w71
    rw [FRT hFT10 rfl rfl] at gp163
    clear w71
    refine y_if_eq rfl rfl (by unfold rg; omega) (fun w75 => ?_) (fun w76 => ?_)
    · rw [show z73 = 0 by omega] at gp163
      refine y_iconst rfl ?_
      refine y_ireturn rfl rfl ?_
      have w77 : Xi T11 876 7 = Xi T7 876 7 := (show Xi T11 876 7 = Xi T10 876 7 from w74.x _ _ rfl).trans ( (show Xi T10 876 7 = Xi U9 876 7 from w66.x _ _ rfl).trans ( (show Xi U9 876 7 = Xi U8 876 7 from by rw [eU9]; exact Xi_ne (by omega)).trans ((show Xi U8 876 7 = Xi T7 876 7 from by rw [eU8]; exact Xi_ne (by omega)))))
      have w78 : Xi T11 890 2 = Xi U8 890 2 := (show Xi T11 890 2 = Xi T10 890 2 from w74.x _ _ rfl).trans ( (show Xi T10 890 2 = Xi U9 890 2 from w66.x _ _ rfl).trans ((show Xi U9 890 2 = Xi U8 890 2 from by rw [eU9]; exact Xi_ne (by omega))))
      exact ⟨hHT11, hFT11, _, rfl, ⟨by omega, by omega⟩, (by  first | (have t := b11; rw [ckB_0 b11.o]; simp only [gS_1, gS_0, o_1, o_0, i10, i00, n10, n00, if_true, if_false, gp138, gp163]) | (have t := k119; rw [ckB_1 nb119.o, B119, gS_1, ckB2_10 k119]; simp only [gS_1, gS_0, o_1, o_0, i10, i00, n10, n00, if_true, if_false, gp138, gp163]) | (have t := k186; rw [ckB_1 nb186.o, B186, gS_1, ckB2_11 k186]; simp only [gS_1, gS_0, o_1, o_0, i10, i00, n10, n00, if_true, if_false, gp138, gp163]) | (have t := a258; rw [ckB_1 nb258.o, B258, gS_1, ckB2_12 n258.o m258.o a258.o]; simp only [gS_1, gS_0, o_1, o_0, i10, i00, n10, n00, if_true, if_false, gp138, gp163]; first | done | (rw [if_pos (p282.o.1 (by omega))]; simp only [gS_1, gS_0, o_1, o_0, i10, i00, n10, n00, if_true, if_false, gp138, gp163]) | (rw [if_neg (p282.o.2 (by omega))]; simp only [gS_1, gS_0, o_1, o_0, i10, i00, n10, n00, if_true, if_false, gp138, gp163])) | (have t := p318; rw [ckB_1 nb318.o, B318, gS_1, ckB2_13 p318.o]; simp only [gS_1, gS_0, o_1, o_0, i10, i00, n10, n00, if_true, if_false, gp138, gp163]) | (have t := q347; rw [ckB_1 nb347.o, B347, gS_1, ckB2_15 a347.o q347.o]; simp only [gS_1, gS_0, o_1, o_0, i10, i00, n10, n00, if_true, if_false, gp138, gp163]) | (rw [ckB_1 nb67.o]; simp only [gS_1, gS_0, o_1, o_0, i10, i00, n10, n00, if_true, if_false, gp138, gp163])), (by omega), (by first | (have t := b11; exact (fun _ => ⟨fun _ => by omega, fun q => absurd b11.o q⟩)) | (have t := k119; exact (fun _ => ⟨fun q => absurd q nb119.o, fun _ => ⟨_, B119, bes_10 k119 (by omega)⟩⟩)) | (have t := k186; exact (fun _ => ⟨fun q => absurd q nb186.o, fun _ => ⟨_, B186, bes_11 k186 (by omega)⟩⟩)) | (have t := a258; exact (fun _ => ⟨fun q => absurd q nb258.o, fun _ => ⟨_, B258, bes_12 n258.o m258.o a258.o (by omega)⟩⟩)) | (have t := p318; exact (fun _ => ⟨fun q => absurd q nb318.o, fun _ => ⟨_, B318, bes_13 p318.o (by omega)⟩⟩)) | (have t := q347; exact (fun z1 => ⟨fun q => absurd q nb347.o, fun _ => ⟨_, B347, bes_r a347.o q347.o (s371.o z1)⟩⟩)) | exact (fun q => absurd q (by omega)))⟩
    · rw [show z73 = 1 by omega] at gp163
      refine y_iconst rfl ?_
      refine y_goto rfl rfl ?_
      refine y_ireturn rfl rfl ?_
      have w79 : Xi T11 876 7 = Xi T7 876 7 := (show Xi T11 876 7 = Xi T10 876 7 from w74.x _ _ rfl).trans ( (show Xi T10 876 7 = Xi U9 876 7 from w66.x _ _ rfl).trans ( (show Xi U9 876 7 = Xi U8 876 7 from by rw [eU9]; exact Xi_ne (by omega)).trans ((show Xi U8 876 7 = Xi T7 876 7 from by rw [eU8]; exact Xi_ne (by omega)))))
      have w80 : Xi T11 890 2 = Xi U8 890 2 := (show Xi T11 890 2 = Xi T10 890 2 from w74.x _ _ rfl).trans ( (show Xi T10 890 2 = Xi U9 890 2 from w66.x _ _ rfl).trans ((show Xi U9 890 2 = Xi U8 890 2 from by rw [eU9]; exact Xi_ne (by omega))))
      exact ⟨hHT11, hFT11, _, rfl, ⟨by omega, by omega⟩, (by  first | (have t := b11; rw [ckB_0 b11.o]; simp only [gS_1, gS_0, o_1, o_0, i10, i00, n10, n00, if_true, if_false, gp138, gp163]) | (have t := k119; rw [ckB_1 nb119.o, B119, gS_1, ckB2_10 k119]; simp only [gS_1, gS_0, o_1, o_0, i10, i00, n10, n00, if_true, if_false, gp138, gp163]) | (have t := k186; rw [ckB_1 nb186.o, B186, gS_1, ckB2_11 k186]; simp only [gS_1, gS_0, o_1, o_0, i10, i00, n10, n00, if_true, if_false, gp138, gp163]) | (have t := a258; rw [ckB_1 nb258.o, B258, gS_1, ckB2_12 n258.o m258.o a258.o]; simp only [gS_1, gS_0, o_1, o_0, i10, i00, n10, n00, if_true, if_false, gp138, gp163]; first | done | (rw [if_pos (p282.o.1 (by omega))]; simp only [gS_1, gS_0, o_1, o_0, i10, i00, n10, n00, if_true, if_false, gp138, gp163]) | (rw [if_neg (p282.o.2 (by omega))]; simp only [gS_1, gS_0, o_1, o_0, i10, i00, n10, n00, if_true, if_false, gp138, gp163])) | (have t := p318; rw [ckB_1 nb318.o, B318, gS_1, ckB2_13 p318.o]; simp only [gS_1, gS_0, o_1, o_0, i10, i00, n10, n00, if_true, if_false, gp138, gp163]) | (have t := q347; rw [ckB_1 nb347.o, B347, gS_1, ckB2_15 a347.o q347.o]; simp only [gS_1, gS_0, o_1, o_0, i10, i00, n10, n00, if_true, if_false, gp138, gp163]) | (rw [ckB_1 nb67.o]; simp only [gS_1, gS_0, o_1, o_0, i10, i00, n10, n00, if_true, if_false, gp138, gp163])), (by omega), (by first | (have t := b11; exact (fun _ => ⟨fun _ => by omega, fun q => absurd b11.o q⟩)) | (have t := k119; exact (fun _ => ⟨fun q => absurd q nb119.o, fun _ => ⟨_, B119, bes_10 k119 (by omega)⟩⟩)) | (have t := k186; exact (fun _ => ⟨fun q => absurd q nb186.o, fun _ => ⟨_, B186, bes_11 k186 (by omega)⟩⟩)) | (have t := a258; exact (fun _ => ⟨fun q => absurd q nb258.o, fun _ => ⟨_, B258, bes_12 n258.o m258.o a258.o (by omega)⟩⟩)) | (have t := p318; exact (fun _ => ⟨fun q => absurd q nb318.o, fun _ => ⟨_, B318, bes_13 p318.o (by omega)⟩⟩)) | (have t := q347; exact (fun z1 => ⟨fun q => absurd q nb347.o, fun _ => ⟨_, B347, bes_r a347.o q347.o (s371.o z1)⟩⟩)) | exact (fun q => absurd q (by omega)))⟩
  · rw [show z65 = 1 by omega] at gp138
    refine y_aload_n rfl rfl ?_
    refine y_bipush rfl rfl ?_
    have w81 : Xi T10 876 7 = Xi T7 876 7 := (show Xi T10 876 7 = Xi U9 876 7 from w66.x _ _ rfl).trans ( (show Xi U9 876 7 = Xi U8 876 7 from by rw [eU9]; exact Xi_ne (by omega)).trans ((show Xi U8 876 7 = Xi T7 876 7 from by rw [eU8]; exact Xi_ne (by omega))))
    refine y_callV rfl rfl rfl (t_gr_take__p hHT10 20 ⟨by omega, by omega⟩ (by first | assumption | exact (NFR_FR hFT10 rfl rfl (by assumption : NFR S))) (by first | assumption | omega) (by first | assumption | omega) _) ?_
    rintro _ T12 ⟨hHT12, w86, z85, rfl, w85, w83, w84⟩
    have hFT12 : FR md_gr_checkBe__p S T12 := FR.tr hFT10 w86 rfl
    show Pl _ _ _ _ _ _ [iv z85] _ _
    have gp147 := w83
    rw [FRT hFT10 rfl rfl] at gp147
    clear w83
    refine y_if_ne rfl rfl (by unfold rg; omega) (fun w87 => ?_) (fun w88 => ?_)
    · rw [show z85 = 1 by omega] at gp147
      refine y_aload_n rfl rfl ?_
      refine y_bipush rfl rfl ?_
      have w89 : Xi T12 876 7 = Xi T7 876 7 := (show Xi T12 876 7 = Xi T10 876 7 from w86.x _ _ rfl).trans ( (show Xi T10 876 7 = Xi U9 876 7 from w66.x _ _ rfl).trans ( (show Xi U9 876 7 = Xi U8 876 7 from by rw [eU9]; exact Xi_ne (by omega)).trans ((show Xi U8 876 7 = Xi T7 876 7 from by rw [eU8]; exact Xi_ne (by omega)))))
      refine y_callV rfl rfl rfl (t_gr_take__p hHT12 103 ⟨by omega, by omega⟩ (by first | assumption | exact (NFR_FR hFT12 rfl rfl (by assumption : NFR S))) (by first | assumption | omega) (by first | assumption | omega) _) ?_
      rintro _ T13 ⟨hHT13, w94, z93, rfl, w93, w91, w92⟩
      have hFT13 : FR md_gr_checkBe__p S T13 := FR.tr hFT12 w94 rfl
      show Pl _ _ _ _ _ _ [iv z93] _ _
      have gp163 := w91
      rw [FRT hFT12 rfl rfl] at gp163
      clear w91
      refine y_if_eq rfl rfl (by unfold rg; omega) (fun w95 => ?_) (fun w96 => ?_)
      · rw [show z93 = 0 by omega] at gp163
        refine y_iconst rfl ?_
        refine y_ireturn rfl rfl ?_
        have w97 : Xi T13 876 7 = Xi T7 876 7 := (show Xi T13 876 7 = Xi T12 876 7 from w94.x _ _ rfl).trans ( (show Xi T12 876 7 = Xi T10 876 7 from w86.x _ _ rfl).trans ( (show Xi T10 876 7 = Xi U9 876 7 from w66.x _ _ rfl).trans ( (show Xi U9 876 7 = Xi U8 876 7 from by rw [eU9]; exact Xi_ne (by omega)).trans ((show Xi U8 876 7 = Xi T7 876 7 from by rw [eU8]; exact Xi_ne (by omega))))))
        have w98 : Xi T13 890 2 = Xi U8 890 2 := (show Xi T13 890 2 = Xi T12 890 2 from w94.x _ _ rfl).trans ( (show Xi T12 890 2 = Xi T10 890 2 from w86.x _ _ rfl).trans ( (show Xi T10 890 2 = Xi U9 890 2 from w66.x _ _ rfl).trans ((show Xi U9 890 2 = Xi U8 890 2 from by rw [eU9]; exact Xi_ne (by omega)))))
        exact ⟨hHT13, hFT13, _, rfl, ⟨by omega, by omega⟩, (by  first | (have t := b11; rw [ckB_0 b11.o]; simp only [gS_1, gS_0, o_1, o_0, i10, i00, n10, n00, if_true, if_false, gp138, gp147, gp163]) | (have t := k119; rw [ckB_1 nb119.o, B119, gS_1, ckB2_10 k119]; simp only [gS_1, gS_0, o_1, o_0, i10, i00, n10, n00, if_true, if_false, gp138, gp147, gp163]) | (have t := k186; rw [ckB_1 nb186.o, B186, gS_1, ckB2_11 k186]; simp only [gS_1, gS_0, o_1, o_0, i10, i00, n10, n00, if_true, if_false, gp138, gp147, gp163]) | (have t := a258; rw [ckB_1 nb258.o, B258, gS_1, ckB2_12 n258.o m258.o a258.o]; simp only [gS_1, gS_0, o_1, o_0, i10, i00, n10, n00, if_true, if_false, gp138, gp147, gp163]; first | done | (rw [if_pos (p282.o.1 (by omega))]; simp only [gS_1, gS_0, o_1, o_0, i10, i00, n10, n00, if_true, if_false, gp138, gp147, gp163]) | (rw [if_neg (p282.o.2 (by omega))]; simp only [gS_1, gS_0, o_1, o_0, i10, i00, n10, n00, if_true, if_false, gp138, gp147, gp163])) | (have t := p318; rw [ckB_1 nb318.o, B318, gS_1, ckB2_13 p318.o]; simp only [gS_1, gS_0, o_1, o_0, i10, i00, n10, n00, if_true, if_false, gp138, gp147, gp163]) | (have t := q347; rw [ckB_1 nb347.o, B347, gS_1, ckB2_15 a347.o q347.o]; simp only [gS_1, gS_0, o_1, o_0, i10, i00, n10, n00, if_true, if_false, gp138, gp147, gp163]) | (rw [ckB_1 nb67.o]; simp only [gS_1, gS_0, o_1, o_0, i10, i00, n10, n00, if_true, if_false, gp138, gp147, gp163])), (by omega), (by first | (have t := b11; exact (fun _ => ⟨fun _ => by omega, fun q => absurd b11.o q⟩)) | (have t := k119; exact (fun _ => ⟨fun q => absurd q nb119.o, fun _ => ⟨_, B119, bes_10 k119 (by omega)⟩⟩)) | (have t := k186; exact (fun _ => ⟨fun q => absurd q nb186.o, fun _ => ⟨_, B186, bes_11 k186 (by omega)⟩⟩)) | (have t := a258; exact (fun _ => ⟨fun q => absurd q nb258.o, fun _ => ⟨_, B258, bes_12 n258.o m258.o a258.o (by omega)⟩⟩)) | (have t := p318; exact (fun _ => ⟨fun q => absurd q nb318.o, fun _ => ⟨_, B318, bes_13 p318.o (by omega)⟩⟩)) | (have t := q347; exact (fun z1 => ⟨fun q => absurd q nb347.o, fun _ => ⟨_, B347, bes_r a347.o q347.o (s371.o z1)⟩⟩)) | exact (fun q => absurd q (by omega)))⟩
      · rw [show z93 = 1 by omega] at gp163
        refine y_iconst rfl ?_
        refine y_goto rfl rfl ?_
        refine y_ireturn rfl rfl ?_
        have w99 : Xi T13 876 7 = Xi T7 876 7 := (show Xi T13 876 7 = Xi T12 876 7 from w94.x _ _ rfl).trans ( (show Xi T12 876 7 = Xi T10 876 7 from w86.x _ _ rfl).trans ( (show Xi T10 876 7 = Xi U9 876 7 from w66.x _ _ rfl).trans ( (show Xi U9 876 7 = Xi U8 876 7 from by rw [eU9]; exact Xi_ne (by omega)).trans ((show Xi U8 876 7 = Xi T7 876 7 from by rw [eU8]; exact Xi_ne (by omega))))))
        have w100 : Xi T13 890 2 = Xi U8 890 2 := (show Xi T13 890 2 = Xi T12 890 2 from w94.x _ _ rfl).trans ( (show Xi T12 890 2 = Xi T10 890 2 from w86.x _ _ rfl).trans ( (show Xi T10 890 2 = Xi U9 890 2 from w66.x _ _ rfl).trans ((show Xi U9 890 2 = Xi U8 890 2 from by rw [eU9]; exact Xi_ne (by omega)))))
        exact ⟨hHT13, hFT13, _, rfl, ⟨by omega, by omega⟩, (by  first | (have t := b11; rw [ckB_0 b11.o]; simp only [gS_1, gS_0, o_1, o_0, i10, i00, n10, n00, if_true, if_false, gp138, gp147, gp163]) | (have t := k119; rw [ckB_1 nb119.o, B119, gS_1, ckB2_10 k119]; simp only [gS_1, gS_0, o_1, o_0, i10, i00, n10, n00, if_true, if_false, gp138, gp147, gp163]) | (have t := k186; rw [ckB_1 nb186.o, B186, gS_1, ckB2_11 k186]; simp only [gS_1, gS_0, o_1, o_0, i10, i00, n10, n00, if_true, if_false, gp138, gp147, gp163]) | (have t := a258; rw [ckB_1 nb258.o, B258, gS_1, ckB2_12 n258.o m258.o a258.o]; simp only [gS_1, gS_0, o_1, o_0, i10, i00, n10, n00, if_true, if_false, gp138, gp147, gp163]; first | done | (rw [if_pos (p282.o.1 (by omega))]; simp only [gS_1, gS_0, o_1, o_0, i10, i00, n10, n00, if_true, if_false, gp138, gp147, gp163]) | (rw [if_neg (p282.o.2 (by omega))]; simp only [gS_1, gS_0, o_1, o_0, i10, i00, n10, n00, if_true, if_false, gp138, gp147, gp163])) | (have t := p318; rw [ckB_1 nb318.o, B318, gS_1, ckB2_13 p318.o]; simp only [gS_1, gS_0, o_1, o_0, i10, i00, n10, n00, if_true, if_false, gp138, gp147, gp163]) | (have t := q347; rw [ckB_1 nb347.o, B347, gS_1, ckB2_15 a347.o q347.o]; simp only [gS_1, gS_0, o_1, o_0, i10, i00, n10, n00, if_true, if_false, gp138, gp147, gp163]) | (rw [ckB_1 nb67.o]; simp only [gS_1, gS_0, o_1, o_0, i10, i00, n10, n00, if_true, if_false, gp138, gp147, gp163])), (by omega), (by first | (have t := b11; exact (fun _ => ⟨fun _ => by omega, fun q => absurd b11.o q⟩)) | (have t := k119; exact (fun _ => ⟨fun q => absurd q nb119.o, fun _ => ⟨_, B119, bes_10 k119 (by omega)⟩⟩)) | (have t := k186; exact (fun _ => ⟨fun q => absurd q nb186.o, fun _ => ⟨_, B186, bes_11 k186 (by omega)⟩⟩)) | (have t := a258; exact (fun _ => ⟨fun q => absurd q nb258.o, fun _ => ⟨_, B258, bes_12 n258.o m258.o a258.o (by omega)⟩⟩)) | (have t := p318; exact (fun _ => ⟨fun q => absurd q nb318.o, fun _ => ⟨_, B318, bes_13 p318.o (by omega)⟩⟩)) | (have t := q347; exact (fun z1 => ⟨fun q => absurd q nb347.o, fun _ => ⟨_, B347, bes_r a347.o q347.o (s371.o z1)⟩⟩)) | exact (fun q => absurd q (by omega)))⟩
    · rw [show z85 = 0 by omega] at gp147
      refine y_aload_n rfl rfl ?_
      have w101 : Xi T12 876 7 = Xi T7 876 7 := (show Xi T12 876 7 = Xi T10 876 7 from w86.x _ _ rfl).trans ( (show Xi T10 876 7 = Xi U9 876 7 from w66.x _ _ rfl).trans ( (show Xi U9 876 7 = Xi U8 876 7 from by rw [eU9]; exact Xi_ne (by omega)).trans ((show Xi U8 876 7 = Xi T7 876 7 from by rw [eU8]; exact Xi_ne (by omega)))))
      refine y_callV rfl rfl rfl (t_gr_takeName__p hHT12 (by first | assumption | exact (NFR_FR hFT12 rfl rfl (by assumption : NFR S))) (by first | assumption | omega) (by first | assumption | omega) _) ?_
      rintro _ T14 ⟨hHT14, w106, z105, rfl, w105, w103, w104⟩
      have hFT14 : FR md_gr_checkBe__p S T14 := FR.tr hFT12 w106 rfl
      show Pl _ _ _ _ _ _ [iv z105] _ _
      have gp154 := w103
      rw [FRT hFT12 rfl rfl] at gp154
      clear w103
      refine y_if_eq rfl rfl (by unfold rg; omega) (fun w107 => ?_) (fun w108 => ?_)
      · rw [show z105 = 0 by omega] at gp154
        refine y_iconst rfl ?_
        refine y_ireturn rfl rfl ?_
        have w109 : Xi T14 876 7 = Xi T7 876 7 := (show Xi T14 876 7 = Xi T12 876 7 from w106.x _ _ rfl).trans ( (show Xi T12 876 7 = Xi T10 876 7 from w86.x _ _ rfl).trans ( (show Xi T10 876 7 = Xi U9 876 7 from w66.x _ _ rfl).trans ( (show Xi U9 876 7 = Xi U8 876 7 from by rw [eU9]; exact Xi_ne (by omega)).trans ((show Xi U8 876 7 = Xi T7 876 7 from by rw [eU8]; exact Xi_ne (by omega))))))
        have w110 : Xi T14 890 2 = Xi U8 890 2 := (show Xi T14 890 2 = Xi T12 890 2 from w106.x _ _ rfl).trans ( (show Xi T12 890 2 = Xi T10 890 2 from w86.x _ _ rfl).trans ( (show Xi T10 890 2 = Xi U9 890 2 from w66.x _ _ rfl).trans ((show Xi U9 890 2 = Xi U8 890 2 from by rw [eU9]; exact Xi_ne (by omega)))))
        exact ⟨hHT14, hFT14, _, rfl, ⟨by omega, by omega⟩, (by  first | (have t := b11; rw [ckB_0 b11.o]; simp only [gS_1, gS_0, o_1, o_0, i10, i00, n10, n00, if_true, if_false, gp138, gp147, gp154]) | (have t := k119; rw [ckB_1 nb119.o, B119, gS_1, ckB2_10 k119]; simp only [gS_1, gS_0, o_1, o_0, i10, i00, n10, n00, if_true, if_false, gp138, gp147, gp154]) | (have t := k186; rw [ckB_1 nb186.o, B186, gS_1, ckB2_11 k186]; simp only [gS_1, gS_0, o_1, o_0, i10, i00, n10, n00, if_true, if_false, gp138, gp147, gp154]) | (have t := a258; rw [ckB_1 nb258.o, B258, gS_1, ckB2_12 n258.o m258.o a258.o]; simp only [gS_1, gS_0, o_1, o_0, i10, i00, n10, n00, if_true, if_false, gp138, gp147, gp154]; first | done | (rw [if_pos (p282.o.1 (by omega))]; simp only [gS_1, gS_0, o_1, o_0, i10, i00, n10, n00, if_true, if_false, gp138, gp147, gp154]) | (rw [if_neg (p282.o.2 (by omega))]; simp only [gS_1, gS_0, o_1, o_0, i10, i00, n10, n00, if_true, if_false, gp138, gp147, gp154])) | (have t := p318; rw [ckB_1 nb318.o, B318, gS_1, ckB2_13 p318.o]; simp only [gS_1, gS_0, o_1, o_0, i10, i00, n10, n00, if_true, if_false, gp138, gp147, gp154]) | (have t := q347; rw [ckB_1 nb347.o, B347, gS_1, ckB2_15 a347.o q347.o]; simp only [gS_1, gS_0, o_1, o_0, i10, i00, n10, n00, if_true, if_false, gp138, gp147, gp154]) | (rw [ckB_1 nb67.o]; simp only [gS_1, gS_0, o_1, o_0, i10, i00, n10, n00, if_true, if_false, gp138, gp147, gp154])), (by omega), (by first | (have t := b11; exact (fun _ => ⟨fun _ => by omega, fun q => absurd b11.o q⟩)) | (have t := k119; exact (fun _ => ⟨fun q => absurd q nb119.o, fun _ => ⟨_, B119, bes_10 k119 (by omega)⟩⟩)) | (have t := k186; exact (fun _ => ⟨fun q => absurd q nb186.o, fun _ => ⟨_, B186, bes_11 k186 (by omega)⟩⟩)) | (have t := a258; exact (fun _ => ⟨fun q => absurd q nb258.o, fun _ => ⟨_, B258, bes_12 n258.o m258.o a258.o (by omega)⟩⟩)) | (have t := p318; exact (fun _ => ⟨fun q => absurd q nb318.o, fun _ => ⟨_, B318, bes_13 p318.o (by omega)⟩⟩)) | (have t := q347; exact (fun z1 => ⟨fun q => absurd q nb347.o, fun _ => ⟨_, B347, bes_r a347.o q347.o (s371.o z1)⟩⟩)) | exact (fun q => absurd q (by omega)))⟩
      · rw [show z105 = 1 by omega] at gp154
        refine y_aload_n rfl rfl ?_
        refine y_bipush rfl rfl ?_
        have w111 : Xi T14 876 7 = Xi T7 876 7 := (show Xi T14 876 7 = Xi T12 876 7 from w106.x _ _ rfl).trans ( (show Xi T12 876 7 = Xi T10 876 7 from w86.x _ _ rfl).trans ( (show Xi T10 876 7 = Xi U9 876 7 from w66.x _ _ rfl).trans ( (show Xi U9 876 7 = Xi U8 876 7 from by rw [eU9]; exact Xi_ne (by omega)).trans ((show Xi U8 876 7 = Xi T7 876 7 from by rw [eU8]; exact Xi_ne (by omega))))))
        refine y_callV rfl rfl rfl (t_gr_take__p hHT14 103 ⟨by omega, by omega⟩ (by first | assumption | exact (NFR_FR hFT14 rfl rfl (by assumption : NFR S))) (by first | assumption | omega) (by first | assumption | omega) _) ?_
        rintro _ T15 ⟨hHT15, w116, z115, rfl, w115, w113, w114⟩
        have hFT15 : FR md_gr_checkBe__p S T15 := FR.tr hFT14 w116 rfl
        show Pl _ _ _ _ _ _ [iv z115] _ _
        have gp163 := w113
        rw [FRT hFT14 rfl rfl] at gp163
        clear w113
        refine y_if_eq rfl rfl (by unfold rg; omega) (fun w117 => ?_) (fun w118 => ?_)
        · rw [show z115 = 0 by omega] at gp163
          refine y_iconst rfl ?_
          refine y_ireturn rfl rfl ?_
          have w119 : Xi T15 876 7 = Xi T7 876 7 := (show Xi T15 876 7 = Xi T14 876 7 from w116.x _ _ rfl).trans ( (show Xi T14 876 7 = Xi T12 876 7 from w106.x _ _ rfl).trans ( (show Xi T12 876 7 = Xi T10 876 7 from w86.x _ _ rfl).trans ( (show Xi T10 876 7 = Xi U9 876 7 from w66.x _ _ rfl).trans ( (show Xi U9 876 7 = Xi U8 876 7 from by rw [eU9]; exact Xi_ne (by omega)).trans ((show Xi U8 876 7 = Xi T7 876 7 from by rw [eU8]; exact Xi_ne (by omega)))))))
          have w120 : Xi T15 890 2 = Xi U8 890 2 := (show Xi T15 890 2 = Xi T14 890 2 from w116.x _ _ rfl).trans ( (show Xi T14 890 2 = Xi T12 890 2 from w106.x _ _ rfl).trans ( (show Xi T12 890 2 = Xi T10 890 2 from w86.x _ _ rfl).trans ( (show Xi T10 890 2 = Xi U9 890 2 from w66.x _ _ rfl).trans ((show Xi U9 890 2 = Xi U8 890 2 from by rw [eU9]; exact Xi_ne (by omega))))))
          exact ⟨hHT15, hFT15, _, rfl, ⟨by omega, by omega⟩, (by  first | (have t := b11; rw [ckB_0 b11.o]; simp only [gS_1, gS_0, o_1, o_0, i10, i00, n10, n00, if_true, if_false, gp138, gp147, gp154, gp163]) | (have t := k119; rw [ckB_1 nb119.o, B119, gS_1, ckB2_10 k119]; simp only [gS_1, gS_0, o_1, o_0, i10, i00, n10, n00, if_true, if_false, gp138, gp147, gp154, gp163]) | (have t := k186; rw [ckB_1 nb186.o, B186, gS_1, ckB2_11 k186]; simp only [gS_1, gS_0, o_1, o_0, i10, i00, n10, n00, if_true, if_false, gp138, gp147, gp154, gp163]) | (have t := a258; rw [ckB_1 nb258.o, B258, gS_1, ckB2_12 n258.o m258.o a258.o]; simp only [gS_1, gS_0, o_1, o_0, i10, i00, n10, n00, if_true, if_false, gp138, gp147, gp154, gp163]; first | done | (rw [if_pos (p282.o.1 (by omega))]; simp only [gS_1, gS_0, o_1, o_0, i10, i00, n10, n00, if_true, if_false, gp138, gp147, gp154, gp163]) | (rw [if_neg (p282.o.2 (by omega))]; simp only [gS_1, gS_0, o_1, o_0, i10, i00, n10, n00, if_true, if_false, gp138, gp147, gp154, gp163])) | (have t := p318; rw [ckB_1 nb318.o, B318, gS_1, ckB2_13 p318.o]; simp only [gS_1, gS_0, o_1, o_0, i10, i00, n10, n00, if_true, if_false, gp138, gp147, gp154, gp163]) | (have t := q347; rw [ckB_1 nb347.o, B347, gS_1, ckB2_15 a347.o q347.o]; simp only [gS_1, gS_0, o_1, o_0, i10, i00, n10, n00, if_true, if_false, gp138, gp147, gp154, gp163]) | (rw [ckB_1 nb67.o]; simp only [gS_1, gS_0, o_1, o_0, i10, i00, n10, n00, if_true, if_false, gp138, gp147, gp154, gp163])), (by omega), (by first | (have t := b11; exact (fun _ => ⟨fun _ => by omega, fun q => absurd b11.o q⟩)) | (have t := k119; exact (fun _ => ⟨fun q => absurd q nb119.o, fun _ => ⟨_, B119, bes_10 k119 (by omega)⟩⟩)) | (have t := k186; exact (fun _ => ⟨fun q => absurd q nb186.o, fun _ => ⟨_, B186, bes_11 k186 (by omega)⟩⟩)) | (have t := a258; exact (fun _ => ⟨fun q => absurd q nb258.o, fun _ => ⟨_, B258, bes_12 n258.o m258.o a258.o (by omega)⟩⟩)) | (have t := p318; exact (fun _ => ⟨fun q => absurd q nb318.o, fun _ => ⟨_, B318, bes_13 p318.o (by omega)⟩⟩)) | (have t := q347; exact (fun z1 => ⟨fun q => absurd q nb347.o, fun _ => ⟨_, B347, bes_r a347.o q347.o (s371.o z1)⟩⟩)) | exact (fun q => absurd q (by omega)))⟩
        · rw [show z115 = 1 by omega] at gp163
          refine y_iconst rfl ?_
          refine y_goto rfl rfl ?_
          refine y_ireturn rfl rfl ?_
          have w121 : Xi T15 876 7 = Xi T7 876 7 := (show Xi T15 876 7 = Xi T14 876 7 from w116.x _ _ rfl).trans ( (show Xi T14 876 7 = Xi T12 876 7 from w106.x _ _ rfl).trans ( (show Xi T12 876 7 = Xi T10 876 7 from w86.x _ _ rfl).trans ( (show Xi T10 876 7 = Xi U9 876 7 from w66.x _ _ rfl).trans ( (show Xi U9 876 7 = Xi U8 876 7 from by rw [eU9]; exact Xi_ne (by omega)).trans ((show Xi U8 876 7 = Xi T7 876 7 from by rw [eU8]; exact Xi_ne (by omega)))))))
          have w122 : Xi T15 890 2 = Xi U8 890 2 := (show Xi T15 890 2 = Xi T14 890 2 from w116.x _ _ rfl).trans ( (show Xi T14 890 2 = Xi T12 890 2 from w106.x _ _ rfl).trans ( (show Xi T12 890 2 = Xi T10 890 2 from w86.x _ _ rfl).trans ( (show Xi T10 890 2 = Xi U9 890 2 from w66.x _ _ rfl).trans ((show Xi U9 890 2 = Xi U8 890 2 from by rw [eU9]; exact Xi_ne (by omega))))))
          exact ⟨hHT15, hFT15, _, rfl, ⟨by omega, by omega⟩, (by  first | (have t := b11; rw [ckB_0 b11.o]; simp only [gS_1, gS_0, o_1, o_0, i10, i00, n10, n00, if_true, if_false, gp138, gp147, gp154, gp163]) | (have t := k119; rw [ckB_1 nb119.o, B119, gS_1, ckB2_10 k119]; simp only [gS_1, gS_0, o_1, o_0, i10, i00, n10, n00, if_true, if_false, gp138, gp147, gp154, gp163]) | (have t := k186; rw [ckB_1 nb186.o, B186, gS_1, ckB2_11 k186]; simp only [gS_1, gS_0, o_1, o_0, i10, i00, n10, n00, if_true, if_false, gp138, gp147, gp154, gp163]) | (have t := a258; rw [ckB_1 nb258.o, B258, gS_1, ckB2_12 n258.o m258.o a258.o]; simp only [gS_1, gS_0, o_1, o_0, i10, i00, n10, n00, if_true, if_false, gp138, gp147, gp154, gp163]; first | done | (rw [if_pos (p282.o.1 (by omega))]; simp only [gS_1, gS_0, o_1, o_0, i10, i00, n10, n00, if_true, if_false, gp138, gp147, gp154, gp163]) | (rw [if_neg (p282.o.2 (by omega))]; simp only [gS_1, gS_0, o_1, o_0, i10, i00, n10, n00, if_true, if_false, gp138, gp147, gp154, gp163])) | (have t := p318; rw [ckB_1 nb318.o, B318, gS_1, ckB2_13 p318.o]; simp only [gS_1, gS_0, o_1, o_0, i10, i00, n10, n00, if_true, if_false, gp138, gp147, gp154, gp163]) | (have t := q347; rw [ckB_1 nb347.o, B347, gS_1, ckB2_15 a347.o q347.o]; simp only [gS_1, gS_0, o_1, o_0, i10, i00, n10, n00, if_true, if_false, gp138, gp147, gp154, gp163]) | (rw [ckB_1 nb67.o]; simp only [gS_1, gS_0, o_1, o_0, i10, i00, n10, n00, if_true, if_false, gp138, gp147, gp154, gp163])), (by omega), (by first | (have t := b11; exact (fun _ => ⟨fun _ => by omega, fun q => absurd b11.o q⟩)) | (have t := k119; exact (fun _ => ⟨fun q => absurd q nb119.o, fun _ => ⟨_, B119, bes_10 k119 (by omega)⟩⟩)) | (have t := k186; exact (fun _ => ⟨fun q => absurd q nb186.o, fun _ => ⟨_, B186, bes_11 k186 (by omega)⟩⟩)) | (have t := a258; exact (fun _ => ⟨fun q => absurd q nb258.o, fun _ => ⟨_, B258, bes_12 n258.o m258.o a258.o (by omega)⟩⟩)) | (have t := p318; exact (fun _ => ⟨fun q => absurd q nb318.o, fun _ => ⟨_, B318, bes_13 p318.o (by omega)⟩⟩)) | (have t := q347; exact (fun z1 => ⟨fun q => absurd q nb347.o, fun _ => ⟨_, B347, bes_r a347.o q347.o (s371.o z1)⟩⟩)) | exact (fun q => absurd q (by omega)))⟩
set_option maxRecDepth 100000 in
theorem c186_gr_checkBe__p {S : sS} (hH : RI S) (hfr : NFR S) (hr : Xi S 876 7 ≤ 5130) (ha : 0 ≤ Xi S 890 1 ∧ Xi S 890 1 ≤ Xi S 876 7) (hls : LST S) (h0 : Xi S 890 1 = 0) (d : Nat) (fu : Nat) : ∀  (T16 : sS) (_ : RI T16) (_ : FR md_gr_checkBe__p S T16), (gSq (gLs (ty7 S) 0) (gBe (ty7 S)) = (1, Xi T16 890 1)) → (Hid (¬ bp7 (ty7 S) 0)) → (0 ≤ Xi T16 890 1 ∧ Xi T16 890 1 ≤ Xi S 876 7) → (ty7 S (Xi T16 890 1) = 1 ∧ ty7 S (Xi T16 890 1 + 1) = 27) → Pl fu lay0 (d + 4) m_gr_checkBe 186 [(0, .ref 890)] [] T16 (Q_gr_checkBe__p S) := by
  have hF : FR md_gr_checkBe__p S S := FR.rf
  have w1 : -2147483648 ≤ Xi S 876 7 ∧ Xi S 876 7 ≤ 2147483647 := Xi_rgI
  have w2 : -2147483648 ≤ Xi S 890 1 ∧ Xi S 890 1 ≤ 2147483647 := Xi_rgI
  have w3 : -2147483648 ≤ Xi S 890 2 ∧ Xi S 890 2 ≤ 2147483647 := Xi_rgI
  intro T16 hHT16 hFT16 B186 nb186 w123 k186
  have w124 : Xi T16 876 7 = Xi S 876 7 := hFT16.x _ _ rfl
  have w125 : -2147483648 ≤ Xi T16 876 7 ∧ Xi T16 876 7 ≤ 2147483647 := Xi_rgI
  have w126 : -2147483648 ≤ Xi T16 890 1 ∧ Xi T16 890 1 ≤ 2147483647 := Xi_rgI
  have w127 : -2147483648 ≤ Xi T16 890 2 ∧ Xi T16 890 2 ≤ 2147483647 := Xi_rgI
  refine y_aload_n rfl rfl ?_
  refine y_bipush rfl rfl ?_
  refine y_pfi rfl rfl rfl rfl ?_
  obtain ⟨U17, eU17⟩ : ∃ T : sS, T = uI T16 890 2 (Int32.ofInt 11) := ⟨_, rfl⟩
  rw [← eU17]
  have hHU17 : RI U17 := by rw [eU17]; exact RI_w hHT16
  have hFU17 : FR md_gr_checkBe__p S U17 := by rw [eU17]; exact FR.wI hFT16 (mdf_i (r := (890, 891, 2, 3)) (List.mem_of_getElem? (i := 1) rfl) (inR_i (by omega) (by omega) (by omega) (by omega)))
  have w128 : Xi U17 890 2 = 11 := by rw [eU17]; exact Xi_same (by unfold rg; omega)
  refine y_aload_n rfl rfl ?_
  refine y_dup rfl rfl ?_
  refine y_gfi rfl rfl rfl rfl rfl ?_
  have w129 : (Xi U17 890 1) = (Xi T16 890 1) := (show Xi U17 890 1 = Xi T16 890 1 from by rw [eU17]; exact Xi_ne (by omega))
  rw [w129]
  refine y_iconst rfl ?_
  refine y_iadd rfl ?_
  refine y_pfi rfl rfl rfl rfl ?_
  obtain ⟨U18, eU18⟩ : ∃ T : sS, T = uI U17 890 1 (Int32.ofInt ((Xi T16 890 1) + 2)) := ⟨_, rfl⟩
  rw [← eU18]
  have hHU18 : RI U18 := by rw [eU18]; exact RI_w hHU17
  have hFU18 : FR md_gr_checkBe__p S U18 := by rw [eU18]; exact FR.wI hFU17 (mdf_i (r := (890, 891, 1, 2)) (List.mem_of_getElem? (i := 0) rfl) (inR_i (by omega) (by omega) (by omega) (by omega)))
  have w130 : Xi U18 890 1 = ((Xi T16 890 1) + 2) := by rw [eU18]; exact Xi_same (by unfold rg; omega)
  have x199 : Xi U18 890 1 ≤ Xi S 876 7 := by have t := ty_lt k186.2 (by decide); omega
  refine y_aload_n rfl rfl ?_
  refine y_bipush rfl rfl ?_
  have w131 : Xi U18 876 7 = Xi T16 876 7 := (show Xi U18 876 7 = Xi U17 876 7 from by rw [eU18]; exact Xi_ne (by omega)).trans ((show Xi U17 876 7 = Xi T16 876 7 from by rw [eU17]; exact Xi_ne (by omega)))
  refine y_callV rfl rfl rfl (t_gr_take__p hHU18 28 ⟨by omega, by omega⟩ (by first | assumption | exact (NFR_FR hFU18 rfl rfl (by assumption : NFR S))) (by first | assumption | omega) (by first | assumption | omega) _) ?_
  rintro _ T19 ⟨hHT19, w136, z135, rfl, w135, w133, w134⟩
  have hFT19 : FR md_gr_checkBe__p S T19 := FR.tr hFU18 w136 rfl
  show Pl _ _ _ _ _ _ [iv z135] _ _
  have gp205 := w133
  rw [FRT hFU18 rfl rfl] at gp205
  try rw [show Xi U18 890 1 = ((Xi T16 890 1) + 2) by omega] at gp205
  clear w133
  refine y_if_eq rfl rfl (by unfold rg; omega) (fun w137 => ?_) (fun w138 => ?_)
  · rw [show z135 = 0 by omega] at gp205
    refine y_aload_n rfl rfl ?_
    refine y_bipush rfl rfl ?_
    have w139 : Xi T19 876 7 = Xi T16 876 7 := (show Xi T19 876 7 = Xi U18 876 7 from w136.x _ _ rfl).trans ( (show Xi U18 876 7 = Xi U17 876 7 from by rw [eU18]; exact Xi_ne (by omega)).trans ((show Xi U17 876 7 = Xi T16 876 7 from by rw [eU17]; exact Xi_ne (by omega))))
    refine y_callV rfl rfl rfl (t_gr_take__p hHT19 103 ⟨by omega, by omega⟩ (by first | assumption | exact (NFR_FR hFT19 rfl rfl (by assumption : NFR S))) (by first | assumption | omega) (by first | assumption | omega) _) ?_
    rintro _ T20 ⟨hHT20, w144, z143, rfl, w143, w141, w142⟩
    have hFT20 : FR md_gr_checkBe__p S T20 := FR.tr hFT19 w144 rfl
    show Pl _ _ _ _ _ _ [iv z143] _ _
    have gp239 := w141
    rw [FRT hFT19 rfl rfl] at gp239
    clear w141
    refine y_if_eq rfl rfl (by unfold rg; omega) (fun w145 => ?_) (fun w146 => ?_)
    · rw [show z143 = 0 by omega] at gp239
      refine y_iconst rfl ?_
      refine y_ireturn rfl rfl ?_
      have w147 : Xi T20 876 7 = Xi T16 876 7 := (show Xi T20 876 7 = Xi T19 876 7 from w144.x _ _ rfl).trans ( (show Xi T19 876 7 = Xi U18 876 7 from w136.x _ _ rfl).trans ( (show Xi U18 876 7 = Xi U17 876 7 from by rw [eU18]; exact Xi_ne (by omega)).trans ((show Xi U17 876 7 = Xi T16 876 7 from by rw [eU17]; exact Xi_ne (by omega)))))
      have w148 : Xi T20 890 2 = Xi U17 890 2 := (show Xi T20 890 2 = Xi T19 890 2 from w144.x _ _ rfl).trans ( (show Xi T19 890 2 = Xi U18 890 2 from w136.x _ _ rfl).trans ((show Xi U18 890 2 = Xi U17 890 2 from by rw [eU18]; exact Xi_ne (by omega))))
      exact ⟨hHT20, hFT20, _, rfl, ⟨by omega, by omega⟩, (by  first | (have t := b11; rw [ckB_0 b11.o]; simp only [gS_1, gS_0, o_1, o_0, i10, i00, n10, n00, if_true, if_false, gp205, gp239]) | (have t := k119; rw [ckB_1 nb119.o, B119, gS_1, ckB2_10 k119]; simp only [gS_1, gS_0, o_1, o_0, i10, i00, n10, n00, if_true, if_false, gp205, gp239]) | (have t := k186; rw [ckB_1 nb186.o, B186, gS_1, ckB2_11 k186]; simp only [gS_1, gS_0, o_1, o_0, i10, i00, n10, n00, if_true, if_false, gp205, gp239]) | (have t := a258; rw [ckB_1 nb258.o, B258, gS_1, ckB2_12 n258.o m258.o a258.o]; simp only [gS_1, gS_0, o_1, o_0, i10, i00, n10, n00, if_true, if_false, gp205, gp239]; first | done | (rw [if_pos (p282.o.1 (by omega))]; simp only [gS_1, gS_0, o_1, o_0, i10, i00, n10, n00, if_true, if_false, gp205, gp239]) | (rw [if_neg (p282.o.2 (by omega))]; simp only [gS_1, gS_0, o_1, o_0, i10, i00, n10, n00, if_true, if_false, gp205, gp239])) | (have t := p318; rw [ckB_1 nb318.o, B318, gS_1, ckB2_13 p318.o]; simp only [gS_1, gS_0, o_1, o_0, i10, i00, n10, n00, if_true, if_false, gp205, gp239]) | (have t := q347; rw [ckB_1 nb347.o, B347, gS_1, ckB2_15 a347.o q347.o]; simp only [gS_1, gS_0, o_1, o_0, i10, i00, n10, n00, if_true, if_false, gp205, gp239]) | (rw [ckB_1 nb67.o]; simp only [gS_1, gS_0, o_1, o_0, i10, i00, n10, n00, if_true, if_false, gp205, gp239])), (by omega), (by first | (have t := b11; exact (fun _ => ⟨fun _ => by omega, fun q => absurd b11.o q⟩)) | (have t := k119; exact (fun _ => ⟨fun q => absurd q nb119.o, fun _ => ⟨_, B119, bes_10 k119 (by omega)⟩⟩)) | (have t := k186; exact (fun _ => ⟨fun q => absurd q nb186.o, fun _ => ⟨_, B186, bes_11 k186 (by omega)⟩⟩)) | (have t := a258; exact (fun _ => ⟨fun q => absurd q nb258.o, fun _ => ⟨_, B258, bes_12 n258.o m258.o a258.o (by omega)⟩⟩)) | (have t := p318; exact (fun _ => ⟨fun q => absurd q nb318.o, fun _ => ⟨_, B318, bes_13 p318.o (by omega)⟩⟩)) | (have t := q347; exact (fun z1 => ⟨fun q => absurd q nb347.o, fun _ => ⟨_, B347, bes_r a347.o q347.o (s371.o z1)⟩⟩)) | exact (fun q => absurd q (by omega)))⟩
    · rw [show z143 = 1 by omega] at gp239
      refine y_iconst rfl ?_
      refine y_goto rfl rfl ?_
      refine y_ireturn rfl rfl ?_
      have w149 : Xi T20 876 7 = Xi T16 876 7 := (show Xi T20 876 7 = Xi T19 876 7 from w144.x _ _ rfl).trans ( (show Xi T19 876 7 = Xi U18 876 7 from w136.x _ _ rfl).trans ( (show Xi U18 876 7 = Xi U17 876 7 from by rw [eU18]; exact Xi_ne (by omega)).trans ((show Xi U17 876 7 = Xi T16 876 7 from by rw [eU17]; exact Xi_ne (by omega)))))
      have w150 : Xi T20 890 2 = Xi U17 890 2 := (show Xi T20 890 2 = Xi T19 890 2 from w144.x _ _ rfl).trans ( (show Xi T19 890 2 = Xi U18 890 2 from w136.x _ _ rfl).trans ((show Xi U18 890 2 = Xi U17 890 2 from by rw [eU18]; exact Xi_ne (by omega))))
      exact ⟨hHT20, hFT20, _, rfl, ⟨by omega, by omega⟩, (by  first | (have t := b11; rw [ckB_0 b11.o]; simp only [gS_1, gS_0, o_1, o_0, i10, i00, n10, n00, if_true, if_false, gp205, gp239]) | (have t := k119; rw [ckB_1 nb119.o, B119, gS_1, ckB2_10 k119]; simp only [gS_1, gS_0, o_1, o_0, i10, i00, n10, n00, if_true, if_false, gp205, gp239]) | (have t := k186; rw [ckB_1 nb186.o, B186, gS_1, ckB2_11 k186]; simp only [gS_1, gS_0, o_1, o_0, i10, i00, n10, n00, if_true, if_false, gp205, gp239]) | (have t := a258; rw [ckB_1 nb258.o, B258, gS_1, ckB2_12 n258.o m258.o a258.o]; simp only [gS_1, gS_0, o_1, o_0, i10, i00, n10, n00, if_true, if_false, gp205, gp239]; first | done | (rw [if_pos (p282.o.1 (by omega))]; simp only [gS_1, gS_0, o_1, o_0, i10, i00, n10, n00, if_true, if_false, gp205, gp239]) | (rw [if_neg (p282.o.2 (by omega))]; simp only [gS_1, gS_0, o_1, o_0, i10, i00, n10, n00, if_true, if_false, gp205, gp239])) | (have t := p318; rw [ckB_1 nb318.o, B318, gS_1, ckB2_13 p318.o]; simp only [gS_1, gS_0, o_1, o_0, i10, i00, n10, n00, if_true, if_false, gp205, gp239]) | (have t := q347; rw [ckB_1 nb347.o, B347, gS_1, ckB2_15 a347.o q347.o]; simp only [gS_1, gS_0, o_1, o_0, i10, i00, n10, n00, if_true, if_false, gp205, gp239]) | (rw [ckB_1 nb67.o]; simp only [gS_1, gS_0, o_1, o_0, i10, i00, n10, n00, if_true, if_false, gp205, gp239])), (by omega), (by first | (have t := b11; exact (fun _ => ⟨fun _ => by omega, fun q => absurd b11.o q⟩)) | (have t := k119; exact (fun _ => ⟨fun q => absurd q nb119.o, fun _ => ⟨_, B119, bes_10 k119 (by omega)⟩⟩)) | (have t := k186; exact (fun _ => ⟨fun q => absurd q nb186.o, fun _ => ⟨_, B186, bes_11 k186 (by omega)⟩⟩)) | (have t := a258; exact (fun _ => ⟨fun q => absurd q nb258.o, fun _ => ⟨_, B258, bes_12 n258.o m258.o a258.o (by omega)⟩⟩)) | (have t := p318; exact (fun _ => ⟨fun q => absurd q nb318.o, fun _ => ⟨_, B318, bes_13 p318.o (by omega)⟩⟩)) | (have t := q347; exact (fun z1 => ⟨fun q => absurd q nb347.o, fun _ => ⟨_, B347, bes_r a347.o q347.o (s371.o z1)⟩⟩)) | exact (fun q => absurd q (by omega)))⟩
  · rw [show z135 = 1 by omega] at gp205
    refine y_aload_n rfl rfl ?_
    refine y_bipush rfl rfl ?_
    have w151 : Xi T19 876 7 = Xi T16 876 7 := (show Xi T19 876 7 = Xi U18 876 7 from w136.x _ _ rfl).trans ( (show Xi U18 876 7 = Xi U17 876 7 from by rw [eU18]; exact Xi_ne (by omega)).trans ((show Xi U17 876 7 = Xi T16 876 7 from by rw [eU17]; exact Xi_ne (by omega))))
    refine y_callV rfl rfl rfl (t_gr_take__p hHT19 11 ⟨by omega, by omega⟩ (by first | assumption | exact (NFR_FR hFT19 rfl rfl (by assumption : NFR S))) (by first | assumption | omega) (by first | assumption | omega) _) ?_
    rintro _ T21 ⟨hHT21, w156, z155, rfl, w155, w153, w154⟩
    have hFT21 : FR md_gr_checkBe__p S T21 := FR.tr hFT19 w156 rfl
    show Pl _ _ _ _ _ _ [iv z155] _ _
    have gp214 := w153
    rw [FRT hFT19 rfl rfl] at gp214
    clear w153
    refine y_if_eq rfl rfl (by unfold rg; omega) (fun w157 => ?_) (fun w158 => ?_)
    · rw [show z155 = 0 by omega] at gp214
      refine y_iconst rfl ?_
      refine y_ireturn rfl rfl ?_
      have w159 : Xi T21 876 7 = Xi T16 876 7 := (show Xi T21 876 7 = Xi T19 876 7 from w156.x _ _ rfl).trans ( (show Xi T19 876 7 = Xi U18 876 7 from w136.x _ _ rfl).trans ( (show Xi U18 876 7 = Xi U17 876 7 from by rw [eU18]; exact Xi_ne (by omega)).trans ((show Xi U17 876 7 = Xi T16 876 7 from by rw [eU17]; exact Xi_ne (by omega)))))
      have w160 : Xi T21 890 2 = Xi U17 890 2 := (show Xi T21 890 2 = Xi T19 890 2 from w156.x _ _ rfl).trans ( (show Xi T19 890 2 = Xi U18 890 2 from w136.x _ _ rfl).trans ((show Xi U18 890 2 = Xi U17 890 2 from by rw [eU18]; exact Xi_ne (by omega))))
      exact ⟨hHT21, hFT21, _, rfl, ⟨by omega, by omega⟩, (by  first | (have t := b11; rw [ckB_0 b11.o]; simp only [gS_1, gS_0, o_1, o_0, i10, i00, n10, n00, if_true, if_false, gp205, gp214]) | (have t := k119; rw [ckB_1 nb119.o, B119, gS_1, ckB2_10 k119]; simp only [gS_1, gS_0, o_1, o_0, i10, i00, n10, n00, if_true, if_false, gp205, gp214]) | (have t := k186; rw [ckB_1 nb186.o, B186, gS_1, ckB2_11 k186]; simp only [gS_1, gS_0, o_1, o_0, i10, i00, n10, n00, if_true, if_false, gp205, gp214]) | (have t := a258; rw [ckB_1 nb258.o, B258, gS_1, ckB2_12 n258.o m258.o a258.o]; simp only [gS_1, gS_0, o_1, o_0, i10, i00, n10, n00, if_true, if_false, gp205, gp214]; first | done | (rw [if_pos (p282.o.1 (by omega))]; simp only [gS_1, gS_0, o_1, o_0, i10, i00, n10, n00, if_true, if_false, gp205, gp214]) | (rw [if_neg (p282.o.2 (by omega))]; simp only [gS_1, gS_0, o_1, o_0, i10, i00, n10, n00, if_true, if_false, gp205, gp214])) | (have t := p318; rw [ckB_1 nb318.o, B318, gS_1, ckB2_13 p318.o]; simp only [gS_1, gS_0, o_1, o_0, i10, i00, n10, n00, if_true, if_false, gp205, gp214]) | (have t := q347; rw [ckB_1 nb347.o, B347, gS_1, ckB2_15 a347.o q347.o]; simp only [gS_1, gS_0, o_1, o_0, i10, i00, n10, n00, if_true, if_false, gp205, gp214]) | (rw [ckB_1 nb67.o]; simp only [gS_1, gS_0, o_1, o_0, i10, i00, n10, n00, if_true, if_false, gp205, gp214])), (by omega), (by first | (have t := b11; exact (fun _ => ⟨fun _ => by omega, fun q => absurd b11.o q⟩)) | (have t := k119; exact (fun _ => ⟨fun q => absurd q nb119.o, fun _ => ⟨_, B119, bes_10 k119 (by omega)⟩⟩)) | (have t := k186; exact (fun _ => ⟨fun q => absurd q nb186.o, fun _ => ⟨_, B186, bes_11 k186 (by omega)⟩⟩)) | (have t := a258; exact (fun _ => ⟨fun q => absurd q nb258.o, fun _ => ⟨_, B258, bes_12 n258.o m258.o a258.o (by omega)⟩⟩)) | (have t := p318; exact (fun _ => ⟨fun q => absurd q nb318.o, fun _ => ⟨_, B318, bes_13 p318.o (by omega)⟩⟩)) | (have t := q347; exact (fun z1 => ⟨fun q => absurd q nb347.o, fun _ => ⟨_, B347, bes_r a347.o q347.o (s371.o z1)⟩⟩)) | exact (fun q => absurd q (by omega)))⟩
    · rw [show z155 = 1 by omega] at gp214
      refine y_aload_n rfl rfl ?_
      refine y_bipush rfl rfl ?_
      have w161 : Xi T21 876 7 = Xi T16 876 7 := (show Xi T21 876 7 = Xi T19 876 7 from w156.x _ _ rfl).trans ( (show Xi T19 876 7 = Xi U18 876 7 from w136.x _ _ rfl).trans ( (show Xi U18 876 7 = Xi U17 876 7 from by rw [eU18]; exact Xi_ne (by omega)).trans ((show Xi U17 876 7 = Xi T16 876 7 from by rw [eU17]; exact Xi_ne (by omega)))))
      refine y_callV rfl rfl rfl (t_gr_take__p hHT21 22 ⟨by omega, by omega⟩ (by first | assumption | exact (NFR_FR hFT21 rfl rfl (by assumption : NFR S))) (by first | assumption | omega) (by first | assumption | omega) _) ?_
      rintro _ T22 ⟨hHT22, w166, z165, rfl, w165, w163, w164⟩
      have hFT22 : FR md_gr_checkBe__p S T22 := FR.tr hFT21 w166 rfl
      show Pl _ _ _ _ _ _ [iv z165] _ _
      have gp223 := w163
      rw [FRT hFT21 rfl rfl] at gp223
      clear w163
      refine y_if_eq rfl rfl (by unfold rg; omega) (fun w167 => ?_) (fun w168 => ?_)
      · rw [show z165 = 0 by omega] at gp223
        refine y_iconst rfl ?_
        refine y_ireturn rfl rfl ?_
        have w169 : Xi T22 876 7 = Xi T16 876 7 := (show Xi T22 876 7 = Xi T21 876 7 from w166.x _ _ rfl).trans ( (show Xi T21 876 7 = Xi T19 876 7 from w156.x _ _ rfl).trans ( (show Xi T19 876 7 = Xi U18 876 7 from w136.x _ _ rfl).trans ( (show Xi U18 876 7 = Xi U17 876 7 from by rw [eU18]; exact Xi_ne (by omega)).trans ((show Xi U17 876 7 = Xi T16 876 7 from by rw [eU17]; exact Xi_ne (by omega))))))
        have w170 : Xi T22 890 2 = Xi U17 890 2 := (show Xi T22 890 2 = Xi T21 890 2 from w166.x _ _ rfl).trans ( (show Xi T21 890 2 = Xi T19 890 2 from w156.x _ _ rfl).trans ( (show Xi T19 890 2 = Xi U18 890 2 from w136.x _ _ rfl).trans ((show Xi U18 890 2 = Xi U17 890 2 from by rw [eU18]; exact Xi_ne (by omega)))))
        exact ⟨hHT22, hFT22, _, rfl, ⟨by omega, by omega⟩, (by  first | (have t := b11; rw [ckB_0 b11.o]; simp only [gS_1, gS_0, o_1, o_0, i10, i00, n10, n00, if_true, if_false, gp205, gp214, gp223]) | (have t := k119; rw [ckB_1 nb119.o, B119, gS_1, ckB2_10 k119]; simp only [gS_1, gS_0, o_1, o_0, i10, i00, n10, n00, if_true, if_false, gp205, gp214, gp223]) | (have t := k186; rw [ckB_1 nb186.o, B186, gS_1, ckB2_11 k186]; simp only [gS_1, gS_0, o_1, o_0, i10, i00, n10, n00, if_true, if_false, gp205, gp214, gp223]) | (have t := a258; rw [ckB_1 nb258.o, B258, gS_1, ckB2_12 n258.o m258.o a258.o]; simp only [gS_1, gS_0, o_1, o_0, i10, i00, n10, n00, if_true, if_false, gp205, gp214, gp223]; first | done | (rw [if_pos (p282.o.1 (by omega))]; simp only [gS_1, gS_0, o_1, o_0, i10, i00, n10, n00, if_true, if_false, gp205, gp214, gp223]) | (rw [if_neg (p282.o.2 (by omega))]; simp only [gS_1, gS_0, o_1, o_0, i10, i00, n10, n00, if_true, if_false, gp205, gp214, gp223])) | (have t := p318; rw [ckB_1 nb318.o, B318, gS_1, ckB2_13 p318.o]; simp only [gS_1, gS_0, o_1, o_0, i10, i00, n10, n00, if_true, if_false, gp205, gp214, gp223]) | (have t := q347; rw [ckB_1 nb347.o, B347, gS_1, ckB2_15 a347.o q347.o]; simp only [gS_1, gS_0, o_1, o_0, i10, i00, n10, n00, if_true, if_false, gp205, gp214, gp223]) | (rw [ckB_1 nb67.o]; simp only [gS_1, gS_0, o_1, o_0, i10, i00, n10, n00, if_true, if_false, gp205, gp214, gp223])), (by omega), (by first | (have t := b11; exact (fun _ => ⟨fun _ => by omega, fun q => absurd b11.o q⟩)) | (have t := k119; exact (fun _ => ⟨fun q => absurd q nb119.o, fun _ => ⟨_, B119, bes_10 k119 (by omega)⟩⟩)) | (have t := k186; exact (fun _ => ⟨fun q => absurd q nb186.o, fun _ => ⟨_, B186, bes_11 k186 (by omega)⟩⟩)) | (have t := a258; exact (fun _ => ⟨fun q => absurd q nb258.o, fun _ => ⟨_, B258, bes_12 n258.o m258.o a258.o (by omega)⟩⟩)) | (have t := p318; exact (fun _ => ⟨fun q => absurd q nb318.o, fun _ => ⟨_, B318, bes_13 p318.o (by omega)⟩⟩)) | (have t := q347; exact (fun z1 => ⟨fun q => absurd q nb347.o, fun _ => ⟨_, B347, bes_r a347.o q347.o (s371.o z1)⟩⟩)) | exact (fun q => absurd q (by omega)))⟩
      · rw [show z165 = 1 by omega] at gp223
        refine y_aload_n rfl rfl ?_
        have w171 : Xi T22 876 7 = Xi T16 876 7 := (show Xi T22 876 7 = Xi T21 876 7 from w166.x _ _ rfl).trans ( (show Xi T21 876 7 = Xi T19 876 7 from w156.x _ _ rfl).trans ( (show Xi T19 876 7 = Xi U18 876 7 from w136.x _ _ rfl).trans ( (show Xi U18 876 7 = Xi U17 876 7 from by rw [eU18]; exact Xi_ne (by omega)).trans ((show Xi U17 876 7 = Xi T16 876 7 from by rw [eU17]; exact Xi_ne (by omega))))))
        refine y_callV rfl rfl rfl (t_gr_takeRun__p hHT22 (by first | assumption | exact (NFR_FR hFT22 rfl rfl (by assumption : NFR S))) (by first | assumption | omega) (by first | assumption | omega) _) ?_
        rintro _ T23 ⟨hHT23, w176, z175, rfl, w175, w173, w174⟩
        have hFT23 : FR md_gr_checkBe__p S T23 := FR.tr hFT22 w176 rfl
        show Pl _ _ _ _ _ _ [iv z175] _ _
        have gp230 := w173
        rw [FRT hFT22 rfl rfl] at gp230
        clear w173
        refine y_if_eq rfl rfl (by unfold rg; omega) (fun w177 => ?_) (fun w178 => ?_)
        · rw [show z175 = 0 by omega] at gp230
          refine y_iconst rfl ?_
          refine y_ireturn rfl rfl ?_
          have w179 : Xi T23 876 7 = Xi T16 876 7 := (show Xi T23 876 7 = Xi T22 876 7 from w176.x _ _ rfl).trans ( (show Xi T22 876 7 = Xi T21 876 7 from w166.x _ _ rfl).trans ( (show Xi T21 876 7 = Xi T19 876 7 from w156.x _ _ rfl).trans ( (show Xi T19 876 7 = Xi U18 876 7 from w136.x _ _ rfl).trans ( (show Xi U18 876 7 = Xi U17 876 7 from by rw [eU18]; exact Xi_ne (by omega)).trans ((show Xi U17 876 7 = Xi T16 876 7 from by rw [eU17]; exact Xi_ne (by omega)))))))
          have w180 : Xi T23 890 2 = Xi U17 890 2 := (show Xi T23 890 2 = Xi T22 890 2 from w176.x _ _ rfl).trans ( (show Xi T22 890 2 = Xi T21 890 2 from w166.x _ _ rfl).trans ( (show Xi T21 890 2 = Xi T19 890 2 from w156.x _ _ rfl).trans ( (show Xi T19 890 2 = Xi U18 890 2 from w136.x _ _ rfl).trans ((show Xi U18 890 2 = Xi U17 890 2 from by rw [eU18]; exact Xi_ne (by omega))))))
          exact ⟨hHT23, hFT23, _, rfl, ⟨by omega, by omega⟩, (by  first | (have t := b11; rw [ckB_0 b11.o]; simp only [gS_1, gS_0, o_1, o_0, i10, i00, n10, n00, if_true, if_false, gp205, gp214, gp223, gp230]) | (have t := k119; rw [ckB_1 nb119.o, B119, gS_1, ckB2_10 k119]; simp only [gS_1, gS_0, o_1, o_0, i10, i00, n10, n00, if_true, if_false, gp205, gp214, gp223, gp230]) | (have t := k186; rw [ckB_1 nb186.o, B186, gS_1, ckB2_11 k186]; simp only [gS_1, gS_0, o_1, o_0, i10, i00, n10, n00, if_true, if_false, gp205, gp214, gp223, gp230]) | (have t := a258; rw [ckB_1 nb258.o, B258, gS_1, ckB2_12 n258.o m258.o a258.o]; simp only [gS_1, gS_0, o_1, o_0, i10, i00, n10, n00, if_true, if_false, gp205, gp214, gp223, gp230]; first | done | (rw [if_pos (p282.o.1 (by omega))]; simp only [gS_1, gS_0, o_1, o_0, i10, i00, n10, n00, if_true, if_false, gp205, gp214, gp223, gp230]) | (rw [if_neg (p282.o.2 (by omega))]; simp only [gS_1, gS_0, o_1, o_0, i10, i00, n10, n00, if_true, if_false, gp205, gp214, gp223, gp230])) | (have t := p318; rw [ckB_1 nb318.o, B318, gS_1, ckB2_13 p318.o]; simp only [gS_1, gS_0, o_1, o_0, i10, i00, n10, n00, if_true, if_false, gp205, gp214, gp223, gp230]) | (have t := q347; rw [ckB_1 nb347.o, B347, gS_1, ckB2_15 a347.o q347.o]; simp only [gS_1, gS_0, o_1, o_0, i10, i00, n10, n00, if_true, if_false, gp205, gp214, gp223, gp230]) | (rw [ckB_1 nb67.o]; simp only [gS_1, gS_0, o_1, o_0, i10, i00, n10, n00, if_true, if_false, gp205, gp214, gp223, gp230])), (by omega), (by first | (have t := b11; exact (fun _ => ⟨fun _ => by omega, fun q => absurd b11.o q⟩)) | (have t := k119; exact (fun _ => ⟨fun q => absurd q nb119.o, fun _ => ⟨_, B119, bes_10 k119 (by omega)⟩⟩)) | (have t := k186; exact (fun _ => ⟨fun q => absurd q nb186.o, fun _ => ⟨_, B186, bes_11 k186 (by omega)⟩⟩)) | (have t := a258; exact (fun _ => ⟨fun q => absurd q nb258.o, fun _ => ⟨_, B258, bes_12 n258.o m258.o a258.o (by omega)⟩⟩)) | (have t := p318; exact (fun _ => ⟨fun q => absurd q nb318.o, fun _ => ⟨_, B318, bes_13 p318.o (by omega)⟩⟩)) | (have t := q347; exact (fun z1 => ⟨fun q => absurd q nb347.o, fun _ => ⟨_, B347, bes_r a347.o q347.o (s371.o z1)⟩⟩)) | exact (fun q => absurd q (by omega)))⟩
        · rw [show z175 = 1 by omega] at gp230
          refine y_aload_n rfl rfl ?_
          refine y_bipush rfl rfl ?_
          have w181 : Xi T23 876 7 = Xi T16 876 7 := (show Xi T23 876 7 = Xi T22 876 7 from w176.x _ _ rfl).trans ( (show Xi T22 876 7 = Xi T21 876 7 from w166.x _ _ rfl).trans ( (show Xi T21 876 7 = Xi T19 876 7 from w156.x _ _ rfl).trans ( (show Xi T19 876 7 = Xi U18 876 7 from w136.x _ _ rfl).trans ( (show Xi U18 876 7 = Xi U17 876 7 from by rw [eU18]; exact Xi_ne (by omega)).trans ((show Xi U17 876 7 = Xi T16 876 7 from by rw [eU17]; exact Xi_ne (by omega)))))))
          refine y_callV rfl rfl rfl (t_gr_take__p hHT23 103 ⟨by omega, by omega⟩ (by first | assumption | exact (NFR_FR hFT23 rfl rfl (by assumption : NFR S))) (by first | assumption | omega) (by first | assumption | omega) _) ?_
          rintro _ T24 ⟨hHT24, w186, z185, rfl, w185, w183, w184⟩
          have hFT24 : FR md_gr_checkBe__p S T24 := FR.tr hFT23 w186 rfl
          show Pl _ _ _ _ _ _ [iv z185] _ _
          have gp239 := w183
          rw [FRT hFT23 rfl rfl] at gp239
          clear w183
          refine y_if_eq rfl rfl (by unfold rg; omega) (fun w187 => ?_) (fun w188 => ?_)
          · rw [show z185 = 0 by omega] at gp239
            refine y_iconst rfl ?_
            refine y_ireturn rfl rfl ?_
            have w189 : Xi T24 876 7 = Xi T16 876 7 := (show Xi T24 876 7 = Xi T23 876 7 from w186.x _ _ rfl).trans ( (show Xi T23 876 7 = Xi T22 876 7 from w176.x _ _ rfl).trans ( (show Xi T22 876 7 = Xi T21 876 7 from w166.x _ _ rfl).trans ( (show Xi T21 876 7 = Xi T19 876 7 from w156.x _ _ rfl).trans ( (show Xi T19 876 7 = Xi U18 876 7 from w136.x _ _ rfl).trans ( (show Xi U18 876 7 = Xi U17 876 7 from by rw [eU18]; exact Xi_ne (by omega)).trans ((show Xi U17 876 7 = Xi T16 876 7 from by rw [eU17]; exact Xi_ne (by omega))))))))
            have w190 : Xi T24 890 2 = Xi U17 890 2 := (show Xi T24 890 2 = Xi T23 890 2 from w186.x _ _ rfl).trans ( (show Xi T23 890 2 = Xi T22 890 2 from w176.x _ _ rfl).trans ( (show Xi T22 890 2 = Xi T21 890 2 from w166.x _ _ rfl).trans ( (show Xi T21 890 2 = Xi T19 890 2 from w156.x _ _ rfl).trans ( (show Xi T19 890 2 = Xi U18 890 2 from w136.x _ _ rfl).trans ((show Xi U18 890 2 = Xi U17 890 2 from by rw [eU18]; exact Xi_ne (by omega)))))))
            exact ⟨hHT24, hFT24, _, rfl, ⟨by omega, by omega⟩, (by  first | (have t := b11; rw [ckB_0 b11.o]; simp only [gS_1, gS_0, o_1, o_0, i10, i00, n10, n00, if_true, if_false, gp205, gp214, gp223, gp230, gp239]) | (have t := k119; rw [ckB_1 nb119.o, B119, gS_1, ckB2_10 k119]; simp only [gS_1, gS_0, o_1, o_0, i10, i00, n10, n00, if_true, if_false, gp205, gp214, gp223, gp230, gp239]) | (have t := k186; rw [ckB_1 nb186.o, B186, gS_1, ckB2_11 k186]; simp only [gS_1, gS_0, o_1, o_0, i10, i00, n10, n00, if_true, if_false, gp205, gp214, gp223, gp230, gp239]) | (have t := a258; rw [ckB_1 nb258.o, B258, gS_1, ckB2_12 n258.o m258.o a258.o]; simp only [gS_1, gS_0, o_1, o_0, i10, i00, n10, n00, if_true, if_false, gp205, gp214, gp223, gp230, gp239]; first | done | (rw [if_pos (p282.o.1 (by omega))]; simp only [gS_1, gS_0, o_1, o_0, i10, i00, n10, n00, if_true, if_false, gp205, gp214, gp223, gp230, gp239]) | (rw [if_neg (p282.o.2 (by omega))]; simp only [gS_1, gS_0, o_1, o_0, i10, i00, n10, n00, if_true, if_false, gp205, gp214, gp223, gp230, gp239])) | (have t := p318; rw [ckB_1 nb318.o, B318, gS_1, ckB2_13 p318.o]; simp only [gS_1, gS_0, o_1, o_0, i10, i00, n10, n00, if_true, if_false, gp205, gp214, gp223, gp230, gp239]) | (have t := q347; rw [ckB_1 nb347.o, B347, gS_1, ckB2_15 a347.o q347.o]; simp only [gS_1, gS_0, o_1, o_0, i10, i00, n10, n00, if_true, if_false, gp205, gp214, gp223, gp230, gp239]) | (rw [ckB_1 nb67.o]; simp only [gS_1, gS_0, o_1, o_0, i10, i00, n10, n00, if_true, if_false, gp205, gp214, gp223, gp230, gp239])), (by omega), (by first | (have t := b11; exact (fun _ => ⟨fun _ => by omega, fun q => absurd b11.o q⟩)) | (have t := k119; exact (fun _ => ⟨fun q => absurd q nb119.o, fun _ => ⟨_, B119, bes_10 k119 (by omega)⟩⟩)) | (have t := k186; exact (fun _ => ⟨fun q => absurd q nb186.o, fun _ => ⟨_, B186, bes_11 k186 (by omega)⟩⟩)) | (have t := a258; exact (fun _ => ⟨fun q => absurd q nb258.o, fun _ => ⟨_, B258, bes_12 n258.o m258.o a258.o (by omega)⟩⟩)) | (have t := p318; exact (fun _ => ⟨fun q => absurd q nb318.o, fun _ => ⟨_, B318, bes_13 p318.o (by omega)⟩⟩)) | (have t := q347; exact (fun z1 => ⟨fun q => absurd q nb347.o, fun _ => ⟨_, B347, bes_r a347.o q347.o (s371.o z1)⟩⟩)) | exact (fun q => absurd q (by omega)))⟩
          · rw [show z185 = 1 by omega] at gp239
            refine y_iconst rfl ?_
            refine y_goto rfl rfl ?_
            refine y_ireturn rfl rfl ?_
            have w191 : Xi T24 876 7 = Xi T16 876 7 := (show Xi T24 876 7 = Xi T23 876 7 from w186.x _ _ rfl).trans ( (show Xi T23 876 7 = Xi T22 876 7 from w176.x _ _ rfl).trans ( (show Xi T22 876 7 = Xi T21 876 7 from w166.x _ _ rfl).trans ( (show Xi T21 876 7 = Xi T19 876 7 from w156.x _ _ rfl).trans ( (show Xi T19 876 7 = Xi U18 876 7 from w136.x _ _ rfl).trans ( (show Xi U18 876 7 = Xi U17 876 7 from by rw [eU18]; exact Xi_ne (by omega)).trans ((show Xi U17 876 7 = Xi T16 876 7 from by rw [eU17]; exact Xi_ne (by omega))))))))
            have w192 : Xi T24 890 2 = Xi U17 890 2 := (show Xi T24 890 2 = Xi T23 890 2 from w186.x _ _ rfl).trans ( (show Xi T23 890 2 = Xi T22 890 2 from w176.x _ _ rfl).trans ( (show Xi T22 890 2 = Xi T21 890 2 from w166.x _ _ rfl).trans ( (show Xi T21 890 2 = Xi T19 890 2 from w156.x _ _ rfl).trans ( (show Xi T19 890 2 = Xi U18 890 2 from w136.x _ _ rfl).trans ((show Xi U18 890 2 = Xi U17 890 2 from by rw [eU18]; exact Xi_ne (by omega)))))))
            exact ⟨hHT24, hFT24, _, rfl, ⟨by omega, by omega⟩, (by  first | (have t := b11; rw [ckB_0 b11.o]; simp only [gS_1, gS_0, o_1, o_0, i10, i00, n10, n00, if_true, if_false, gp205, gp214, gp223, gp230, gp239]) | (have t := k119; rw [ckB_1 nb119.o, B119, gS_1, ckB2_10 k119]; simp only [gS_1, gS_0, o_1, o_0, i10, i00, n10, n00, if_true, if_false, gp205, gp214, gp223, gp230, gp239]) | (have t := k186; rw [ckB_1 nb186.o, B186, gS_1, ckB2_11 k186]; simp only [gS_1, gS_0, o_1, o_0, i10, i00, n10, n00, if_true, if_false, gp205, gp214, gp223, gp230, gp239]) | (have t := a258; rw [ckB_1 nb258.o, B258, gS_1, ckB2_12 n258.o m258.o a258.o]; simp only [gS_1, gS_0, o_1, o_0, i10, i00, n10, n00, if_true, if_false, gp205, gp214, gp223, gp230, gp239]; first | done | (rw [if_pos (p282.o.1 (by omega))]; simp only [gS_1, gS_0, o_1, o_0, i10, i00, n10, n00, if_true, if_false, gp205, gp214, gp223, gp230, gp239]) | (rw [if_neg (p282.o.2 (by omega))]; simp only [gS_1, gS_0, o_1, o_0, i10, i00, n10, n00, if_true, if_false, gp205, gp214, gp223, gp230, gp239])) | (have t := p318; rw [ckB_1 nb318.o, B318, gS_1, ckB2_13 p318.o]; simp only [gS_1, gS_0, o_1, o_0, i10, i00, n10, n00, if_true, if_false, gp205, gp214, gp223, gp230, gp239]) | (have t := q347; rw [ckB_1 nb347.o, B347, gS_1, ckB2_15 a347.o q347.o]; simp only [gS_1, gS_0, o_1, o_0, i10, i00, n10, n00, if_true, if_false, gp205, gp214, gp223, gp230, gp239]) | (rw [ckB_1 nb67.o]; simp only [gS_1, gS_0, o_1, o_0, i10, i00, n10, n00, if_true, if_false, gp205, gp214, gp223, gp230, gp239])), (by omega), (by first | (have t := b11; exact (fun _ => ⟨fun _ => by omega, fun q => absurd b11.o q⟩)) | (have t := k119; exact (fun _ => ⟨fun q => absurd q nb119.o, fun _ => ⟨_, B119, bes_10 k119 (by omega)⟩⟩)) | (have t := k186; exact (fun _ => ⟨fun q => absurd q nb186.o, fun _ => ⟨_, B186, bes_11 k186 (by omega)⟩⟩)) | (have t := a258; exact (fun _ => ⟨fun q => absurd q nb258.o, fun _ => ⟨_, B258, bes_12 n258.o m258.o a258.o (by omega)⟩⟩)) | (have t := p318; exact (fun _ => ⟨fun q => absurd q nb318.o, fun _ => ⟨_, B318, bes_13 p318.o (by omega)⟩⟩)) | (have t := q347; exact (fun z1 => ⟨fun q => absurd q nb347.o, fun _ => ⟨_, B347, bes_r a347.o q347.o (s371.o z1)⟩⟩)) | exact (fun q => absurd q (by omega)))⟩
set_option maxRecDepth 100000 in
theorem c258_gr_checkBe__p {S : sS} (hH : RI S) (hfr : NFR S) (hr : Xi S 876 7 ≤ 5130) (ha : 0 ≤ Xi S 890 1 ∧ Xi S 890 1 ≤ Xi S 876 7) (hls : LST S) (h0 : Xi S 890 1 = 0) (d : Nat) (fu : Nat) : ∀  (T25 : sS) (_ : RI T25) (_ : FR md_gr_checkBe__p S T25), (gSq (gLs (ty7 S) 0) (gBe (ty7 S)) = (1, Xi T25 890 1)) → (Hid (¬ bp7 (ty7 S) 0)) → (0 ≤ Xi T25 890 1 ∧ Xi T25 890 1 ≤ Xi S 876 7) → (Hid (art7 (ty7 S (Xi T25 890 1)))) → (Hid (¬ (ty7 S (Xi T25 890 1) = 0 ∧ ty7 S (Xi T25 890 1 + 1) = 18))) → (Hid (¬ (ty7 S (Xi T25 890 1) = 1 ∧ ty7 S (Xi T25 890 1 + 1) = 27))) → Pl fu lay0 (d + 4) m_gr_checkBe 258 [(0, .ref 890)] [] T25 (Q_gr_checkBe__p S) := by
  have hF : FR md_gr_checkBe__p S S := FR.rf
  have w1 : -2147483648 ≤ Xi S 876 7 ∧ Xi S 876 7 ≤ 2147483647 := Xi_rgI
  have w2 : -2147483648 ≤ Xi S 890 1 ∧ Xi S 890 1 ≤ 2147483647 := Xi_rgI
  have w3 : -2147483648 ≤ Xi S 890 2 ∧ Xi S 890 2 ≤ 2147483647 := Xi_rgI
  intro T25 hHT25 hFT25 B258 nb258 w193 a258 n258 m258
  have w194 : Xi T25 876 7 = Xi S 876 7 := hFT25.x _ _ rfl
  have w195 : -2147483648 ≤ Xi T25 876 7 ∧ Xi T25 876 7 ≤ 2147483647 := Xi_rgI
  have w196 : -2147483648 ≤ Xi T25 890 1 ∧ Xi T25 890 1 ≤ 2147483647 := Xi_rgI
  have w197 : -2147483648 ≤ Xi T25 890 2 ∧ Xi T25 890 2 ≤ 2147483647 := Xi_rgI
  refine y_aload_n rfl rfl ?_
  refine y_bipush rfl rfl ?_
  refine y_pfi rfl rfl rfl rfl ?_
  obtain ⟨U26, eU26⟩ : ∃ T : sS, T = uI T25 890 2 (Int32.ofInt 12) := ⟨_, rfl⟩
  rw [← eU26]
  have hHU26 : RI U26 := by rw [eU26]; exact RI_w hHT25
  have hFU26 : FR md_gr_checkBe__p S U26 := by rw [eU26]; exact FR.wI hFT25 (mdf_i (r := (890, 891, 2, 3)) (List.mem_of_getElem? (i := 1) rfl) (inR_i (by omega) (by omega) (by omega) (by omega)))
  have w198 : Xi U26 890 2 = 12 := by rw [eU26]; exact Xi_same (by unfold rg; omega)
  refine y_aload_n rfl rfl ?_
  refine y_dup rfl rfl ?_
  refine y_gfi rfl rfl rfl rfl rfl ?_
  have w199 : (Xi U26 890 1) = (Xi T25 890 1) := (show Xi U26 890 1 = Xi T25 890 1 from by rw [eU26]; exact Xi_ne (by omega))
  rw [w199]
  refine y_iconst rfl ?_
  refine y_iadd rfl ?_
  refine y_pfi rfl rfl rfl rfl ?_
  obtain ⟨U27, eU27⟩ : ∃ T : sS, T = uI U26 890 1 (Int32.ofInt ((Xi T25 890 1) + 1)) := ⟨_, rfl⟩
  rw [← eU27]
  have hHU27 : RI U27 := by rw [eU27]; exact RI_w hHU26
  have hFU27 : FR md_gr_checkBe__p S U27 := by rw [eU27]; exact FR.wI hFU26 (mdf_i (r := (890, 891, 1, 2)) (List.mem_of_getElem? (i := 0) rfl) (inR_i (by omega) (by omega) (by omega) (by omega)))
  have w200 : Xi U27 890 1 = ((Xi T25 890 1) + 1) := by rw [eU27]; exact Xi_same (by unfold rg; omega)
  have x271 : Xi U27 890 1 ≤ Xi S 876 7 := by have t := ty_lt (S := S) (i := Xi T25 890 1) rfl (by have w := a258.o; unfold art7 at w; omega); omega
  refine y_aload_n rfl rfl ?_
  have w201 : Xi U27 876 7 = Xi T25 876 7 := (show Xi U27 876 7 = Xi U26 876 7 from by rw [eU27]; exact Xi_ne (by omega)).trans ((show Xi U26 876 7 = Xi T25 876 7 from by rw [eU26]; exact Xi_ne (by omega)))
  refine y_callV rfl rfl rfl (t_gr_takeRun__p hHU27 (by first | assumption | exact (NFR_FR hFU27 rfl rfl (by assumption : NFR S))) (by first | assumption | omega) (by first | assumption | omega) _) ?_
  rintro _ T28 ⟨hHT28, w206, z205, rfl, w205, w203, w204⟩
  have hFT28 : FR md_gr_checkBe__p S T28 := FR.tr hFU27 w206 rfl
  show Pl _ _ _ _ _ _ [iv z205] _ _
  have gp275 := w203
  rw [FRT hFU27 rfl rfl] at gp275
  try rw [show Xi U27 890 1 = ((Xi T25 890 1) + 1) by omega] at gp275
  clear w203
  refine y_if_eq rfl rfl (by unfold rg; omega) (fun w207 => ?_) (fun w208 => ?_)
  · rw [show z205 = 0 by omega] at gp275
    refine y_iconst rfl ?_
    refine y_ireturn rfl rfl ?_
    have w209 : Xi T28 876 7 = Xi T25 876 7 := (show Xi T28 876 7 = Xi U27 876 7 from w206.x _ _ rfl).trans ( (show Xi U27 876 7 = Xi U26 876 7 from by rw [eU27]; exact Xi_ne (by omega)).trans ((show Xi U26 876 7 = Xi T25 876 7 from by rw [eU26]; exact Xi_ne (by omega))))
    have w210 : Xi T28 890 2 = Xi U26 890 2 := (show Xi T28 890 2 = Xi U27 890 2 from w206.x _ _ rfl).trans ((show Xi U27 890 2 = Xi U26 890 2 from by rw [eU27]; exact Xi_ne (by omega)))
    exact ⟨hHT28, hFT28, _, rfl, ⟨by omega, by omega⟩, (by  first | (have t := b11; rw [ckB_0 b11.o]; simp only [gS_1, gS_0, o_1, o_0, i10, i00, n10, n00, if_true, if_false, gp275]) | (have t := k119; rw [ckB_1 nb119.o, B119, gS_1, ckB2_10 k119]; simp only [gS_1, gS_0, o_1, o_0, i10, i00, n10, n00, if_true, if_false, gp275]) | (have t := k186; rw [ckB_1 nb186.o, B186, gS_1, ckB2_11 k186]; simp only [gS_1, gS_0, o_1, o_0, i10, i00, n10, n00, if_true, if_false, gp275]) | (have t := a258; rw [ckB_1 nb258.o, B258, gS_1, ckB2_12 n258.o m258.o a258.o]; simp only [gS_1, gS_0, o_1, o_0, i10, i00, n10, n00, if_true, if_false, gp275]; first | done | (rw [if_pos (p282.o.1 (by omega))]; simp only [gS_1, gS_0, o_1, o_0, i10, i00, n10, n00, if_true, if_false, gp275]) | (rw [if_neg (p282.o.2 (by omega))]; simp only [gS_1, gS_0, o_1, o_0, i10, i00, n10, n00, if_true, if_false, gp275])) | (have t := p318; rw [ckB_1 nb318.o, B318, gS_1, ckB2_13 p318.o]; simp only [gS_1, gS_0, o_1, o_0, i10, i00, n10, n00, if_true, if_false, gp275]) | (have t := q347; rw [ckB_1 nb347.o, B347, gS_1, ckB2_15 a347.o q347.o]; simp only [gS_1, gS_0, o_1, o_0, i10, i00, n10, n00, if_true, if_false, gp275]) | (rw [ckB_1 nb67.o]; simp only [gS_1, gS_0, o_1, o_0, i10, i00, n10, n00, if_true, if_false, gp275])), (by omega), (by first | (have t := b11; exact (fun _ => ⟨fun _ => by omega, fun q => absurd b11.o q⟩)) | (have t := k119; exact (fun _ => ⟨fun q => absurd q nb119.o, fun _ => ⟨_, B119, bes_10 k119 (by omega)⟩⟩)) | (have t := k186; exact (fun _ => ⟨fun q => absurd q nb186.o, fun _ => ⟨_, B186, bes_11 k186 (by omega)⟩⟩)) | (have t := a258; exact (fun _ => ⟨fun q => absurd q nb258.o, fun _ => ⟨_, B258, bes_12 n258.o m258.o a258.o (by omega)⟩⟩)) | (have t := p318; exact (fun _ => ⟨fun q => absurd q nb318.o, fun _ => ⟨_, B318, bes_13 p318.o (by omega)⟩⟩)) | (have t := q347; exact (fun z1 => ⟨fun q => absurd q nb347.o, fun _ => ⟨_, B347, bes_r a347.o q347.o (s371.o z1)⟩⟩)) | exact (fun q => absurd q (by omega)))⟩
  · rw [show z205 = 1 by omega] at gp275
    refine y_aload_n rfl rfl ?_
    refine y_callV rfl rfl rfl (t_gr_atPlace__p hHT28 _) ?_
    rintro _ _ ⟨rfl, z214, rfl, w214, w213⟩
    show Pl _ _ _ _ _ _ [iv z214] _ _
    have gb282 := w213
    rw [FRT hFT28 rfl rfl] at gb282
    clear w213
    have p282 : Hid ((z214 = 1 → pl7 (ty7 S (Xi T28 890 1))) ∧ (z214 = 0 → ¬ pl7 (ty7 S (Xi T28 890 1)))) := ⟨fun q => gb282.1 q, fun q => gb282.2 q⟩
    clear gb282
    refine y_if_eq rfl rfl (by unfold rg; omega) (fun w215 => ?_) (fun w216 => ?_)
    · refine y_aload_n rfl rfl ?_
      refine y_bipush rfl rfl ?_
      have w217 : Xi T28 876 7 = Xi T25 876 7 := (show Xi T28 876 7 = Xi U27 876 7 from w206.x _ _ rfl).trans ( (show Xi U27 876 7 = Xi U26 876 7 from by rw [eU27]; exact Xi_ne (by omega)).trans ((show Xi U26 876 7 = Xi T25 876 7 from by rw [eU26]; exact Xi_ne (by omega))))
      refine y_callV rfl rfl rfl (t_gr_take__p hHT28 103 ⟨by omega, by omega⟩ (by first | assumption | exact (NFR_FR hFT28 rfl rfl (by assumption : NFR S))) (by first | assumption | omega) (by first | assumption | omega) _) ?_
      rintro _ T29 ⟨hHT29, w222, z221, rfl, w221, w219, w220⟩
      have hFT29 : FR md_gr_checkBe__p S T29 := FR.tr hFT28 w222 rfl
      show Pl _ _ _ _ _ _ [iv z221] _ _
      have gp299 := w219
      rw [FRT hFT28 rfl rfl] at gp299
      clear w219
      refine y_if_eq rfl rfl (by unfold rg; omega) (fun w223 => ?_) (fun w224 => ?_)
      · rw [show z221 = 0 by omega] at gp299
        refine y_iconst rfl ?_
        refine y_ireturn rfl rfl ?_
        have w225 : Xi T29 876 7 = Xi T25 876 7 := (show Xi T29 876 7 = Xi T28 876 7 from w222.x _ _ rfl).trans ( (show Xi T28 876 7 = Xi U27 876 7 from w206.x _ _ rfl).trans ( (show Xi U27 876 7 = Xi U26 876 7 from by rw [eU27]; exact Xi_ne (by omega)).trans ((show Xi U26 876 7 = Xi T25 876 7 from by rw [eU26]; exact Xi_ne (by omega)))))
        have w226 : Xi T29 890 2 = Xi U26 890 2 := (show Xi T29 890 2 = Xi T28 890 2 from w222.x _ _ rfl).trans ( (show Xi T28 890 2 = Xi U27 890 2 from w206.x _ _ rfl).trans ((show Xi U27 890 2 = Xi U26 890 2 from by rw [eU27]; exact Xi_ne (by omega))))
        exact ⟨hHT29, hFT29, _, rfl, ⟨by omega, by omega⟩, (by  first | (have t := b11; rw [ckB_0 b11.o]; simp only [gS_1, gS_0, o_1, o_0, i10, i00, n10, n00, if_true, if_false, gp275, gp299]) | (have t := k119; rw [ckB_1 nb119.o, B119, gS_1, ckB2_10 k119]; simp only [gS_1, gS_0, o_1, o_0, i10, i00, n10, n00, if_true, if_false, gp275, gp299]) | (have t := k186; rw [ckB_1 nb186.o, B186, gS_1, ckB2_11 k186]; simp only [gS_1, gS_0, o_1, o_0, i10, i00, n10, n00, if_true, if_false, gp275, gp299]) | (have t := a258; rw [ckB_1 nb258.o, B258, gS_1, ckB2_12 n258.o m258.o a258.o]; simp only [gS_1, gS_0, o_1, o_0, i10, i00, n10, n00, if_true, if_false, gp275, gp299]; first | done | (rw [if_pos (p282.o.1 (by omega))]; simp only [gS_1, gS_0, o_1, o_0, i10, i00, n10, n00, if_true, if_false, gp275, gp299]) | (rw [if_neg (p282.o.2 (by omega))]; simp only [gS_1, gS_0, o_1, o_0, i10, i00, n10, n00, if_true, if_false, gp275, gp299])) | (have t := p318; rw [ckB_1 nb318.o, B318, gS_1, ckB2_13 p318.o]; simp only [gS_1, gS_0, o_1, o_0, i10, i00, n10, n00, if_true, if_false, gp275, gp299]) | (have t := q347; rw [ckB_1 nb347.o, B347, gS_1, ckB2_15 a347.o q347.o]; simp only [gS_1, gS_0, o_1, o_0, i10, i00, n10, n00, if_true, if_false, gp275, gp299]) | (rw [ckB_1 nb67.o]; simp only [gS_1, gS_0, o_1, o_0, i10, i00, n10, n00, if_true, if_false, gp275, gp299])), (by omega), (by first | (have t := b11; exact (fun _ => ⟨fun _ => by omega, fun q => absurd b11.o q⟩)) | (have t := k119; exact (fun _ => ⟨fun q => absurd q nb119.o, fun _ => ⟨_, B119, bes_10 k119 (by omega)⟩⟩)) | (have t := k186; exact (fun _ => ⟨fun q => absurd q nb186.o, fun _ => ⟨_, B186, bes_11 k186 (by omega)⟩⟩)) | (have t := a258; exact (fun _ => ⟨fun q => absurd q nb258.o, fun _ => ⟨_, B258, bes_12 n258.o m258.o a258.o (by omega)⟩⟩)) | (have t := p318; exact (fun _ => ⟨fun q => absurd q nb318.o, fun _ => ⟨_, B318, bes_13 p318.o (by omega)⟩⟩)) | (have t := q347; exact (fun z1 => ⟨fun q => absurd q nb347.o, fun _ => ⟨_, B347, bes_r a347.o q347.o (s371.o z1)⟩⟩)) | exact (fun q => absurd q (by omega)))⟩
      · rw [show z221 = 1 by omega] at gp299
        refine y_iconst rfl ?_
        refine y_goto rfl rfl ?_
        refine y_ireturn rfl rfl ?_
        have w227 : Xi T29 876 7 = Xi T25 876 7 := (show Xi T29 876 7 = Xi T28 876 7 from w222.x _ _ rfl).trans ( (show Xi T28 876 7 = Xi U27 876 7 from w206.x _ _ rfl).trans ( (show Xi U27 876 7 = Xi U26 876 7 from by rw [eU27]; exact Xi_ne (by omega)).trans ((show Xi U26 876 7 = Xi T25 876 7 from by rw [eU26]; exact Xi_ne (by omega)))))
        have w228 : Xi T29 890 2 = Xi U26 890 2 := (show Xi T29 890 2 = Xi T28 890 2 from w222.x _ _ rfl).trans ( (show Xi T28 890 2 = Xi U27 890 2 from w206.x _ _ rfl).trans ((show Xi U27 890 2 = Xi U26 890 2 from by rw [eU27]; exact Xi_ne (by omega))))
        exact ⟨hHT29, hFT29, _, rfl, ⟨by omega, by omega⟩, (by  first | (have t := b11; rw [ckB_0 b11.o]; simp only [gS_1, gS_0, o_1, o_0, i10, i00, n10, n00, if_true, if_false, gp275, gp299]) | (have t := k119; rw [ckB_1 nb119.o, B119, gS_1, ckB2_10 k119]; simp only [gS_1, gS_0, o_1, o_0, i10, i00, n10, n00, if_true, if_false, gp275, gp299]) | (have t := k186; rw [ckB_1 nb186.o, B186, gS_1, ckB2_11 k186]; simp only [gS_1, gS_0, o_1, o_0, i10, i00, n10, n00, if_true, if_false, gp275, gp299]) | (have t := a258; rw [ckB_1 nb258.o, B258, gS_1, ckB2_12 n258.o m258.o a258.o]; simp only [gS_1, gS_0, o_1, o_0, i10, i00, n10, n00, if_true, if_false, gp275, gp299]; first | done | (rw [if_pos (p282.o.1 (by omega))]; simp only [gS_1, gS_0, o_1, o_0, i10, i00, n10, n00, if_true, if_false, gp275, gp299]) | (rw [if_neg (p282.o.2 (by omega))]; simp only [gS_1, gS_0, o_1, o_0, i10, i00, n10, n00, if_true, if_false, gp275, gp299])) | (have t := p318; rw [ckB_1 nb318.o, B318, gS_1, ckB2_13 p318.o]; simp only [gS_1, gS_0, o_1, o_0, i10, i00, n10, n00, if_true, if_false, gp275, gp299]) | (have t := q347; rw [ckB_1 nb347.o, B347, gS_1, ckB2_15 a347.o q347.o]; simp only [gS_1, gS_0, o_1, o_0, i10, i00, n10, n00, if_true, if_false, gp275, gp299]) | (rw [ckB_1 nb67.o]; simp only [gS_1, gS_0, o_1, o_0, i10, i00, n10, n00, if_true, if_false, gp275, gp299])), (by omega), (by first | (have t := b11; exact (fun _ => ⟨fun _ => by omega, fun q => absurd b11.o q⟩)) | (have t := k119; exact (fun _ => ⟨fun q => absurd q nb119.o, fun _ => ⟨_, B119, bes_10 k119 (by omega)⟩⟩)) | (have t := k186; exact (fun _ => ⟨fun q => absurd q nb186.o, fun _ => ⟨_, B186, bes_11 k186 (by omega)⟩⟩)) | (have t := a258; exact (fun _ => ⟨fun q => absurd q nb258.o, fun _ => ⟨_, B258, bes_12 n258.o m258.o a258.o (by omega)⟩⟩)) | (have t := p318; exact (fun _ => ⟨fun q => absurd q nb318.o, fun _ => ⟨_, B318, bes_13 p318.o (by omega)⟩⟩)) | (have t := q347; exact (fun z1 => ⟨fun q => absurd q nb347.o, fun _ => ⟨_, B347, bes_r a347.o q347.o (s371.o z1)⟩⟩)) | exact (fun q => absurd q (by omega)))⟩
    · refine y_aload_n rfl rfl ?_
      refine y_iconst rfl ?_
      have w229 : Xi T28 876 7 = Xi T25 876 7 := (show Xi T28 876 7 = Xi U27 876 7 from w206.x _ _ rfl).trans ( (show Xi U27 876 7 = Xi U26 876 7 from by rw [eU27]; exact Xi_ne (by omega)).trans ((show Xi U26 876 7 = Xi T25 876 7 from by rw [eU26]; exact Xi_ne (by omega))))
      have w230 : Xi T28 890 2 = Xi U26 890 2 := (show Xi T28 890 2 = Xi U27 890 2 from w206.x _ _ rfl).trans ((show Xi U27 890 2 = Xi U26 890 2 from by rw [eU27]; exact Xi_ne (by omega)))
      refine y_callV rfl rfl rfl (t_gr_takePlace__p hHT28 0 ⟨by omega, by omega⟩ (by first | assumption | exact (NFR_FR hFT28 rfl rfl (by assumption : NFR S))) (by first | assumption | omega) (by first | assumption | omega) (by rw [FRT hFT28 rfl rfl]; first | (have u := p321.o; unfold pl7 at u; omega) | (have u := p282.o.1 (by omega); unfold pl7 at u; omega)) _) ?_
      rintro _ T30 ⟨hHT30, w234, z233, rfl, w233, w231, w232⟩
      have hFT30 : FR md_gr_checkBe__p S T30 := FR.tr hFT28 w234 rfl
      show Pl _ _ _ _ _ _ [iv z233] _ _
      have gp290 := w231
      rw [FRT hFT28 rfl rfl] at gp290
      clear w231
      refine y_if_eq rfl rfl (by unfold rg; omega) (fun w235 => ?_) (fun w236 => ?_)
      · rw [show z233 = 0 by omega] at gp290
        refine y_iconst rfl ?_
        refine y_ireturn rfl rfl ?_
        have w237 : Xi T30 876 7 = Xi T25 876 7 := (show Xi T30 876 7 = Xi T28 876 7 from w234.x _ _ rfl).trans ( (show Xi T28 876 7 = Xi U27 876 7 from w206.x _ _ rfl).trans ( (show Xi U27 876 7 = Xi U26 876 7 from by rw [eU27]; exact Xi_ne (by omega)).trans ((show Xi U26 876 7 = Xi T25 876 7 from by rw [eU26]; exact Xi_ne (by omega)))))
        have w238 : Xi T30 890 2 = Xi U26 890 2 := (show Xi T30 890 2 = Xi T28 890 2 from w234.x _ _ rfl).trans ( (show Xi T28 890 2 = Xi U27 890 2 from w206.x _ _ rfl).trans ((show Xi U27 890 2 = Xi U26 890 2 from by rw [eU27]; exact Xi_ne (by omega))))
        exact ⟨hHT30, hFT30, _, rfl, ⟨by omega, by omega⟩, (by  first | (have t := b11; rw [ckB_0 b11.o]; simp only [gS_1, gS_0, o_1, o_0, i10, i00, n10, n00, if_true, if_false, gp275, gp290]) | (have t := k119; rw [ckB_1 nb119.o, B119, gS_1, ckB2_10 k119]; simp only [gS_1, gS_0, o_1, o_0, i10, i00, n10, n00, if_true, if_false, gp275, gp290]) | (have t := k186; rw [ckB_1 nb186.o, B186, gS_1, ckB2_11 k186]; simp only [gS_1, gS_0, o_1, o_0, i10, i00, n10, n00, if_true, if_false, gp275, gp290]) | (have t := a258; rw [ckB_1 nb258.o, B258, gS_1, ckB2_12 n258.o m258.o a258.o]; simp only [gS_1, gS_0, o_1, o_0, i10, i00, n10, n00, if_true, if_false, gp275, gp290]; first | done | (rw [if_pos (p282.o.1 (by omega))]; simp only [gS_1, gS_0, o_1, o_0, i10, i00, n10, n00, if_true, if_false, gp275, gp290]) | (rw [if_neg (p282.o.2 (by omega))]; simp only [gS_1, gS_0, o_1, o_0, i10, i00, n10, n00, if_true, if_false, gp275, gp290])) | (have t := p318; rw [ckB_1 nb318.o, B318, gS_1, ckB2_13 p318.o]; simp only [gS_1, gS_0, o_1, o_0, i10, i00, n10, n00, if_true, if_false, gp275, gp290]) | (have t := q347; rw [ckB_1 nb347.o, B347, gS_1, ckB2_15 a347.o q347.o]; simp only [gS_1, gS_0, o_1, o_0, i10, i00, n10, n00, if_true, if_false, gp275, gp290]) | (rw [ckB_1 nb67.o]; simp only [gS_1, gS_0, o_1, o_0, i10, i00, n10, n00, if_true, if_false, gp275, gp290])), (by omega), (by first | (have t := b11; exact (fun _ => ⟨fun _ => by omega, fun q => absurd b11.o q⟩)) | (have t := k119; exact (fun _ => ⟨fun q => absurd q nb119.o, fun _ => ⟨_, B119, bes_10 k119 (by omega)⟩⟩)) | (have t := k186; exact (fun _ => ⟨fun q => absurd q nb186.o, fun _ => ⟨_, B186, bes_11 k186 (by omega)⟩⟩)) | (have t := a258; exact (fun _ => ⟨fun q => absurd q nb258.o, fun _ => ⟨_, B258, bes_12 n258.o m258.o a258.o (by omega)⟩⟩)) | (have t := p318; exact (fun _ => ⟨fun q => absurd q nb318.o, fun _ => ⟨_, B318, bes_13 p318.o (by omega)⟩⟩)) | (have t := q347; exact (fun z1 => ⟨fun q => absurd q nb347.o, fun _ => ⟨_, B347, bes_r a347.o q347.o (s371.o z1)⟩⟩)) | exact (fun q => absurd q (by omega)))⟩
      · rw [show z233 = 1 by omega] at gp290
        refine y_aload_n rfl rfl ?_
        refine y_bipush rfl rfl ?_
        have w239 : Xi T30 876 7 = Xi T25 876 7 := (show Xi T30 876 7 = Xi T28 876 7 from w234.x _ _ rfl).trans ( (show Xi T28 876 7 = Xi U27 876 7 from w206.x _ _ rfl).trans ( (show Xi U27 876 7 = Xi U26 876 7 from by rw [eU27]; exact Xi_ne (by omega)).trans ((show Xi U26 876 7 = Xi T25 876 7 from by rw [eU26]; exact Xi_ne (by omega)))))
        refine y_callV rfl rfl rfl (t_gr_take__p hHT30 103 ⟨by omega, by omega⟩ (by first | assumption | exact (NFR_FR hFT30 rfl rfl (by assumption : NFR S))) (by first | assumption | omega) (by first | assumption | omega) _) ?_
        rintro _ T31 ⟨hHT31, w244, z243, rfl, w243, w241, w242⟩
        have hFT31 : FR md_gr_checkBe__p S T31 := FR.tr hFT30 w244 rfl
        show Pl _ _ _ _ _ _ [iv z243] _ _
        have gp299 := w241
        rw [FRT hFT30 rfl rfl] at gp299
        clear w241
        refine y_if_eq rfl rfl (by unfold rg; omega) (fun w245 => ?_) (fun w246 => ?_)
        · rw [show z243 = 0 by omega] at gp299
          refine y_iconst rfl ?_
          refine y_ireturn rfl rfl ?_
          have w247 : Xi T31 876 7 = Xi T25 876 7 := (show Xi T31 876 7 = Xi T30 876 7 from w244.x _ _ rfl).trans ( (show Xi T30 876 7 = Xi T28 876 7 from w234.x _ _ rfl).trans ( (show Xi T28 876 7 = Xi U27 876 7 from w206.x _ _ rfl).trans ( (show Xi U27 876 7 = Xi U26 876 7 from by rw [eU27]; exact Xi_ne (by omega)).trans ((show Xi U26 876 7 = Xi T25 876 7 from by rw [eU26]; exact Xi_ne (by omega))))))
          have w248 : Xi T31 890 2 = Xi U26 890 2 := (show Xi T31 890 2 = Xi T30 890 2 from w244.x _ _ rfl).trans ( (show Xi T30 890 2 = Xi T28 890 2 from w234.x _ _ rfl).trans ( (show Xi T28 890 2 = Xi U27 890 2 from w206.x _ _ rfl).trans ((show Xi U27 890 2 = Xi U26 890 2 from by rw [eU27]; exact Xi_ne (by omega)))))
          exact ⟨hHT31, hFT31, _, rfl, ⟨by omega, by omega⟩, (by  first | (have t := b11; rw [ckB_0 b11.o]; simp only [gS_1, gS_0, o_1, o_0, i10, i00, n10, n00, if_true, if_false, gp275, gp290, gp299]) | (have t := k119; rw [ckB_1 nb119.o, B119, gS_1, ckB2_10 k119]; simp only [gS_1, gS_0, o_1, o_0, i10, i00, n10, n00, if_true, if_false, gp275, gp290, gp299]) | (have t := k186; rw [ckB_1 nb186.o, B186, gS_1, ckB2_11 k186]; simp only [gS_1, gS_0, o_1, o_0, i10, i00, n10, n00, if_true, if_false, gp275, gp290, gp299]) | (have t := a258; rw [ckB_1 nb258.o, B258, gS_1, ckB2_12 n258.o m258.o a258.o]; simp only [gS_1, gS_0, o_1, o_0, i10, i00, n10, n00, if_true, if_false, gp275, gp290, gp299]; first | done | (rw [if_pos (p282.o.1 (by omega))]; simp only [gS_1, gS_0, o_1, o_0, i10, i00, n10, n00, if_true, if_false, gp275, gp290, gp299]) | (rw [if_neg (p282.o.2 (by omega))]; simp only [gS_1, gS_0, o_1, o_0, i10, i00, n10, n00, if_true, if_false, gp275, gp290, gp299])) | (have t := p318; rw [ckB_1 nb318.o, B318, gS_1, ckB2_13 p318.o]; simp only [gS_1, gS_0, o_1, o_0, i10, i00, n10, n00, if_true, if_false, gp275, gp290, gp299]) | (have t := q347; rw [ckB_1 nb347.o, B347, gS_1, ckB2_15 a347.o q347.o]; simp only [gS_1, gS_0, o_1, o_0, i10, i00, n10, n00, if_true, if_false, gp275, gp290, gp299]) | (rw [ckB_1 nb67.o]; simp only [gS_1, gS_0, o_1, o_0, i10, i00, n10, n00, if_true, if_false, gp275, gp290, gp299])), (by omega), (by first | (have t := b11; exact (fun _ => ⟨fun _ => by omega, fun q => absurd b11.o q⟩)) | (have t := k119; exact (fun _ => ⟨fun q => absurd q nb119.o, fun _ => ⟨_, B119, bes_10 k119 (by omega)⟩⟩)) | (have t := k186; exact (fun _ => ⟨fun q => absurd q nb186.o, fun _ => ⟨_, B186, bes_11 k186 (by omega)⟩⟩)) | (have t := a258; exact (fun _ => ⟨fun q => absurd q nb258.o, fun _ => ⟨_, B258, bes_12 n258.o m258.o a258.o (by omega)⟩⟩)) | (have t := p318; exact (fun _ => ⟨fun q => absurd q nb318.o, fun _ => ⟨_, B318, bes_13 p318.o (by omega)⟩⟩)) | (have t := q347; exact (fun z1 => ⟨fun q => absurd q nb347.o, fun _ => ⟨_, B347, bes_r a347.o q347.o (s371.o z1)⟩⟩)) | exact (fun q => absurd q (by omega)))⟩
        · rw [show z243 = 1 by omega] at gp299
          refine y_iconst rfl ?_
          refine y_goto rfl rfl ?_
          refine y_ireturn rfl rfl ?_
          have w249 : Xi T31 876 7 = Xi T25 876 7 := (show Xi T31 876 7 = Xi T30 876 7 from w244.x _ _ rfl).trans ( (show Xi T30 876 7 = Xi T28 876 7 from w234.x _ _ rfl).trans ( (show Xi T28 876 7 = Xi U27 876 7 from w206.x _ _ rfl).trans ( (show Xi U27 876 7 = Xi U26 876 7 from by rw [eU27]; exact Xi_ne (by omega)).trans ((show Xi U26 876 7 = Xi T25 876 7 from by rw [eU26]; exact Xi_ne (by omega))))))
          have w250 : Xi T31 890 2 = Xi U26 890 2 := (show Xi T31 890 2 = Xi T30 890 2 from w244.x _ _ rfl).trans ( (show Xi T30 890 2 = Xi T28 890 2 from w234.x _ _ rfl).trans ( (show Xi T28 890 2 = Xi U27 890 2 from w206.x _ _ rfl).trans ((show Xi U27 890 2 = Xi U26 890 2 from by rw [eU27]; exact Xi_ne (by omega)))))
          exact ⟨hHT31, hFT31, _, rfl, ⟨by omega, by omega⟩, (by  first | (have t := b11; rw [ckB_0 b11.o]; simp only [gS_1, gS_0, o_1, o_0, i10, i00, n10, n00, if_true, if_false, gp275, gp290, gp299]) | (have t := k119; rw [ckB_1 nb119.o, B119, gS_1, ckB2_10 k119]; simp only [gS_1, gS_0, o_1, o_0, i10, i00, n10, n00, if_true, if_false, gp275, gp290, gp299]) | (have t := k186; rw [ckB_1 nb186.o, B186, gS_1, ckB2_11 k186]; simp only [gS_1, gS_0, o_1, o_0, i10, i00, n10, n00, if_true, if_false, gp275, gp290, gp299]) | (have t := a258; rw [ckB_1 nb258.o, B258, gS_1, ckB2_12 n258.o m258.o a258.o]; simp only [gS_1, gS_0, o_1, o_0, i10, i00, n10, n00, if_true, if_false, gp275, gp290, gp299]; first | done | (rw [if_pos (p282.o.1 (by omega))]; simp only [gS_1, gS_0, o_1, o_0, i10, i00, n10, n00, if_true, if_false, gp275, gp290, gp299]) | (rw [if_neg (p282.o.2 (by omega))]; simp only [gS_1, gS_0, o_1, o_0, i10, i00, n10, n00, if_true, if_false, gp275, gp290, gp299])) | (have t := p318; rw [ckB_1 nb318.o, B318, gS_1, ckB2_13 p318.o]; simp only [gS_1, gS_0, o_1, o_0, i10, i00, n10, n00, if_true, if_false, gp275, gp290, gp299]) | (have t := q347; rw [ckB_1 nb347.o, B347, gS_1, ckB2_15 a347.o q347.o]; simp only [gS_1, gS_0, o_1, o_0, i10, i00, n10, n00, if_true, if_false, gp275, gp290, gp299]) | (rw [ckB_1 nb67.o]; simp only [gS_1, gS_0, o_1, o_0, i10, i00, n10, n00, if_true, if_false, gp275, gp290, gp299])), (by omega), (by first | (have t := b11; exact (fun _ => ⟨fun _ => by omega, fun q => absurd b11.o q⟩)) | (have t := k119; exact (fun _ => ⟨fun q => absurd q nb119.o, fun _ => ⟨_, B119, bes_10 k119 (by omega)⟩⟩)) | (have t := k186; exact (fun _ => ⟨fun q => absurd q nb186.o, fun _ => ⟨_, B186, bes_11 k186 (by omega)⟩⟩)) | (have t := a258; exact (fun _ => ⟨fun q => absurd q nb258.o, fun _ => ⟨_, B258, bes_12 n258.o m258.o a258.o (by omega)⟩⟩)) | (have t := p318; exact (fun _ => ⟨fun q => absurd q nb318.o, fun _ => ⟨_, B318, bes_13 p318.o (by omega)⟩⟩)) | (have t := q347; exact (fun z1 => ⟨fun q => absurd q nb347.o, fun _ => ⟨_, B347, bes_r a347.o q347.o (s371.o z1)⟩⟩)) | exact (fun q => absurd q (by omega)))⟩
set_option maxRecDepth 100000 in
theorem c318_gr_checkBe__p {S : sS} (hH : RI S) (hfr : NFR S) (hr : Xi S 876 7 ≤ 5130) (ha : 0 ≤ Xi S 890 1 ∧ Xi S 890 1 ≤ Xi S 876 7) (hls : LST S) (h0 : Xi S 890 1 = 0) (d : Nat) (fu : Nat) : ∀  (T32 : sS) (_ : RI T32) (_ : FR md_gr_checkBe__p S T32), (gSq (gLs (ty7 S) 0) (gBe (ty7 S)) = (1, Xi T32 890 1)) → (Hid (¬ bp7 (ty7 S) 0)) → (0 ≤ Xi T32 890 1 ∧ Xi T32 890 1 ≤ Xi S 876 7) → (Hid (pl7 (ty7 S (Xi T32 890 1)))) → Pl fu lay0 (d + 4) m_gr_checkBe 318 [(0, .ref 890)] [] T32 (Q_gr_checkBe__p S) := by
  have hF : FR md_gr_checkBe__p S S := FR.rf
  have w1 : -2147483648 ≤ Xi S 876 7 ∧ Xi S 876 7 ≤ 2147483647 := Xi_rgI
  have w2 : -2147483648 ≤ Xi S 890 1 ∧ Xi S 890 1 ≤ 2147483647 := Xi_rgI
  have w3 : -2147483648 ≤ Xi S 890 2 ∧ Xi S 890 2 ≤ 2147483647 := Xi_rgI
  intro T32 hHT32 hFT32 B318 nb318 w251 p318
  have w252 : Xi T32 876 7 = Xi S 876 7 := hFT32.x _ _ rfl
  have w253 : -2147483648 ≤ Xi T32 876 7 ∧ Xi T32 876 7 ≤ 2147483647 := Xi_rgI
  have w254 : -2147483648 ≤ Xi T32 890 1 ∧ Xi T32 890 1 ≤ 2147483647 := Xi_rgI
  have w255 : -2147483648 ≤ Xi T32 890 2 ∧ Xi T32 890 2 ≤ 2147483647 := Xi_rgI
  refine y_aload_n rfl rfl ?_
  refine y_bipush rfl rfl ?_
  refine y_pfi rfl rfl rfl rfl ?_
  obtain ⟨U33, eU33⟩ : ∃ T : sS, T = uI T32 890 2 (Int32.ofInt 13) := ⟨_, rfl⟩
  rw [← eU33]
  have hHU33 : RI U33 := by rw [eU33]; exact RI_w hHT32
  have hFU33 : FR md_gr_checkBe__p S U33 := by rw [eU33]; exact FR.wI hFT32 (mdf_i (r := (890, 891, 2, 3)) (List.mem_of_getElem? (i := 1) rfl) (inR_i (by omega) (by omega) (by omega) (by omega)))
  have w256 : Xi U33 890 2 = 13 := by rw [eU33]; exact Xi_same (by unfold rg; omega)
  have p321 : Hid (pl7 (ty7 S (Xi U33 890 1))) := by rw [show Xi U33 890 1 = Xi T32 890 1 from by rw [eU33, Xi_ne (by omega)]]; exact p318
  refine y_aload_n rfl rfl ?_
  refine y_iconst rfl ?_
  have w257 : Xi U33 876 7 = Xi T32 876 7 := (show Xi U33 876 7 = Xi T32 876 7 from by rw [eU33]; exact Xi_ne (by omega))
  have w258 : Xi U33 890 1 = Xi T32 890 1 := (show Xi U33 890 1 = Xi T32 890 1 from by rw [eU33]; exact Xi_ne (by omega))
  refine y_callV rfl rfl rfl (t_gr_takePlace__p hHU33 0 ⟨by omega, by omega⟩ (by first | assumption | exact (NFR_FR hFU33 rfl rfl (by assumption : NFR S))) (by first | assumption | omega) (by first | assumption | omega) (by rw [FRT hFU33 rfl rfl]; first | (have u := p321.o; unfold pl7 at u; omega) | (have u := p282.o.1 (by omega); unfold pl7 at u; omega)) _) ?_
  rintro _ T34 ⟨hHT34, w262, z261, rfl, w261, w259, w260⟩
  have hFT34 : FR md_gr_checkBe__p S T34 := FR.tr hFU33 w262 rfl
  show Pl _ _ _ _ _ _ [iv z261] _ _
  have gp326 := w259
  rw [FRT hFU33 rfl rfl] at gp326
  try rw [show Xi U33 890 1 = Xi T32 890 1 by omega] at gp326
  clear w259
  refine y_if_eq rfl rfl (by unfold rg; omega) (fun w263 => ?_) (fun w264 => ?_)
  · rw [show z261 = 0 by omega] at gp326
    refine y_iconst rfl ?_
    refine y_ireturn rfl rfl ?_
    have w265 : Xi T34 876 7 = Xi T32 876 7 := (show Xi T34 876 7 = Xi U33 876 7 from w262.x _ _ rfl).trans ((show Xi U33 876 7 = Xi T32 876 7 from by rw [eU33]; exact Xi_ne (by omega)))
    have w266 : Xi T34 890 2 = Xi U33 890 2 := (show Xi T34 890 2 = Xi U33 890 2 from w262.x _ _ rfl)
    exact ⟨hHT34, hFT34, _, rfl, ⟨by omega, by omega⟩, (by  first | (have t := b11; rw [ckB_0 b11.o]; simp only [gS_1, gS_0, o_1, o_0, i10, i00, n10, n00, if_true, if_false, gp326]) | (have t := k119; rw [ckB_1 nb119.o, B119, gS_1, ckB2_10 k119]; simp only [gS_1, gS_0, o_1, o_0, i10, i00, n10, n00, if_true, if_false, gp326]) | (have t := k186; rw [ckB_1 nb186.o, B186, gS_1, ckB2_11 k186]; simp only [gS_1, gS_0, o_1, o_0, i10, i00, n10, n00, if_true, if_false, gp326]) | (have t := a258; rw [ckB_1 nb258.o, B258, gS_1, ckB2_12 n258.o m258.o a258.o]; simp only [gS_1, gS_0, o_1, o_0, i10, i00, n10, n00, if_true, if_false, gp326]; first | done | (rw [if_pos (p282.o.1 (by omega))]; simp only [gS_1, gS_0, o_1, o_0, i10, i00, n10, n00, if_true, if_false, gp326]) | (rw [if_neg (p282.o.2 (by omega))]; simp only [gS_1, gS_0, o_1, o_0, i10, i00, n10, n00, if_true, if_false, gp326])) | (have t := p318; rw [ckB_1 nb318.o, B318, gS_1, ckB2_13 p318.o]; simp only [gS_1, gS_0, o_1, o_0, i10, i00, n10, n00, if_true, if_false, gp326]) | (have t := q347; rw [ckB_1 nb347.o, B347, gS_1, ckB2_15 a347.o q347.o]; simp only [gS_1, gS_0, o_1, o_0, i10, i00, n10, n00, if_true, if_false, gp326]) | (rw [ckB_1 nb67.o]; simp only [gS_1, gS_0, o_1, o_0, i10, i00, n10, n00, if_true, if_false, gp326])), (by omega), (by first | (have t := b11; exact (fun _ => ⟨fun _ => by omega, fun q => absurd b11.o q⟩)) | (have t := k119; exact (fun _ => ⟨fun q => absurd q nb119.o, fun _ => ⟨_, B119, bes_10 k119 (by omega)⟩⟩)) | (have t := k186; exact (fun _ => ⟨fun q => absurd q nb186.o, fun _ => ⟨_, B186, bes_11 k186 (by omega)⟩⟩)) | (have t := a258; exact (fun _ => ⟨fun q => absurd q nb258.o, fun _ => ⟨_, B258, bes_12 n258.o m258.o a258.o (by omega)⟩⟩)) | (have t := p318; exact (fun _ => ⟨fun q => absurd q nb318.o, fun _ => ⟨_, B318, bes_13 p318.o (by omega)⟩⟩)) | (have t := q347; exact (fun z1 => ⟨fun q => absurd q nb347.o, fun _ => ⟨_, B347, bes_r a347.o q347.o (s371.o z1)⟩⟩)) | exact (fun q => absurd q (by omega)))⟩
  · rw [show z261 = 1 by omega] at gp326
    refine y_aload_n rfl rfl ?_
    refine y_bipush rfl rfl ?_
    have w267 : Xi T34 876 7 = Xi T32 876 7 := (show Xi T34 876 7 = Xi U33 876 7 from w262.x _ _ rfl).trans ((show Xi U33 876 7 = Xi T32 876 7 from by rw [eU33]; exact Xi_ne (by omega)))
    refine y_callV rfl rfl rfl (t_gr_take__p hHT34 103 ⟨by omega, by omega⟩ (by first | assumption | exact (NFR_FR hFT34 rfl rfl (by assumption : NFR S))) (by first | assumption | omega) (by first | assumption | omega) _) ?_
    rintro _ T35 ⟨hHT35, w272, z271, rfl, w271, w269, w270⟩
    have hFT35 : FR md_gr_checkBe__p S T35 := FR.tr hFT34 w272 rfl
    show Pl _ _ _ _ _ _ [iv z271] _ _
    have gp335 := w269
    rw [FRT hFT34 rfl rfl] at gp335
    clear w269
    refine y_if_eq rfl rfl (by unfold rg; omega) (fun w273 => ?_) (fun w274 => ?_)
    · rw [show z271 = 0 by omega] at gp335
      refine y_iconst rfl ?_
      refine y_ireturn rfl rfl ?_
      have w275 : Xi T35 876 7 = Xi T32 876 7 := (show Xi T35 876 7 = Xi T34 876 7 from w272.x _ _ rfl).trans ( (show Xi T34 876 7 = Xi U33 876 7 from w262.x _ _ rfl).trans ((show Xi U33 876 7 = Xi T32 876 7 from by rw [eU33]; exact Xi_ne (by omega))))
      have w276 : Xi T35 890 2 = Xi U33 890 2 := (show Xi T35 890 2 = Xi T34 890 2 from w272.x _ _ rfl).trans ((show Xi T34 890 2 = Xi U33 890 2 from w262.x _ _ rfl))
      exact ⟨hHT35, hFT35, _, rfl, ⟨by omega, by omega⟩, (by  first | (have t := b11; rw [ckB_0 b11.o]; simp only [gS_1, gS_0, o_1, o_0, i10, i00, n10, n00, if_true, if_false, gp326, gp335]) | (have t := k119; rw [ckB_1 nb119.o, B119, gS_1, ckB2_10 k119]; simp only [gS_1, gS_0, o_1, o_0, i10, i00, n10, n00, if_true, if_false, gp326, gp335]) | (have t := k186; rw [ckB_1 nb186.o, B186, gS_1, ckB2_11 k186]; simp only [gS_1, gS_0, o_1, o_0, i10, i00, n10, n00, if_true, if_false, gp326, gp335]) | (have t := a258; rw [ckB_1 nb258.o, B258, gS_1, ckB2_12 n258.o m258.o a258.o]; simp only [gS_1, gS_0, o_1, o_0, i10, i00, n10, n00, if_true, if_false, gp326, gp335]; first | done | (rw [if_pos (p282.o.1 (by omega))]; simp only [gS_1, gS_0, o_1, o_0, i10, i00, n10, n00, if_true, if_false, gp326, gp335]) | (rw [if_neg (p282.o.2 (by omega))]; simp only [gS_1, gS_0, o_1, o_0, i10, i00, n10, n00, if_true, if_false, gp326, gp335])) | (have t := p318; rw [ckB_1 nb318.o, B318, gS_1, ckB2_13 p318.o]; simp only [gS_1, gS_0, o_1, o_0, i10, i00, n10, n00, if_true, if_false, gp326, gp335]) | (have t := q347; rw [ckB_1 nb347.o, B347, gS_1, ckB2_15 a347.o q347.o]; simp only [gS_1, gS_0, o_1, o_0, i10, i00, n10, n00, if_true, if_false, gp326, gp335]) | (rw [ckB_1 nb67.o]; simp only [gS_1, gS_0, o_1, o_0, i10, i00, n10, n00, if_true, if_false, gp326, gp335])), (by omega), (by first | (have t := b11; exact (fun _ => ⟨fun _ => by omega, fun q => absurd b11.o q⟩)) | (have t := k119; exact (fun _ => ⟨fun q => absurd q nb119.o, fun _ => ⟨_, B119, bes_10 k119 (by omega)⟩⟩)) | (have t := k186; exact (fun _ => ⟨fun q => absurd q nb186.o, fun _ => ⟨_, B186, bes_11 k186 (by omega)⟩⟩)) | (have t := a258; exact (fun _ => ⟨fun q => absurd q nb258.o, fun _ => ⟨_, B258, bes_12 n258.o m258.o a258.o (by omega)⟩⟩)) | (have t := p318; exact (fun _ => ⟨fun q => absurd q nb318.o, fun _ => ⟨_, B318, bes_13 p318.o (by omega)⟩⟩)) | (have t := q347; exact (fun z1 => ⟨fun q => absurd q nb347.o, fun _ => ⟨_, B347, bes_r a347.o q347.o (s371.o z1)⟩⟩)) | exact (fun q => absurd q (by omega)))⟩
    · rw [show z271 = 1 by omega] at gp335
      refine y_iconst rfl ?_
      refine y_goto rfl rfl ?_
      refine y_ireturn rfl rfl ?_
      have w277 : Xi T35 876 7 = Xi T32 876 7 := (show Xi T35 876 7 = Xi T34 876 7 from w272.x _ _ rfl).trans ( (show Xi T34 876 7 = Xi U33 876 7 from w262.x _ _ rfl).trans ((show Xi U33 876 7 = Xi T32 876 7 from by rw [eU33]; exact Xi_ne (by omega))))
      have w278 : Xi T35 890 2 = Xi U33 890 2 := (show Xi T35 890 2 = Xi T34 890 2 from w272.x _ _ rfl).trans ((show Xi T34 890 2 = Xi U33 890 2 from w262.x _ _ rfl))
      exact ⟨hHT35, hFT35, _, rfl, ⟨by omega, by omega⟩, (by  first | (have t := b11; rw [ckB_0 b11.o]; simp only [gS_1, gS_0, o_1, o_0, i10, i00, n10, n00, if_true, if_false, gp326, gp335]) | (have t := k119; rw [ckB_1 nb119.o, B119, gS_1, ckB2_10 k119]; simp only [gS_1, gS_0, o_1, o_0, i10, i00, n10, n00, if_true, if_false, gp326, gp335]) | (have t := k186; rw [ckB_1 nb186.o, B186, gS_1, ckB2_11 k186]; simp only [gS_1, gS_0, o_1, o_0, i10, i00, n10, n00, if_true, if_false, gp326, gp335]) | (have t := a258; rw [ckB_1 nb258.o, B258, gS_1, ckB2_12 n258.o m258.o a258.o]; simp only [gS_1, gS_0, o_1, o_0, i10, i00, n10, n00, if_true, if_false, gp326, gp335]; first | done | (rw [if_pos (p282.o.1 (by omega))]; simp only [gS_1, gS_0, o_1, o_0, i10, i00, n10, n00, if_true, if_false, gp326, gp335]) | (rw [if_neg (p282.o.2 (by omega))]; simp only [gS_1, gS_0, o_1, o_0, i10, i00, n10, n00, if_true, if_false, gp326, gp335])) | (have t := p318; rw [ckB_1 nb318.o, B318, gS_1, ckB2_13 p318.o]; simp only [gS_1, gS_0, o_1, o_0, i10, i00, n10, n00, if_true, if_false, gp326, gp335]) | (have t := q347; rw [ckB_1 nb347.o, B347, gS_1, ckB2_15 a347.o q347.o]; simp only [gS_1, gS_0, o_1, o_0, i10, i00, n10, n00, if_true, if_false, gp326, gp335]) | (rw [ckB_1 nb67.o]; simp only [gS_1, gS_0, o_1, o_0, i10, i00, n10, n00, if_true, if_false, gp326, gp335])), (by omega), (by first | (have t := b11; exact (fun _ => ⟨fun _ => by omega, fun q => absurd b11.o q⟩)) | (have t := k119; exact (fun _ => ⟨fun q => absurd q nb119.o, fun _ => ⟨_, B119, bes_10 k119 (by omega)⟩⟩)) | (have t := k186; exact (fun _ => ⟨fun q => absurd q nb186.o, fun _ => ⟨_, B186, bes_11 k186 (by omega)⟩⟩)) | (have t := a258; exact (fun _ => ⟨fun q => absurd q nb258.o, fun _ => ⟨_, B258, bes_12 n258.o m258.o a258.o (by omega)⟩⟩)) | (have t := p318; exact (fun _ => ⟨fun q => absurd q nb318.o, fun _ => ⟨_, B318, bes_13 p318.o (by omega)⟩⟩)) | (have t := q347; exact (fun z1 => ⟨fun q => absurd q nb347.o, fun _ => ⟨_, B347, bes_r a347.o q347.o (s371.o z1)⟩⟩)) | exact (fun q => absurd q (by omega)))⟩
set_option maxRecDepth 100000 in
theorem c347_gr_checkBe__p {S : sS} (hH : RI S) (hfr : NFR S) (hr : Xi S 876 7 ≤ 5130) (ha : 0 ≤ Xi S 890 1 ∧ Xi S 890 1 ≤ Xi S 876 7) (hls : LST S) (h0 : Xi S 890 1 = 0) (d : Nat) (fu : Nat) : ∀  (T36 : sS) (_ : RI T36) (_ : FR md_gr_checkBe__p S T36), (gSq (gLs (ty7 S) 0) (gBe (ty7 S)) = (1, Xi T36 890 1)) → (Hid (¬ bp7 (ty7 S) 0)) → (0 ≤ Xi T36 890 1 ∧ Xi T36 890 1 ≤ Xi S 876 7) → (Hid (¬ art7 (ty7 S (Xi T36 890 1)))) → (Hid (¬ pl7 (ty7 S (Xi T36 890 1)))) → Pl fu lay0 (d + 4) m_gr_checkBe 347 [(0, .ref 890)] [] T36 (Q_gr_checkBe__p S) := by
  have hF : FR md_gr_checkBe__p S S := FR.rf
  have w1 : -2147483648 ≤ Xi S 876 7 ∧ Xi S 876 7 ≤ 2147483647 := Xi_rgI
  have w2 : -2147483648 ≤ Xi S 890 1 ∧ Xi S 890 1 ≤ 2147483647 := Xi_rgI
  have w3 : -2147483648 ≤ Xi S 890 2 ∧ Xi S 890 2 ≤ 2147483647 := Xi_rgI
  intro T36 hHT36 hFT36 B347 nb347 w279 a347 q347
  have w280 : Xi T36 876 7 = Xi S 876 7 := hFT36.x _ _ rfl
  have w281 : -2147483648 ≤ Xi T36 876 7 ∧ Xi T36 876 7 ≤ 2147483647 := Xi_rgI
  have w282 : -2147483648 ≤ Xi T36 890 1 ∧ Xi T36 890 1 ≤ 2147483647 := Xi_rgI
  have w283 : -2147483648 ≤ Xi T36 890 2 ∧ Xi T36 890 2 ≤ 2147483647 := Xi_rgI
  refine y_aload_n rfl rfl ?_
  refine y_aload_n rfl rfl ?_
  refine y_bipush rfl rfl ?_
  refine y_callV rfl rfl rfl (t_gr_take__p hHT36 6 ⟨by omega, by omega⟩ (by first | assumption | exact (NFR_FR hFT36 rfl rfl (by assumption : NFR S))) (by first | assumption | omega) (by first | assumption | omega) _) ?_
  rintro _ T37 ⟨hHT37, w287, z286, rfl, w286, w284, w285⟩
  have hFT37 : FR md_gr_checkBe__p S T37 := FR.tr hFT36 w287 rfl
  show Pl _ _ _ _ _ _ [iv z286, .ref 890] _ _
  have gp351 := w284
  rw [FRT hFT36 rfl rfl] at gp351
  clear w284
  have t351 : Hid ((z286 = 1 → ty7 S (Xi T36 890 1) = 6 ∧ Xi T37 890 1 = Xi T36 890 1 + 1) ∧ (z286 = 0 → ty7 S (Xi T36 890 1) ≠ 6 ∧ Xi T37 890 1 = Xi T36 890 1)) := gT_i gp351
  refine y_if_ne rfl rfl (by unfold rg; omega) (fun w288 => ?_) (fun w289 => ?_)
  · rw [show z286 = 1 by omega] at gp351
    refine y_iconst rfl ?_
    refine y_goto rfl rfl ?_
    have w290 : Xi T37 876 7 = Xi T36 876 7 := (show Xi T37 876 7 = Xi T36 876 7 from w287.x _ _ rfl)
    have w291 : Xi T37 890 2 = Xi T36 890 2 := (show Xi T37 890 2 = Xi T36 890 2 from w287.x _ _ rfl)
    refine y_callV rfl rfl rfl (t_gr_checkRuns__p hHT37 1 ⟨by omega, by omega⟩ (by first | assumption | exact (NFR_FR hFT37 rfl rfl (by assumption : NFR S))) (by first | assumption | omega) (by first | assumption | omega) _) ?_
    rintro _ T38 ⟨hHT38, w295, z294, rfl, w294, w292, w293, so371⟩
    have hFT38 : FR md_gr_checkBe__p S T38 := FR.tr hFT37 w295 rfl
    show Pl _ _ _ _ _ _ [iv z294] _ _
    have gp371 := w292
    rw [FRT hFT37 rfl rfl] at gp371
    clear w292
    have s371 : Hid (z294 = 1 → ((ty7 S (Xi T36 890 1) = 6 ∨ ty7 S (Xi T36 890 1) = 32) ∧ Xi T38 890 2 = 15) ∨ (ty7 S (Xi T36 890 1) ≠ 6 ∧ ty7 S (Xi T36 890 1) ≠ 32 ∧ Xi T38 890 2 = crs (ty7 S) 0 (Xi T36 890 1))) := fun z1 => by have e := so371 z1; rw [FRT hFT37 rfl rfl] at e; first | (have t := t360.o.2 (by omega); rw [t.2] at e; exact Or.inr ⟨(t351.o.2 (by omega)).1, t.1, e⟩) | (rw [crs_1 (by decide)] at e; exact Or.inl ⟨by first | exact Or.inr (t360.o.1 (by omega)) | exact Or.inl (t351.o.1 (by omega)).1, e⟩)
    clear so371
    refine y_ireturn rfl (retI_z (by omega)) ?_
    have w296 : Xi T38 876 7 = Xi T36 876 7 := (show Xi T38 876 7 = Xi T37 876 7 from w295.x _ _ rfl).trans ((show Xi T37 876 7 = Xi T36 876 7 from w287.x _ _ rfl))
    exact ⟨hHT38, hFT38, _, rfl, ⟨by omega, by omega⟩, (by (first | rw [show z294 = 1 by omega] at gp371 | rw [show z294 = 0 by omega] at gp371 | skip);  first | (have t := b11; rw [ckB_0 b11.o]; simp only [gS_1, gS_0, o_1, o_0, i10, i00, n10, n00, if_true, if_false, gp351, gp371]) | (have t := k119; rw [ckB_1 nb119.o, B119, gS_1, ckB2_10 k119]; simp only [gS_1, gS_0, o_1, o_0, i10, i00, n10, n00, if_true, if_false, gp351, gp371]) | (have t := k186; rw [ckB_1 nb186.o, B186, gS_1, ckB2_11 k186]; simp only [gS_1, gS_0, o_1, o_0, i10, i00, n10, n00, if_true, if_false, gp351, gp371]) | (have t := a258; rw [ckB_1 nb258.o, B258, gS_1, ckB2_12 n258.o m258.o a258.o]; simp only [gS_1, gS_0, o_1, o_0, i10, i00, n10, n00, if_true, if_false, gp351, gp371]; first | done | (rw [if_pos (p282.o.1 (by omega))]; simp only [gS_1, gS_0, o_1, o_0, i10, i00, n10, n00, if_true, if_false, gp351, gp371]) | (rw [if_neg (p282.o.2 (by omega))]; simp only [gS_1, gS_0, o_1, o_0, i10, i00, n10, n00, if_true, if_false, gp351, gp371])) | (have t := p318; rw [ckB_1 nb318.o, B318, gS_1, ckB2_13 p318.o]; simp only [gS_1, gS_0, o_1, o_0, i10, i00, n10, n00, if_true, if_false, gp351, gp371]) | (have t := q347; rw [ckB_1 nb347.o, B347, gS_1, ckB2_15 a347.o q347.o]; simp only [gS_1, gS_0, o_1, o_0, i10, i00, n10, n00, if_true, if_false, gp351, gp371]) | (rw [ckB_1 nb67.o]; simp only [gS_1, gS_0, o_1, o_0, i10, i00, n10, n00, if_true, if_false, gp351, gp371])), (by omega), (by first | (have t := b11; exact (fun _ => ⟨fun _ => by omega, fun q => absurd b11.o q⟩)) | (have t := k119; exact (fun _ => ⟨fun q => absurd q nb119.o, fun _ => ⟨_, B119, bes_10 k119 (by omega)⟩⟩)) | (have t := k186; exact (fun _ => ⟨fun q => absurd q nb186.o, fun _ => ⟨_, B186, bes_11 k186 (by omega)⟩⟩)) | (have t := a258; exact (fun _ => ⟨fun q => absurd q nb258.o, fun _ => ⟨_, B258, bes_12 n258.o m258.o a258.o (by omega)⟩⟩)) | (have t := p318; exact (fun _ => ⟨fun q => absurd q nb318.o, fun _ => ⟨_, B318, bes_13 p318.o (by omega)⟩⟩)) | (have t := q347; exact (fun z1 => ⟨fun q => absurd q nb347.o, fun _ => ⟨_, B347, bes_r a347.o q347.o (s371.o z1)⟩⟩)) | exact (fun q => absurd q (by omega)))⟩
  · rw [show z286 = 0 by omega] at gp351
    refine y_aload_n rfl rfl ?_
    refine y_bipush rfl rfl ?_
    have w297 : Xi T37 876 7 = Xi T36 876 7 := (show Xi T37 876 7 = Xi T36 876 7 from w287.x _ _ rfl)
    refine y_callV rfl rfl rfl (t_gr_take__p hHT37 32 ⟨by omega, by omega⟩ (by first | assumption | exact (NFR_FR hFT37 rfl rfl (by assumption : NFR S))) (by first | assumption | omega) (by first | assumption | omega) _) ?_
    rintro _ T39 ⟨hHT39, w302, z301, rfl, w301, w299, w300⟩
    have hFT39 : FR md_gr_checkBe__p S T39 := FR.tr hFT37 w302 rfl
    show Pl _ _ _ _ _ _ [iv z301, .ref 890] _ _
    have gp360 := w299
    rw [FRT hFT37 rfl rfl] at gp360
    clear w299
    have t360 : Hid ((z301 = 1 → ty7 S (Xi T36 890 1) = 32) ∧ (z301 = 0 → ty7 S (Xi T36 890 1) ≠ 32 ∧ Xi T39 890 1 = Xi T36 890 1)) := by have u := (t351.o.2 (by omega)).2; have t := gT_i gp360; rw [u] at t; exact ⟨fun q => (t.1 q).1, fun q => ⟨(t.2 q).1, (t.2 q).2⟩⟩
    refine y_if_eq rfl rfl (by unfold rg; omega) (fun w303 => ?_) (fun w304 => ?_)
    · rw [show z301 = 0 by omega] at gp360
      refine y_iconst rfl ?_
      have w305 : Xi T39 876 7 = Xi T36 876 7 := (show Xi T39 876 7 = Xi T37 876 7 from w302.x _ _ rfl).trans ((show Xi T37 876 7 = Xi T36 876 7 from w287.x _ _ rfl))
      have w306 : Xi T39 890 2 = Xi T36 890 2 := (show Xi T39 890 2 = Xi T37 890 2 from w302.x _ _ rfl).trans ((show Xi T37 890 2 = Xi T36 890 2 from w287.x _ _ rfl))
      refine y_callV rfl rfl rfl (t_gr_checkRuns__p hHT39 0 ⟨by omega, by omega⟩ (by first | assumption | exact (NFR_FR hFT39 rfl rfl (by assumption : NFR S))) (by first | assumption | omega) (by first | assumption | omega) _) ?_
      rintro _ T40 ⟨hHT40, w310, z309, rfl, w309, w307, w308, so371⟩
      have hFT40 : FR md_gr_checkBe__p S T40 := FR.tr hFT39 w310 rfl
      show Pl _ _ _ _ _ _ [iv z309] _ _
      have gp371 := w307
      rw [FRT hFT39 rfl rfl] at gp371
      clear w307
      have s371 : Hid (z309 = 1 → ((ty7 S (Xi T36 890 1) = 6 ∨ ty7 S (Xi T36 890 1) = 32) ∧ Xi T40 890 2 = 15) ∨ (ty7 S (Xi T36 890 1) ≠ 6 ∧ ty7 S (Xi T36 890 1) ≠ 32 ∧ Xi T40 890 2 = crs (ty7 S) 0 (Xi T36 890 1))) := fun z1 => by have e := so371 z1; rw [FRT hFT39 rfl rfl] at e; first | (have t := t360.o.2 (by omega); rw [t.2] at e; exact Or.inr ⟨(t351.o.2 (by omega)).1, t.1, e⟩) | (rw [crs_1 (by decide)] at e; exact Or.inl ⟨by first | exact Or.inr (t360.o.1 (by omega)) | exact Or.inl (t351.o.1 (by omega)).1, e⟩)
      clear so371
      refine y_ireturn rfl (retI_z (by omega)) ?_
      have w311 : Xi T40 876 7 = Xi T36 876 7 := (show Xi T40 876 7 = Xi T39 876 7 from w310.x _ _ rfl).trans ( (show Xi T39 876 7 = Xi T37 876 7 from w302.x _ _ rfl).trans ((show Xi T37 876 7 = Xi T36 876 7 from w287.x _ _ rfl)))
      exact ⟨hHT40, hFT40, _, rfl, ⟨by omega, by omega⟩, (by (first | rw [show z309 = 1 by omega] at gp371 | rw [show z309 = 0 by omega] at gp371 | skip);  first | (have t := b11; rw [ckB_0 b11.o]; simp only [gS_1, gS_0, o_1, o_0, i10, i00, n10, n00, if_true, if_false, gp351, gp360, gp371]) | (have t := k119; rw [ckB_1 nb119.o, B119, gS_1, ckB2_10 k119]; simp only [gS_1, gS_0, o_1, o_0, i10, i00, n10, n00, if_true, if_false, gp351, gp360, gp371]) | (have t := k186; rw [ckB_1 nb186.o, B186, gS_1, ckB2_11 k186]; simp only [gS_1, gS_0, o_1, o_0, i10, i00, n10, n00, if_true, if_false, gp351, gp360, gp371]) | (have t := a258; rw [ckB_1 nb258.o, B258, gS_1, ckB2_12 n258.o m258.o a258.o]; simp only [gS_1, gS_0, o_1, o_0, i10, i00, n10, n00, if_true, if_false, gp351, gp360, gp371]; first | done | (rw [if_pos (p282.o.1 (by omega))]; simp only [gS_1, gS_0, o_1, o_0, i10, i00, n10, n00, if_true, if_false, gp351, gp360, gp371]) | (rw [if_neg (p282.o.2 (by omega))]; simp only [gS_1, gS_0, o_1, o_0, i10, i00, n10, n00, if_true, if_false, gp351, gp360, gp371])) | (have t := p318; rw [ckB_1 nb318.o, B318, gS_1, ckB2_13 p318.o]; simp only [gS_1, gS_0, o_1, o_0, i10, i00, n10, n00, if_true, if_false, gp351, gp360, gp371]) | (have t := q347; rw [ckB_1 nb347.o, B347, gS_1, ckB2_15 a347.o q347.o]; simp only [gS_1, gS_0, o_1, o_0, i10, i00, n10, n00, if_true, if_false, gp351, gp360, gp371]) | (rw [ckB_1 nb67.o]; simp only [gS_1, gS_0, o_1, o_0, i10, i00, n10, n00, if_true, if_false, gp351, gp360, gp371])), (by omega), (by first | (have t := b11; exact (fun _ => ⟨fun _ => by omega, fun q => absurd b11.o q⟩)) | (have t := k119; exact (fun _ => ⟨fun q => absurd q nb119.o, fun _ => ⟨_, B119, bes_10 k119 (by omega)⟩⟩)) | (have t := k186; exact (fun _ => ⟨fun q => absurd q nb186.o, fun _ => ⟨_, B186, bes_11 k186 (by omega)⟩⟩)) | (have t := a258; exact (fun _ => ⟨fun q => absurd q nb258.o, fun _ => ⟨_, B258, bes_12 n258.o m258.o a258.o (by omega)⟩⟩)) | (have t := p318; exact (fun _ => ⟨fun q => absurd q nb318.o, fun _ => ⟨_, B318, bes_13 p318.o (by omega)⟩⟩)) | (have t := q347; exact (fun z1 => ⟨fun q => absurd q nb347.o, fun _ => ⟨_, B347, bes_r a347.o q347.o (s371.o z1)⟩⟩)) | exact (fun q => absurd q (by omega)))⟩
    · rw [show z301 = 1 by omega] at gp360
      refine y_iconst rfl ?_
      refine y_goto rfl rfl ?_
      have w312 : Xi T39 876 7 = Xi T36 876 7 := (show Xi T39 876 7 = Xi T37 876 7 from w302.x _ _ rfl).trans ((show Xi T37 876 7 = Xi T36 876 7 from w287.x _ _ rfl))
      have w313 : Xi T39 890 2 = Xi T36 890 2 := (show Xi T39 890 2 = Xi T37 890 2 from w302.x _ _ rfl).trans ((show Xi T37 890 2 = Xi T36 890 2 from w287.x _ _ rfl))
      refine y_callV rfl rfl rfl (t_gr_checkRuns__p hHT39 1 ⟨by omega, by omega⟩ (by first | assumption | exact (NFR_FR hFT39 rfl rfl (by assumption : NFR S))) (by first | assumption | omega) (by first | assumption | omega) _) ?_
      rintro _ T41 ⟨hHT41, w317, z316, rfl, w316, w314, w315, so371⟩
      have hFT41 : FR md_gr_checkBe__p S T41 := FR.tr hFT39 w317 rfl
      show Pl _ _ _ _ _ _ [iv z316] _ _
      have gp371 := w314
      rw [FRT hFT39 rfl rfl] at gp371
      clear w314
      have s371 : Hid (z316 = 1 → ((ty7 S (Xi T36 890 1) = 6 ∨ ty7 S (Xi T36 890 1) = 32) ∧ Xi T41 890 2 = 15) ∨ (ty7 S (Xi T36 890 1) ≠ 6 ∧ ty7 S (Xi T36 890 1) ≠ 32 ∧ Xi T41 890 2 = crs (ty7 S) 0 (Xi T36 890 1))) := fun z1 => by have e := so371 z1; rw [FRT hFT39 rfl rfl] at e; first | (have t := t360.o.2 (by omega); rw [t.2] at e; exact Or.inr ⟨(t351.o.2 (by omega)).1, t.1, e⟩) | (rw [crs_1 (by decide)] at e; exact Or.inl ⟨by first | exact Or.inr (t360.o.1 (by omega)) | exact Or.inl (t351.o.1 (by omega)).1, e⟩)
      clear so371
      refine y_ireturn rfl (retI_z (by omega)) ?_
      have w318 : Xi T41 876 7 = Xi T36 876 7 := (show Xi T41 876 7 = Xi T39 876 7 from w317.x _ _ rfl).trans ( (show Xi T39 876 7 = Xi T37 876 7 from w302.x _ _ rfl).trans ((show Xi T37 876 7 = Xi T36 876 7 from w287.x _ _ rfl)))
      exact ⟨hHT41, hFT41, _, rfl, ⟨by omega, by omega⟩, (by (first | rw [show z316 = 1 by omega] at gp371 | rw [show z316 = 0 by omega] at gp371 | skip);  first | (have t := b11; rw [ckB_0 b11.o]; simp only [gS_1, gS_0, o_1, o_0, i10, i00, n10, n00, if_true, if_false, gp351, gp360, gp371]) | (have t := k119; rw [ckB_1 nb119.o, B119, gS_1, ckB2_10 k119]; simp only [gS_1, gS_0, o_1, o_0, i10, i00, n10, n00, if_true, if_false, gp351, gp360, gp371]) | (have t := k186; rw [ckB_1 nb186.o, B186, gS_1, ckB2_11 k186]; simp only [gS_1, gS_0, o_1, o_0, i10, i00, n10, n00, if_true, if_false, gp351, gp360, gp371]) | (have t := a258; rw [ckB_1 nb258.o, B258, gS_1, ckB2_12 n258.o m258.o a258.o]; simp only [gS_1, gS_0, o_1, o_0, i10, i00, n10, n00, if_true, if_false, gp351, gp360, gp371]; first | done | (rw [if_pos (p282.o.1 (by omega))]; simp only [gS_1, gS_0, o_1, o_0, i10, i00, n10, n00, if_true, if_false, gp351, gp360, gp371]) | (rw [if_neg (p282.o.2 (by omega))]; simp only [gS_1, gS_0, o_1, o_0, i10, i00, n10, n00, if_true, if_false, gp351, gp360, gp371])) | (have t := p318; rw [ckB_1 nb318.o, B318, gS_1, ckB2_13 p318.o]; simp only [gS_1, gS_0, o_1, o_0, i10, i00, n10, n00, if_true, if_false, gp351, gp360, gp371]) | (have t := q347; rw [ckB_1 nb347.o, B347, gS_1, ckB2_15 a347.o q347.o]; simp only [gS_1, gS_0, o_1, o_0, i10, i00, n10, n00, if_true, if_false, gp351, gp360, gp371]) | (rw [ckB_1 nb67.o]; simp only [gS_1, gS_0, o_1, o_0, i10, i00, n10, n00, if_true, if_false, gp351, gp360, gp371])), (by omega), (by first | (have t := b11; exact (fun _ => ⟨fun _ => by omega, fun q => absurd b11.o q⟩)) | (have t := k119; exact (fun _ => ⟨fun q => absurd q nb119.o, fun _ => ⟨_, B119, bes_10 k119 (by omega)⟩⟩)) | (have t := k186; exact (fun _ => ⟨fun q => absurd q nb186.o, fun _ => ⟨_, B186, bes_11 k186 (by omega)⟩⟩)) | (have t := a258; exact (fun _ => ⟨fun q => absurd q nb258.o, fun _ => ⟨_, B258, bes_12 n258.o m258.o a258.o (by omega)⟩⟩)) | (have t := p318; exact (fun _ => ⟨fun q => absurd q nb318.o, fun _ => ⟨_, B318, bes_13 p318.o (by omega)⟩⟩)) | (have t := q347; exact (fun z1 => ⟨fun q => absurd q nb347.o, fun _ => ⟨_, B347, bes_r a347.o q347.o (s371.o z1)⟩⟩)) | exact (fun q => absurd q (by omega)))⟩
set_option maxRecDepth 100000 in
theorem c311_gr_checkBe__p {S : sS} (hH : RI S) (hfr : NFR S) (hr : Xi S 876 7 ≤ 5130) (ha : 0 ≤ Xi S 890 1 ∧ Xi S 890 1 ≤ Xi S 876 7) (hls : LST S) (h0 : Xi S 890 1 = 0) (d : Nat) (fu : Nat) : ∀  (T42 : sS) (_ : RI T42) (_ : FR md_gr_checkBe__p S T42), (gSq (gLs (ty7 S) 0) (gBe (ty7 S)) = (1, Xi T42 890 1)) → (Hid (¬ bp7 (ty7 S) 0)) → (0 ≤ Xi T42 890 1 ∧ Xi T42 890 1 ≤ Xi S 876 7) → (Hid (¬ art7 (ty7 S (Xi T42 890 1)))) → Pl fu lay0 (d + 4) m_gr_checkBe 311 [(0, .ref 890)] [] T42 (Q_gr_checkBe__p S) := by
  have C318 := c318_gr_checkBe__p hH hfr hr ha hls h0 d  fu
  have C347 := c347_gr_checkBe__p hH hfr hr ha hls h0 d  fu
  have hF : FR md_gr_checkBe__p S S := FR.rf
  have w1 : -2147483648 ≤ Xi S 876 7 ∧ Xi S 876 7 ≤ 2147483647 := Xi_rgI
  have w2 : -2147483648 ≤ Xi S 890 1 ∧ Xi S 890 1 ≤ 2147483647 := Xi_rgI
  have w3 : -2147483648 ≤ Xi S 890 2 ∧ Xi S 890 2 ≤ 2147483647 := Xi_rgI
  intro T42 hHT42 hFT42 B311 nb311 w319 a311
  have w320 : Xi T42 876 7 = Xi S 876 7 := hFT42.x _ _ rfl
  have w321 : -2147483648 ≤ Xi T42 876 7 ∧ Xi T42 876 7 ≤ 2147483647 := Xi_rgI
  have w322 : -2147483648 ≤ Xi T42 890 1 ∧ Xi T42 890 1 ≤ 2147483647 := Xi_rgI
  have w323 : -2147483648 ≤ Xi T42 890 2 ∧ Xi T42 890 2 ≤ 2147483647 := Xi_rgI
  refine y_aload_n rfl rfl ?_
  refine y_callV rfl rfl rfl (t_gr_atPlace__p hHT42 _) ?_
  rintro _ _ ⟨rfl, z325, rfl, w325, w324⟩
  show Pl _ _ _ _ _ _ [iv z325] _ _
  have gb312 := w324
  rw [FRT hFT42 rfl rfl] at gb312
  clear w324
  have p312 : Hid ((z325 = 1 → pl7 (ty7 S (Xi T42 890 1))) ∧ (z325 = 0 → ¬ pl7 (ty7 S (Xi T42 890 1)))) := ⟨fun q => gb312.1 q, fun q => gb312.2 q⟩
  clear gb312
  refine y_if_eq rfl rfl (by unfold rg; omega) (fun w326 => ?_) (fun w327 => ?_)
  · exact Pl_weak (C347 T42 hHT42 hFT42  (B311) (nb311) (by omega) (a311) (p312.o.2 (by omega))) (by omega) (And.intro rfl (True.intro))
  · exact Pl_weak (C318 T42 hHT42 hFT42  (B311) (nb311) (by omega) (p312.o.1 (by omega))) (by omega) (And.intro rfl (True.intro))
set_option maxRecDepth 100000 in
theorem c251_gr_checkBe__p {S : sS} (hH : RI S) (hfr : NFR S) (hr : Xi S 876 7 ≤ 5130) (ha : 0 ≤ Xi S 890 1 ∧ Xi S 890 1 ≤ Xi S 876 7) (hls : LST S) (h0 : Xi S 890 1 = 0) (d : Nat) (fu : Nat) : ∀  (T43 : sS) (_ : RI T43) (_ : FR md_gr_checkBe__p S T43) (v1 : Int), (-2147483648 ≤ v1 ∧ v1 ≤ 2147483647) → (gSq (gLs (ty7 S) 0) (gBe (ty7 S)) = (1, Xi T43 890 1)) → (Hid (¬ bp7 (ty7 S) 0)) → (0 ≤ Xi T43 890 1 ∧ Xi T43 890 1 ≤ Xi S 876 7) → (ty7 S (Xi T43 890 1) = v1) → (Hid (¬ (ty7 S (Xi T43 890 1) = 0 ∧ ty7 S (Xi T43 890 1 + 1) = 18))) → (Hid (¬ (ty7 S (Xi T43 890 1) = 1 ∧ ty7 S (Xi T43 890 1 + 1) = 27))) → Pl fu lay0 (d + 4) m_gr_checkBe 251 [(0, .ref 890), (1, iv v1)] [] T43 (Q_gr_checkBe__p S) := by
  have C258 := c258_gr_checkBe__p hH hfr hr ha hls h0 d  fu
  have C311 := c311_gr_checkBe__p hH hfr hr ha hls h0 d  fu
  have hF : FR md_gr_checkBe__p S S := FR.rf
  have w1 : -2147483648 ≤ Xi S 876 7 ∧ Xi S 876 7 ≤ 2147483647 := Xi_rgI
  have w2 : -2147483648 ≤ Xi S 890 1 ∧ Xi S 890 1 ≤ 2147483647 := Xi_rgI
  have w3 : -2147483648 ≤ Xi S 890 2 ∧ Xi S 890 2 ≤ 2147483647 := Xi_rgI
  intro T43 hHT43 hFT43 v1 w328 B251 nb251 w329 k251 n251 m251
  have w330 : Xi T43 876 7 = Xi S 876 7 := hFT43.x _ _ rfl
  have w331 : -2147483648 ≤ Xi T43 876 7 ∧ Xi T43 876 7 ≤ 2147483647 := Xi_rgI
  have w332 : -2147483648 ≤ Xi T43 890 1 ∧ Xi T43 890 1 ≤ 2147483647 := Xi_rgI
  have w333 : -2147483648 ≤ Xi T43 890 2 ∧ Xi T43 890 2 ≤ 2147483647 := Xi_rgI
  refine y_iload_n rfl rfl ?_
  refine y_callS rfl rfl (by decide) rfl (t_rs_isArt__p hHT43 v1 ⟨by omega, by omega⟩ _) ?_
  rintro _ _ ⟨rfl, z336, rfl, w336, w334, w335⟩
  show Pl _ _ _ _ _ _ [iv z336] _ _
  refine y_if_eq rfl rfl (by unfold rg; omega) (fun w337 => ?_) (fun w338 => ?_)
  · exact Pl_weak (C311 T43 hHT43 hFT43  (B251) (nb251) (by omega) (by unfold Hid art7; omega)) (by omega) (And.intro rfl (True.intro))
  · exact Pl_weak (C258 T43 hHT43 hFT43  (B251) (nb251) (by omega) (by unfold Hid art7; omega) (n251) (m251)) (by omega) (And.intro rfl (True.intro))
set_option maxRecDepth 100000 in
theorem c175_gr_checkBe__p {S : sS} (hH : RI S) (hfr : NFR S) (hr : Xi S 876 7 ≤ 5130) (ha : 0 ≤ Xi S 890 1 ∧ Xi S 890 1 ≤ Xi S 876 7) (hls : LST S) (h0 : Xi S 890 1 = 0) (d : Nat) (fu : Nat) : ∀  (T44 : sS) (_ : RI T44) (_ : FR md_gr_checkBe__p S T44) (v1 : Int) (v2 : Int), (-2147483648 ≤ v1 ∧ v1 ≤ 2147483647) → (-2147483648 ≤ v2 ∧ v2 ≤ 2147483647) → (gSq (gLs (ty7 S) 0) (gBe (ty7 S)) = (1, Xi T44 890 1)) → (Hid (¬ bp7 (ty7 S) 0)) → (0 ≤ Xi T44 890 1 ∧ Xi T44 890 1 ≤ Xi S 876 7) → (ty7 S (Xi T44 890 1) = v1 ∧ ty7 S (Xi T44 890 1 + 1) = v2) → (Hid (¬ (ty7 S (Xi T44 890 1) = 0 ∧ ty7 S (Xi T44 890 1 + 1) = 18))) → Pl fu lay0 (d + 4) m_gr_checkBe 175 [(0, .ref 890), (1, iv v1), (2, iv v2)] [] T44 (Q_gr_checkBe__p S) := by
  have C186 := c186_gr_checkBe__p hH hfr hr ha hls h0 d  fu
  have C251 := c251_gr_checkBe__p hH hfr hr ha hls h0 d  fu
  have hF : FR md_gr_checkBe__p S S := FR.rf
  have w1 : -2147483648 ≤ Xi S 876 7 ∧ Xi S 876 7 ≤ 2147483647 := Xi_rgI
  have w2 : -2147483648 ≤ Xi S 890 1 ∧ Xi S 890 1 ≤ 2147483647 := Xi_rgI
  have w3 : -2147483648 ≤ Xi S 890 2 ∧ Xi S 890 2 ≤ 2147483647 := Xi_rgI
  intro T44 hHT44 hFT44 v1 v2 w339 w340 B175 nb175 w341 k175 n175
  have w342 : Xi T44 876 7 = Xi S 876 7 := hFT44.x _ _ rfl
  have w343 : -2147483648 ≤ Xi T44 876 7 ∧ Xi T44 876 7 ≤ 2147483647 := Xi_rgI
  have w344 : -2147483648 ≤ Xi T44 890 1 ∧ Xi T44 890 1 ≤ 2147483647 := Xi_rgI
  have w345 : -2147483648 ≤ Xi T44 890 2 ∧ Xi T44 890 2 ≤ 2147483647 := Xi_rgI
  refine y_iload_n rfl rfl ?_
  refine y_iconst rfl ?_
  refine y_icmp_ne rfl rfl (by unfold rg; omega) (by unfold rg; omega) (fun w346 => ?_) (fun w347 => ?_)
  · exact Pl_weak (C251 T44 hHT44 hFT44 (v1) (by omega) (B175) (nb175) (by omega) (by omega) (n175) (by unfold Hid; omega)) (by omega) (And.intro rfl (And.intro rfl (True.intro)))
  · refine y_iload_n rfl rfl ?_
    refine y_bipush rfl rfl ?_
    refine y_icmp_ne rfl rfl (by unfold rg; omega) (by unfold rg; omega) (fun w348 => ?_) (fun w349 => ?_)
    · exact Pl_weak (C251 T44 hHT44 hFT44 (v1) (by omega) (B175) (nb175) (by omega) (by omega) (n175) (by unfold Hid; omega)) (by omega) (And.intro rfl (And.intro rfl (True.intro)))
    · exact Pl_weak (C186 T44 hHT44 hFT44  (B175) (nb175) (by omega) (by omega)) (by omega) (And.intro rfl (True.intro))
set_option maxRecDepth 100000 in
theorem c83_gr_checkBe__p {S : sS} (hH : RI S) (hfr : NFR S) (hr : Xi S 876 7 ≤ 5130) (ha : 0 ≤ Xi S 890 1 ∧ Xi S 890 1 ≤ Xi S 876 7) (hls : LST S) (h0 : Xi S 890 1 = 0) (d : Nat) (fu : Nat) : ∀  (T45 : sS) (_ : RI T45) (_ : FR md_gr_checkBe__p S T45), (gSq (gLs (ty7 S) 0) (gBe (ty7 S)) = (1, Xi T45 890 1)) → (Hid (¬ bp7 (ty7 S) 0)) → (0 ≤ Xi T45 890 1 ∧ Xi T45 890 1 ≤ Xi S 876 7) → Pl fu lay0 (d + 4) m_gr_checkBe 83 [(0, .ref 890)] [] T45 (Q_gr_checkBe__p S) := by
  have C119 := c119_gr_checkBe__p hH hfr hr ha hls h0 d  fu
  have C175 := c175_gr_checkBe__p hH hfr hr ha hls h0 d  fu
  have hF : FR md_gr_checkBe__p S S := FR.rf
  have w1 : -2147483648 ≤ Xi S 876 7 ∧ Xi S 876 7 ≤ 2147483647 := Xi_rgI
  have w2 : -2147483648 ≤ Xi S 890 1 ∧ Xi S 890 1 ≤ 2147483647 := Xi_rgI
  have w3 : -2147483648 ≤ Xi S 890 2 ∧ Xi S 890 2 ≤ 2147483647 := Xi_rgI
  intro T45 hHT45 hFT45 B83 nb83 w350
  have w351 : Xi T45 876 7 = Xi S 876 7 := hFT45.x _ _ rfl
  have w352 : -2147483648 ≤ Xi T45 876 7 ∧ Xi T45 876 7 ≤ 2147483647 := Xi_rgI
  have w353 : -2147483648 ≤ Xi T45 890 1 ∧ Xi T45 890 1 ≤ 2147483647 := Xi_rgI
  have w354 : -2147483648 ≤ Xi T45 890 2 ∧ Xi T45 890 2 ≤ 2147483647 := Xi_rgI
  refine y_aload_n rfl rfl ?_
  refine y_gfr rfl rfl rfl rfl rfl (hHT45.r 890 0 876 rfl) ?_
  refine y_aload_n rfl rfl ?_
  refine y_gfi rfl rfl rfl rfl rfl ?_
  refine y_callV rfl rfl rfl (t_to_typeAt__p hHT45 (Xi T45 890 1) ⟨by omega, by omega⟩ _) ?_
  rintro _ _ ⟨rfl, z357, rfl, w357, w355, w356⟩
  show Pl _ _ _ _ _ _ [iv z357] _ _
  have gq91 := w355
  rw [FRT hFT45 rfl rfl] at gq91
  clear w355
  refine y_istore_n rfl rfl rfl ?_
  refine y_aload_n rfl rfl ?_
  refine y_gfr rfl rfl rfl rfl rfl (hHT45.r 890 0 876 rfl) ?_
  refine y_aload_n rfl rfl ?_
  refine y_gfi rfl rfl rfl rfl rfl ?_
  refine y_iconst rfl ?_
  refine y_iadd rfl ?_
  refine y_callV rfl rfl rfl (t_to_typeAt__p hHT45 ((Xi T45 890 1) + 1) ⟨by omega, by omega⟩ _) ?_
  rintro _ _ ⟨rfl, z360, rfl, w360, w358, w359⟩
  show Pl _ _ _ _ _ _ [iv z360] _ _
  have gq105 := w358
  rw [FRT hFT45 rfl rfl] at gq105
  clear w358
  refine y_istore_n rfl rfl rfl ?_
  refine y_iload_n rfl rfl ?_
  refine y_if_ne rfl rfl (by unfold rg; omega) (fun w361 => ?_) (fun w362 => ?_)
  · exact Pl_weak (C175 T45 hHT45 hFT45 (z357) (z360) (by omega) (by omega) (B83) (nb83) (by omega) (by omega) (by unfold Hid; omega)) (by omega) (And.intro rfl (And.intro rfl (And.intro rfl (True.intro))))
  · refine y_iload_n rfl rfl ?_
    refine y_bipush rfl rfl ?_
    refine y_icmp_ne rfl rfl (by unfold rg; omega) (by unfold rg; omega) (fun w363 => ?_) (fun w364 => ?_)
    · exact Pl_weak (C175 T45 hHT45 hFT45 (z357) (z360) (by omega) (by omega) (B83) (nb83) (by omega) (by omega) (by unfold Hid; omega)) (by omega) (And.intro rfl (And.intro rfl (And.intro rfl (True.intro))))
    · exact Pl_weak (C119 T45 hHT45 hFT45  (B83) (nb83) (by omega) (by omega)) (by omega) (And.intro rfl (True.intro))
set_option maxRecDepth 100000 in
theorem c67_gr_checkBe__p {S : sS} (hH : RI S) (hfr : NFR S) (hr : Xi S 876 7 ≤ 5130) (ha : 0 ≤ Xi S 890 1 ∧ Xi S 890 1 ≤ Xi S 876 7) (hls : LST S) (h0 : Xi S 890 1 = 0) (d : Nat) (fu : Nat) : (Hid (¬ bp7 (ty7 S) 0)) → Pl fu lay0 (d + 4) m_gr_checkBe 67 [(0, .ref 890)] [] S (Q_gr_checkBe__p S) := by
  have C83 := c83_gr_checkBe__p hH hfr hr ha hls h0 d  fu
  have hF : FR md_gr_checkBe__p S S := FR.rf
  have w1 : -2147483648 ≤ Xi S 876 7 ∧ Xi S 876 7 ≤ 2147483647 := Xi_rgI
  have w2 : -2147483648 ≤ Xi S 890 1 ∧ Xi S 890 1 ≤ 2147483647 := Xi_rgI
  have w3 : -2147483648 ≤ Xi S 890 2 ∧ Xi S 890 2 ≤ 2147483647 := Xi_rgI
  intro nb67
  refine y_aload_n rfl rfl ?_
  refine y_callV rfl rfl rfl (t_gr_takeList__p hH (by first | assumption | exact (NFR_FR hF rfl rfl (by assumption : NFR S))) (by first | assumption | omega) (by first | assumption | omega) _) ?_
  rintro _ T46 ⟨hHT46, w368, z367, rfl, w367, w365, w366⟩
  have hFT46 : FR md_gr_checkBe__p S T46 := FR.tr hF w368 rfl
  show Pl _ _ _ _ _ _ [iv z367] _ _
  have gp68 := w365
  try rw [show Xi S 890 1 = 0 by omega] at gp68
  clear w365
  refine y_if_eq rfl rfl (by unfold rg; omega) (fun w369 => ?_) (fun w370 => ?_)
  · rw [show z367 = 0 by omega] at gp68
    refine y_iconst rfl ?_
    refine y_ireturn rfl rfl ?_
    have w371 : Xi T46 876 7 = Xi S 876 7 := (show Xi T46 876 7 = Xi S 876 7 from w368.x _ _ rfl)
    have w372 : Xi T46 890 2 = Xi S 890 2 := (show Xi T46 890 2 = Xi S 890 2 from w368.x _ _ rfl)
    exact ⟨hHT46, hFT46, _, rfl, ⟨by omega, by omega⟩, (by  first | (have t := b11; rw [ckB_0 b11.o]; simp only [gS_1, gS_0, o_1, o_0, i10, i00, n10, n00, if_true, if_false, gp68]) | (have t := k119; rw [ckB_1 nb119.o, B119, gS_1, ckB2_10 k119]; simp only [gS_1, gS_0, o_1, o_0, i10, i00, n10, n00, if_true, if_false, gp68]) | (have t := k186; rw [ckB_1 nb186.o, B186, gS_1, ckB2_11 k186]; simp only [gS_1, gS_0, o_1, o_0, i10, i00, n10, n00, if_true, if_false, gp68]) | (have t := a258; rw [ckB_1 nb258.o, B258, gS_1, ckB2_12 n258.o m258.o a258.o]; simp only [gS_1, gS_0, o_1, o_0, i10, i00, n10, n00, if_true, if_false, gp68]; first | done | (rw [if_pos (p282.o.1 (by omega))]; simp only [gS_1, gS_0, o_1, o_0, i10, i00, n10, n00, if_true, if_false, gp68]) | (rw [if_neg (p282.o.2 (by omega))]; simp only [gS_1, gS_0, o_1, o_0, i10, i00, n10, n00, if_true, if_false, gp68])) | (have t := p318; rw [ckB_1 nb318.o, B318, gS_1, ckB2_13 p318.o]; simp only [gS_1, gS_0, o_1, o_0, i10, i00, n10, n00, if_true, if_false, gp68]) | (have t := q347; rw [ckB_1 nb347.o, B347, gS_1, ckB2_15 a347.o q347.o]; simp only [gS_1, gS_0, o_1, o_0, i10, i00, n10, n00, if_true, if_false, gp68]) | (rw [ckB_1 nb67.o]; simp only [gS_1, gS_0, o_1, o_0, i10, i00, n10, n00, if_true, if_false, gp68])), (by omega), (by first | (have t := b11; exact (fun _ => ⟨fun _ => by omega, fun q => absurd b11.o q⟩)) | (have t := k119; exact (fun _ => ⟨fun q => absurd q nb119.o, fun _ => ⟨_, B119, bes_10 k119 (by omega)⟩⟩)) | (have t := k186; exact (fun _ => ⟨fun q => absurd q nb186.o, fun _ => ⟨_, B186, bes_11 k186 (by omega)⟩⟩)) | (have t := a258; exact (fun _ => ⟨fun q => absurd q nb258.o, fun _ => ⟨_, B258, bes_12 n258.o m258.o a258.o (by omega)⟩⟩)) | (have t := p318; exact (fun _ => ⟨fun q => absurd q nb318.o, fun _ => ⟨_, B318, bes_13 p318.o (by omega)⟩⟩)) | (have t := q347; exact (fun z1 => ⟨fun q => absurd q nb347.o, fun _ => ⟨_, B347, bes_r a347.o q347.o (s371.o z1)⟩⟩)) | exact (fun q => absurd q (by omega)))⟩
  · rw [show z367 = 1 by omega] at gp68
    refine y_aload_n rfl rfl ?_
    have w373 : Xi T46 876 7 = Xi S 876 7 := (show Xi T46 876 7 = Xi S 876 7 from w368.x _ _ rfl)
    refine y_callV rfl rfl rfl (t_gr_takeBe__p hHT46 (by first | assumption | exact (NFR_FR hFT46 rfl rfl (by assumption : NFR S))) (by first | assumption | omega) (by first | assumption | omega) _) ?_
    rintro _ T47 ⟨hHT47, w378, z377, rfl, w377, w375, w376⟩
    have hFT47 : FR md_gr_checkBe__p S T47 := FR.tr hFT46 w378 rfl
    show Pl _ _ _ _ _ _ [iv z377] _ _
    have gp75 := w375
    rw [FRT hFT46 rfl rfl] at gp75
    clear w375
    refine y_if_ne rfl rfl (by unfold rg; omega) (fun w379 => ?_) (fun w380 => ?_)
    · rw [show z377 = 1 by omega] at gp75
      have w381 : Xi T47 876 7 = Xi S 876 7 := (show Xi T47 876 7 = Xi T46 876 7 from w378.x _ _ rfl).trans ((show Xi T46 876 7 = Xi S 876 7 from w368.x _ _ rfl))
      have w382 : Xi T47 890 2 = Xi S 890 2 := (show Xi T47 890 2 = Xi T46 890 2 from w378.x _ _ rfl).trans ((show Xi T46 890 2 = Xi S 890 2 from w368.x _ _ rfl))
      exact Pl_weak (C83 T47 hHT47 hFT47  (by simp only [gS_1, gS_0, o_1, o_0, i10, i00, n10, n00, if_true, if_false, gp68, gp75]) (nb67) (by omega)) (by omega) (And.intro rfl (True.intro))
    · rw [show z377 = 0 by omega] at gp75
      refine y_iconst rfl ?_
      refine y_ireturn rfl rfl ?_
      have w383 : Xi T47 876 7 = Xi S 876 7 := (show Xi T47 876 7 = Xi T46 876 7 from w378.x _ _ rfl).trans ((show Xi T46 876 7 = Xi S 876 7 from w368.x _ _ rfl))
      have w384 : Xi T47 890 2 = Xi S 890 2 := (show Xi T47 890 2 = Xi T46 890 2 from w378.x _ _ rfl).trans ((show Xi T46 890 2 = Xi S 890 2 from w368.x _ _ rfl))
      exact ⟨hHT47, hFT47, _, rfl, ⟨by omega, by omega⟩, (by  first | (have t := b11; rw [ckB_0 b11.o]; simp only [gS_1, gS_0, o_1, o_0, i10, i00, n10, n00, if_true, if_false, gp68, gp75]) | (have t := k119; rw [ckB_1 nb119.o, B119, gS_1, ckB2_10 k119]; simp only [gS_1, gS_0, o_1, o_0, i10, i00, n10, n00, if_true, if_false, gp68, gp75]) | (have t := k186; rw [ckB_1 nb186.o, B186, gS_1, ckB2_11 k186]; simp only [gS_1, gS_0, o_1, o_0, i10, i00, n10, n00, if_true, if_false, gp68, gp75]) | (have t := a258; rw [ckB_1 nb258.o, B258, gS_1, ckB2_12 n258.o m258.o a258.o]; simp only [gS_1, gS_0, o_1, o_0, i10, i00, n10, n00, if_true, if_false, gp68, gp75]; first | done | (rw [if_pos (p282.o.1 (by omega))]; simp only [gS_1, gS_0, o_1, o_0, i10, i00, n10, n00, if_true, if_false, gp68, gp75]) | (rw [if_neg (p282.o.2 (by omega))]; simp only [gS_1, gS_0, o_1, o_0, i10, i00, n10, n00, if_true, if_false, gp68, gp75])) | (have t := p318; rw [ckB_1 nb318.o, B318, gS_1, ckB2_13 p318.o]; simp only [gS_1, gS_0, o_1, o_0, i10, i00, n10, n00, if_true, if_false, gp68, gp75]) | (have t := q347; rw [ckB_1 nb347.o, B347, gS_1, ckB2_15 a347.o q347.o]; simp only [gS_1, gS_0, o_1, o_0, i10, i00, n10, n00, if_true, if_false, gp68, gp75]) | (rw [ckB_1 nb67.o]; simp only [gS_1, gS_0, o_1, o_0, i10, i00, n10, n00, if_true, if_false, gp68, gp75])), (by omega), (by first | (have t := b11; exact (fun _ => ⟨fun _ => by omega, fun q => absurd b11.o q⟩)) | (have t := k119; exact (fun _ => ⟨fun q => absurd q nb119.o, fun _ => ⟨_, B119, bes_10 k119 (by omega)⟩⟩)) | (have t := k186; exact (fun _ => ⟨fun q => absurd q nb186.o, fun _ => ⟨_, B186, bes_11 k186 (by omega)⟩⟩)) | (have t := a258; exact (fun _ => ⟨fun q => absurd q nb258.o, fun _ => ⟨_, B258, bes_12 n258.o m258.o a258.o (by omega)⟩⟩)) | (have t := p318; exact (fun _ => ⟨fun q => absurd q nb318.o, fun _ => ⟨_, B318, bes_13 p318.o (by omega)⟩⟩)) | (have t := q347; exact (fun z1 => ⟨fun q => absurd q nb347.o, fun _ => ⟨_, B347, bes_r a347.o q347.o (s371.o z1)⟩⟩)) | exact (fun q => absurd q (by omega)))⟩
set_option maxRecDepth 100000 in
theorem t_gr_checkBe__p {S : sS} (hH : RI S) (hfr : NFR S) (hr : Xi S 876 7 ≤ 5130) (ha : 0 ≤ Xi S 890 1 ∧ Xi S 890 1 ≤ Xi S 876 7) (hls : LST S) (h0 : Xi S 890 1 = 0) (d : Nat) : Mp lay0 (d + 5) m_gr_checkBe [.ref 890] S (Q_gr_checkBe__p S) := by
  refine Mp_R rfl rfl (fun fu => ?_)
  have C11 := c11_gr_checkBe__p hH hfr hr ha hls h0 d  fu
  have C119 := c119_gr_checkBe__p hH hfr hr ha hls h0 d  fu
  have C186 := c186_gr_checkBe__p hH hfr hr ha hls h0 d  fu
  have C258 := c258_gr_checkBe__p hH hfr hr ha hls h0 d  fu
  have C318 := c318_gr_checkBe__p hH hfr hr ha hls h0 d  fu
  have C347 := c347_gr_checkBe__p hH hfr hr ha hls h0 d  fu
  have C311 := c311_gr_checkBe__p hH hfr hr ha hls h0 d  fu
  have C251 := c251_gr_checkBe__p hH hfr hr ha hls h0 d  fu
  have C175 := c175_gr_checkBe__p hH hfr hr ha hls h0 d  fu
  have C83 := c83_gr_checkBe__p hH hfr hr ha hls h0 d  fu
  have C67 := c67_gr_checkBe__p hH hfr hr ha hls h0 d  fu
  have hF : FR md_gr_checkBe__p S S := FR.rf
  have w1 : -2147483648 ≤ Xi S 876 7 ∧ Xi S 876 7 ≤ 2147483647 := Xi_rgI
  have w2 : -2147483648 ≤ Xi S 890 1 ∧ Xi S 890 1 ≤ 2147483647 := Xi_rgI
  have w3 : -2147483648 ≤ Xi S 890 2 ∧ Xi S 890 2 ≤ 2147483647 := Xi_rgI
  refine y_aload_n rfl rfl ?_
  refine y_gfr rfl rfl rfl rfl rfl (hH.r 890 0 876 rfl) ?_
  refine y_iconst rfl ?_
  refine y_callV rfl rfl rfl (t_to_beginsProperty__p hH 0 ⟨by omega, by omega⟩ _) ?_
  rintro _ _ ⟨rfl, z387, rfl, w387, w385, w386⟩
  show Pl _ _ _ _ _ _ [iv z387] _ _
  have gb5 := w385
  try rw [show Xi S 890 1 = 0 by omega] at gb5
  clear w385
  refine y_if_eq rfl rfl (by unfold rg; omega) (fun w388 => ?_) (fun w389 => ?_)
  · exact Pl_weak (C67  (gb5.2 (by omega))) (by omega) (And.intro rfl (True.intro))
  · exact Pl_weak (C11  (gb5.1 (by omega))) (by omega) (And.intro rfl (True.intro))
end
