section
/-- 19: which of both is one -/
def ONR (S : sS) (T : Int → Int) : Prop := ∃ a b : Int, gSq (gN T 0) (gT T 21) = (1, a) ∧ gSq (gSq (gSq (gSq (gN T 0) (gT T 21)) (gHow T)) (gR T)) (gT T 11) = (1, b) ∧ (Xi S 904 79 ≠ 0 ↔ T a = 22) ∧ (Xi S 904 80 ≠ 0 ↔ T b = 22)
theorem onr_e {S U : sS} {T : Int → Int} (h : ONR S T) (a : Xi U 904 79 = Xi S 904 79) (b : Xi U 904 80 = Xi S 904 80) : ONR U T := by
  unfold ONR at h ⊢
  rw [a, b]
  exact h
def md_mo_others__p : List rec := [(904, 905, 8, 9), (904, 905, 65, 66), (904, 905, 66, 67), (904, 905, 69, 70), (904, 905, 70, 71), (904, 905, 79, 80), (904, 905, 80, 81), (950, 951, 0, 100000), (951, 952, 0, 100000)]
abbrev Q_mo_others__p (S : sS) (fs : Nat) (ns : Nat) (tells : Int) : pst := fun r S1 => RI S1 ∧ FR md_mo_others__p S S1 ∧ (r = none ∧ (gOo (tR S fs ns) (tells - 100) = cu S1 fs) ∧ (Xi S 904 69 ≤ Xi S1 904 69) ∧ (tells = 112 ∨ tells = 113 ∨ tells = 121 → JR S1 fs ns) ∧ ((tells = 112 → Xi S1 904 70 = 17) ∧ (tells = 113 → Xi S1 904 70 = 18) ∧ (tells = 121 → Xi S1 904 70 = 19) ∧ (tells ≠ 112 → tells ≠ 113 → tells ≠ 121 → Xi S1 904 70 = 20)) ∧ (Xi S1 904 65 = 0 → tells = 121 → ONR S1 (tR S fs ns)) ∧ (Xi S1 904 65 = 0 → Xi S 904 65 = 0 ∧ Xi S 904 8 ≤ Xi S1 904 8) ∧ (INR S1 fs ns))
set_option maxRecDepth 100000 in
theorem c168_mo_others__p {S : sS} (hH : RI S) (fs : Nat) (ns : Nat) (tells : Int) (htells : 0 ≤ tells ∧ tells ≤ 154) (hvl : VLR S fs ns) (hJR : JR S fs ns) (hb : Xi S 904 65 = 0) (h0 : Xi S 904 8 = fs) (d : Nat) (fu : Nat) : ∀ (n168 : Nat) (_ : n168 ≤ fu) (T1 : sS) (_ : RI T1) (_ : FR md_mo_others__p S T1) (v2 : Int) (v3 : Int), (-2147483648 ≤ v2 ∧ v2 ≤ 2147483647) → (-2147483648 ≤ v3 ∧ v3 ≤ 2147483647) → (v2 = Xi S 904 8) → (Xi T1 904 65 = 0) → (Xi T1 904 70 = 20) → (Xi T1 904 69 = Xi S 904 69) → (INR T1 fs ns) → ((fs : Int) ≤ Xi T1 904 8 ∧ Xi T1 904 8 ≤ fs + ns) → (tells ≠ 112) → (tells ≠ 113) → (tells ≠ 121) → (gLoF (tR S fs ns) 16 104 5000 0 = gLoF (tR S fs ns) 16 104 (5000 - (Xi T1 904 8 - fs - 0)).toNat (Xi T1 904 8 - fs)) → (tR S fs ns (Xi T1 904 8 - fs) = un7 v3 ∧ v3 = tr7 (un7 v3)) → ((100 ≤ v3 → un7 v3 = v3 - 100) ∧ (v3 < 100 → 100 ≤ un7 v3) ∧ (v3 = 3 → un7 v3 = 100) ∧ (v3 ≠ 3 → v3 = tr7 (un7 v3) → un7 v3 ≠ 100)) → ((v3 = 44 → un7 v3 = 104) ∧ (v3 ≠ 44 → v3 = tr7 (un7 v3) → un7 v3 ≠ 104)) → Pl n168 lay0 (d + 3) m_mo_others 168 [(0, .ref 904), (2, iv v2), (3, iv v3)] [] T1 (Q_mo_others__p S fs ns tells) := by
  have hF : FR md_mo_others__p S S := FR.rf
  have w1 : -2147483648 ≤ Xi S 904 65 ∧ Xi S 904 65 ≤ 2147483647 := Xi_rgI
  have w2 : -2147483648 ≤ Xi S 904 66 ∧ Xi S 904 66 ≤ 2147483647 := Xi_rgI
  have w3 : -2147483648 ≤ Xi S 904 69 ∧ Xi S 904 69 ≤ 2147483647 := Xi_rgI
  have w4 : -2147483648 ≤ Xi S 904 70 ∧ Xi S 904 70 ≤ 2147483647 := Xi_rgI
  have w5 : -2147483648 ≤ Xi S 904 79 ∧ Xi S 904 79 ≤ 2147483647 := Xi_rgI
  have w6 : -2147483648 ≤ Xi S 904 8 ∧ Xi S 904 8 ≤ 2147483647 := Xi_rgI
  have w7 : -2147483648 ≤ Xi S 904 80 ∧ Xi S 904 80 ≤ 2147483647 := Xi_rgI
  have w8 : -2147483648 ≤ Xi S 904 93 ∧ Xi S 904 93 ≤ 2147483647 := Xi_rgI
  have : Xi S 904 65 = 0 → (fs : Int) ≤ Xi S 904 8 ∧ Xi S 904 8 ≤ fs + ns := JR.i (by assumption)
  have hbd := hvl.2.2.2
  intro n168
  induction n168 with
  | zero => intros; exact Pl_0
  | succ n168 ih168 =>
    intro hm168 T1 hHT1 hFT1 v2 v3 w9 w10 w11 w12 w13 w14 I168 i168 w15 w16 w17 o168 q168 u168 w168
    have w18 : -2147483648 ≤ Xi T1 904 65 ∧ Xi T1 904 65 ≤ 2147483647 := Xi_rgI
    have w19 : -2147483648 ≤ Xi T1 904 66 ∧ Xi T1 904 66 ≤ 2147483647 := Xi_rgI
    have w20 : -2147483648 ≤ Xi T1 904 69 ∧ Xi T1 904 69 ≤ 2147483647 := Xi_rgI
    have w21 : -2147483648 ≤ Xi T1 904 70 ∧ Xi T1 904 70 ≤ 2147483647 := Xi_rgI
    have w22 : -2147483648 ≤ Xi T1 904 79 ∧ Xi T1 904 79 ≤ 2147483647 := Xi_rgI
    have w23 : -2147483648 ≤ Xi T1 904 8 ∧ Xi T1 904 8 ≤ 2147483647 := Xi_rgI
    have w24 : -2147483648 ≤ Xi T1 904 80 ∧ Xi T1 904 80 ≤ 2147483647 := Xi_rgI
    have w25 : -2147483648 ≤ Xi T1 904 93 ∧ Xi T1 904 93 ≤ 2147483647 := Xi_rgI
    refine ys_iload_n rfl rfl ?_
    refine y_iconst rfl ?_
    refine y_icmp_eq rfl rfl (by unfold rg; omega) (by unfold rg; omega) (fun w26 => ?_) (fun w27 => ?_)
    · refine y_aload_n rfl rfl ?_
      refine y_dup rfl rfl ?_
      refine y_gfi rfl rfl rfl rfl rfl ?_
      refine y_iconst rfl ?_
      refine y_iadd rfl ?_
      refine y_pfi rfl rfl rfl rfl ?_
      obtain ⟨U2, eU2⟩ : ∃ T : sS, T = uI T1 904 8 (Int32.ofInt ((Xi T1 904 8) + 1)) := ⟨_, rfl⟩
      rw [← eU2]
      have hHU2 : RI U2 := by rw [eU2]; exact RI_w hHT1
      have hFU2 : FR md_mo_others__p S U2 := by rw [eU2]; exact FR.wI hFT1 (mdf_i (r := (904, 905, 8, 9)) (List.mem_of_getElem? (i := 0) rfl) (inR_i (by omega) (by omega) (by omega) (by omega)))
      have w28 : Xi U2 904 8 = ((Xi T1 904 8) + 1) := by rw [eU2]; exact Xi_same (by unfold rg; omega)
      have I199 : INR U2 fs ns := fun b => (by have q := in_u2 hvl (a := Xi T1 904 8) (by omega) (by omega) (by omega) (by omega); omega)
      refine y_aload_n rfl rfl ?_
      have w29 : Xi U2 904 65 = Xi T1 904 65 := (show Xi U2 904 65 = Xi T1 904 65 from by rw [eU2]; exact Xi_ne (by omega))
      refine y_callV rfl rfl rfl (t_mo_look__p hHU2 fs ns (by first | assumption | exact (VLR_FR hFU2 rfl (by assumption : VLR S _ _))) (by first | assumption | exact JR.i (by first | assumption | exact (by assumption : JR U2 _ _))) _) ?_
      rintro _ _ ⟨rfl, z37, rfl, w37, w36⟩
      show Pl _ _ _ _ _ _ [iv z37] _ _
      have := un_ab z37
      have gb203 := w36
      try rw [FRR hFU2 rfl] at gb203
      clear w36
      refine y_istore_n rfl rfl rfl ?_
      refine y_goto rfl rfl ?_
      have w39 : Xi U2 904 66 = Xi T1 904 66 := (show Xi U2 904 66 = Xi T1 904 66 from by rw [eU2]; exact Xi_ne (by omega))
      have w40 : Xi U2 904 69 = Xi T1 904 69 := (show Xi U2 904 69 = Xi T1 904 69 from by rw [eU2]; exact Xi_ne (by omega))
      have w41 : Xi U2 904 70 = Xi T1 904 70 := (show Xi U2 904 70 = Xi T1 904 70 from by rw [eU2]; exact Xi_ne (by omega))
      have w42 : Xi U2 904 79 = Xi T1 904 79 := (show Xi U2 904 79 = Xi T1 904 79 from by rw [eU2]; exact Xi_ne (by omega))
      have w43 : Xi U2 904 80 = Xi T1 904 80 := (show Xi U2 904 80 = Xi T1 904 80 from by rw [eU2]; exact Xi_ne (by omega))
      have w44 : Xi U2 904 93 = Xi T1 904 93 := (show Xi U2 904 93 = Xi T1 904 93 from by rw [eU2]; exact Xi_ne (by omega))
      exact Pl_weak (ih168 (by omega) U2 hHU2 hFU2 (v2) (z37) (by omega) (by omega) (by omega) (by omega) (by omega) (by omega) (by first | exact I199 | exact JR.i (by first | assumption | exact (by assumption : JR U2 _ _))) (by first | exact I199 (by omega) | omega) (by omega) (by omega) (by omega) (by first | (have q199 := I199 (by omega); rw [show Xi U2 904 8 - (fs : Int) = Xi T1 904 8 - fs + 1 by omega]; exact o168.trans (lo_s (by omega) (by omega) (by unfold art7; omega))) | (rw [show Xi U2 904 8 - (fs : Int) = 0 by omega]; exact lo_0)) (by first | exact gb203.1 (by omega) | (rw [show Xi U2 904 8 = Xi S 904 8 by omega]; exact gb164.1 (by omega))) (un_a4 _) (un_44 _)) (by omega) (And.intro rfl (And.intro rfl (And.intro rfl (True.intro))))
    · refine y_iload_n rfl rfl ?_
      refine y_callS rfl rfl (by decide) rfl (t_mo_isArt__p hHT1 v3 ⟨by omega, by omega⟩ _) ?_
      rintro _ _ ⟨rfl, z47, rfl, w47, w45, w46⟩
      show Pl _ _ _ _ _ _ [iv z47] _ _
      refine y_if_ne rfl rfl (by unfold rg; omega) (fun w48 => ?_) (fun w49 => ?_)
      · refine y_aload_n rfl rfl ?_
        refine y_dup rfl rfl ?_
        refine y_gfi rfl rfl rfl rfl rfl ?_
        refine y_iconst rfl ?_
        refine y_iadd rfl ?_
        refine y_pfi rfl rfl rfl rfl ?_
        obtain ⟨U3, eU3⟩ : ∃ T : sS, T = uI T1 904 8 (Int32.ofInt ((Xi T1 904 8) + 1)) := ⟨_, rfl⟩
        rw [← eU3]
        have hHU3 : RI U3 := by rw [eU3]; exact RI_w hHT1
        have hFU3 : FR md_mo_others__p S U3 := by rw [eU3]; exact FR.wI hFT1 (mdf_i (r := (904, 905, 8, 9)) (List.mem_of_getElem? (i := 0) rfl) (inR_i (by omega) (by omega) (by omega) (by omega)))
        have w50 : Xi U3 904 8 = ((Xi T1 904 8) + 1) := by rw [eU3]; exact Xi_same (by unfold rg; omega)
        have I199 : INR U3 fs ns := fun b => (by have q := in_u2 hvl (a := Xi T1 904 8) (by omega) (by omega) (by omega) (by omega); omega)
        refine y_aload_n rfl rfl ?_
        have w51 : Xi U3 904 65 = Xi T1 904 65 := (show Xi U3 904 65 = Xi T1 904 65 from by rw [eU3]; exact Xi_ne (by omega))
        refine y_callV rfl rfl rfl (t_mo_look__p hHU3 fs ns (by first | assumption | exact (VLR_FR hFU3 rfl (by assumption : VLR S _ _))) (by first | assumption | exact JR.i (by first | assumption | exact (by assumption : JR U3 _ _))) _) ?_
        rintro _ _ ⟨rfl, z59, rfl, w59, w58⟩
        show Pl _ _ _ _ _ _ [iv z59] _ _
        have := un_ab z59
        have gb203 := w58
        try rw [FRR hFU3 rfl] at gb203
        clear w58
        refine y_istore_n rfl rfl rfl ?_
        refine y_goto rfl rfl ?_
        have w61 : Xi U3 904 66 = Xi T1 904 66 := (show Xi U3 904 66 = Xi T1 904 66 from by rw [eU3]; exact Xi_ne (by omega))
        have w62 : Xi U3 904 69 = Xi T1 904 69 := (show Xi U3 904 69 = Xi T1 904 69 from by rw [eU3]; exact Xi_ne (by omega))
        have w63 : Xi U3 904 70 = Xi T1 904 70 := (show Xi U3 904 70 = Xi T1 904 70 from by rw [eU3]; exact Xi_ne (by omega))
        have w64 : Xi U3 904 79 = Xi T1 904 79 := (show Xi U3 904 79 = Xi T1 904 79 from by rw [eU3]; exact Xi_ne (by omega))
        have w65 : Xi U3 904 80 = Xi T1 904 80 := (show Xi U3 904 80 = Xi T1 904 80 from by rw [eU3]; exact Xi_ne (by omega))
        have w66 : Xi U3 904 93 = Xi T1 904 93 := (show Xi U3 904 93 = Xi T1 904 93 from by rw [eU3]; exact Xi_ne (by omega))
        exact Pl_weak (ih168 (by omega) U3 hHU3 hFU3 (v2) (z59) (by omega) (by omega) (by omega) (by omega) (by omega) (by omega) (by first | exact I199 | exact JR.i (by first | assumption | exact (by assumption : JR U3 _ _))) (by first | exact I199 (by omega) | omega) (by omega) (by omega) (by omega) (by first | (have q199 := I199 (by omega); rw [show Xi U3 904 8 - (fs : Int) = Xi T1 904 8 - fs + 1 by omega]; exact o168.trans (lo_s (by omega) (by omega) (by unfold art7; omega))) | (rw [show Xi U3 904 8 - (fs : Int) = 0 by omega]; exact lo_0)) (by first | exact gb203.1 (by omega) | (rw [show Xi U3 904 8 = Xi S 904 8 by omega]; exact gb164.1 (by omega))) (un_a4 _) (un_44 _)) (by omega) (And.intro rfl (And.intro rfl (And.intro rfl (True.intro))))
      · refine y_iload_n rfl rfl ?_
        refine y_bipush rfl rfl ?_
        refine y_icmp_eq rfl rfl (by unfold rg; omega) (by unfold rg; omega) (fun w67 => ?_) (fun w68 => ?_)
        · refine y_aload_n rfl rfl ?_
          refine y_dup rfl rfl ?_
          refine y_gfi rfl rfl rfl rfl rfl ?_
          refine y_iconst rfl ?_
          refine y_iadd rfl ?_
          refine y_pfi rfl rfl rfl rfl ?_
          obtain ⟨U4, eU4⟩ : ∃ T : sS, T = uI T1 904 8 (Int32.ofInt ((Xi T1 904 8) + 1)) := ⟨_, rfl⟩
          rw [← eU4]
          have hHU4 : RI U4 := by rw [eU4]; exact RI_w hHT1
          have hFU4 : FR md_mo_others__p S U4 := by rw [eU4]; exact FR.wI hFT1 (mdf_i (r := (904, 905, 8, 9)) (List.mem_of_getElem? (i := 0) rfl) (inR_i (by omega) (by omega) (by omega) (by omega)))
          have w69 : Xi U4 904 8 = ((Xi T1 904 8) + 1) := by rw [eU4]; exact Xi_same (by unfold rg; omega)
          have I199 : INR U4 fs ns := fun b => (by have q := in_u2 hvl (a := Xi T1 904 8) (by omega) (by omega) (by omega) (by omega); omega)
          refine y_aload_n rfl rfl ?_
          have w70 : Xi U4 904 65 = Xi T1 904 65 := (show Xi U4 904 65 = Xi T1 904 65 from by rw [eU4]; exact Xi_ne (by omega))
          refine y_callV rfl rfl rfl (t_mo_look__p hHU4 fs ns (by first | assumption | exact (VLR_FR hFU4 rfl (by assumption : VLR S _ _))) (by first | assumption | exact JR.i (by first | assumption | exact (by assumption : JR U4 _ _))) _) ?_
          rintro _ _ ⟨rfl, z78, rfl, w78, w77⟩
          show Pl _ _ _ _ _ _ [iv z78] _ _
          have := un_ab z78
          have gb203 := w77
          try rw [FRR hFU4 rfl] at gb203
          clear w77
          refine y_istore_n rfl rfl rfl ?_
          refine y_goto rfl rfl ?_
          have w80 : Xi U4 904 66 = Xi T1 904 66 := (show Xi U4 904 66 = Xi T1 904 66 from by rw [eU4]; exact Xi_ne (by omega))
          have w81 : Xi U4 904 69 = Xi T1 904 69 := (show Xi U4 904 69 = Xi T1 904 69 from by rw [eU4]; exact Xi_ne (by omega))
          have w82 : Xi U4 904 70 = Xi T1 904 70 := (show Xi U4 904 70 = Xi T1 904 70 from by rw [eU4]; exact Xi_ne (by omega))
          have w83 : Xi U4 904 79 = Xi T1 904 79 := (show Xi U4 904 79 = Xi T1 904 79 from by rw [eU4]; exact Xi_ne (by omega))
          have w84 : Xi U4 904 80 = Xi T1 904 80 := (show Xi U4 904 80 = Xi T1 904 80 from by rw [eU4]; exact Xi_ne (by omega))
          have w85 : Xi U4 904 93 = Xi T1 904 93 := (show Xi U4 904 93 = Xi T1 904 93 from by rw [eU4]; exact Xi_ne (by omega))
          exact Pl_weak (ih168 (by omega) U4 hHU4 hFU4 (v2) (z78) (by omega) (by omega) (by omega) (by omega) (by omega) (by omega) (by first | exact I199 | exact JR.i (by first | assumption | exact (by assumption : JR U4 _ _))) (by first | exact I199 (by omega) | omega) (by omega) (by omega) (by omega) (by first | (have q199 := I199 (by omega); rw [show Xi U4 904 8 - (fs : Int) = Xi T1 904 8 - fs + 1 by omega]; exact o168.trans (lo_s (by omega) (by omega) (by unfold art7; omega))) | (rw [show Xi U4 904 8 - (fs : Int) = 0 by omega]; exact lo_0)) (by first | exact gb203.1 (by omega) | (rw [show Xi U4 904 8 = Xi S 904 8 by omega]; exact gb164.1 (by omega))) (un_a4 _) (un_44 _)) (by omega) (And.intro rfl (And.intro rfl (And.intro rfl (True.intro))))
        · refine y_iload_n rfl rfl ?_
          refine y_bipush rfl rfl ?_
          refine y_icmp_ne rfl rfl (by unfold rg; omega) (by unfold rg; omega) (fun w86 => ?_) (fun w87 => ?_)
          · refine y_aload_n rfl rfl ?_
            refine y_gfi rfl rfl rfl rfl rfl ?_
            refine y_iload_n rfl rfl ?_
            refine y_icmp_ne rfl rfl (by unfold rg; omega) (by unfold rg; omega) (fun w88 => ?_) (fun w89 => ?_)
            · refine y_return rfl rfl ?_
              exact ⟨hHT1, hFT1, rfl, (by first | (unfold gOo; rw [if_pos (by omega), cu_go gp13 (by omega) (by omega), gp20, gp24, gp28, gp35, gp39]) | (unfold gOo; rw [if_neg (by omega), if_pos (by omega), cu_go gp59 (by omega) (by omega), gp66, gp72, gp76, gp83, gp87]) | (unfold gOo; rw [if_neg (by omega), if_neg (by omega), if_pos (by omega), cu_go gp107 (by omega) (by omega), gp114, gp119, gp126, gp133, gp138, gp145]) | (rw [gOo_20 (by omega) (by omega) (by omega), gLo_of ((o168).trans (lo_n (Or.inr (by unfold art7; omega))))]; first | (rw [if_pos (by omega)]; exact cu_1 (by omega) (by omega)) | (rw [if_neg (by omega)]; refine Eq.trans ?_ gp219.symm; first | (rw [cu_ok (by omega)]; done) | (rw [cu_ok (by omega)]; exact pe rfl (by omega))))), (by omega), (by first | exact (fun q => by exfalso; omega) | exact (fun _ => by first | assumption | exact (by assumption : JR T1 _ _))), (by omega), (by first | (have t := gp145; exact (fun b _ => ⟨Xi nomark 904 8 - fs, Xi nomark 904 8 - fs, g114.trans (cu_ok (by omega)), g133.trans (cu_ok (by omega)), by have u := q119.o (by omega); omega, by have u := q138.o (by omega); omega⟩)) | exact (fun _ q => absurd q (by omega))), (by omega), (fun b => by omega)⟩
            · refine y_aload_n rfl rfl ?_
              refine y_callV rfl rfl rfl (t_mo_odd__p hHT1 fs ns _) ?_
              rintro _ T5 ⟨hHT5, w94, rfl, w90, w91, w92⟩
              have hFT5 : FR md_mo_others__p S T5 := FR.tr hFT1 w94 rfl
              show Pl _ _ _ _ _ _ [] _ _
              have gp219 := w90
              try rw [FRR hFT1 rfl] at gp219
              clear w90
              refine y_return rfl rfl ?_
              have w95 : Xi T5 904 69 = Xi T1 904 69 := (show Xi T5 904 69 = Xi T1 904 69 from w94.x _ _ rfl)
              have w96 : Xi T5 904 70 = Xi T1 904 70 := (show Xi T5 904 70 = Xi T1 904 70 from w94.x _ _ rfl)
              have w97 : Xi T5 904 79 = Xi T1 904 79 := (show Xi T5 904 79 = Xi T1 904 79 from w94.x _ _ rfl)
              have w98 : Xi T5 904 8 = Xi T1 904 8 := (show Xi T5 904 8 = Xi T1 904 8 from w94.x _ _ rfl)
              have w99 : Xi T5 904 80 = Xi T1 904 80 := (show Xi T5 904 80 = Xi T1 904 80 from w94.x _ _ rfl)
              have w100 : Xi T5 904 93 = Xi T1 904 93 := (show Xi T5 904 93 = Xi T1 904 93 from w94.x _ _ rfl)
              exact ⟨hHT5, hFT5, rfl, (by first | (unfold gOo; rw [if_pos (by omega), cu_go gp13 (by omega) (by omega), gp20, gp24, gp28, gp35, gp39]) | (unfold gOo; rw [if_neg (by omega), if_pos (by omega), cu_go gp59 (by omega) (by omega), gp66, gp72, gp76, gp83, gp87]) | (unfold gOo; rw [if_neg (by omega), if_neg (by omega), if_pos (by omega), cu_go gp107 (by omega) (by omega), gp114, gp119, gp126, gp133, gp138, gp145]) | (rw [gOo_20 (by omega) (by omega) (by omega), gLo_of ((o168).trans (lo_n (Or.inr (by unfold art7; omega))))]; first | (rw [if_pos (by omega)]; exact cu_1 (by omega) (by omega)) | (rw [if_neg (by omega)]; refine Eq.trans ?_ gp219.symm; first | (rw [cu_ok (by omega)]; done) | (rw [cu_ok (by omega)]; exact pe rfl (by omega))))), (by omega), (by first | exact (fun q => by exfalso; omega) | exact (fun _ => by first | assumption | exact (by assumption : JR T5 _ _))), (by omega), (by first | (have t := gp145; exact (fun b _ => ⟨Xi nomark 904 8 - fs, Xi nomark 904 8 - fs, g114.trans (cu_ok (by omega)), g133.trans (cu_ok (by omega)), by have u := q119.o (by omega); omega, by have u := q138.o (by omega); omega⟩)) | exact (fun _ q => absurd q (by omega))), (by omega), (fun b => by omega)⟩
          · refine y_aload_n rfl rfl ?_
            refine y_dup rfl rfl ?_
            refine y_gfi rfl rfl rfl rfl rfl ?_
            refine y_iconst rfl ?_
            refine y_iadd rfl ?_
            refine y_pfi rfl rfl rfl rfl ?_
            obtain ⟨U6, eU6⟩ : ∃ T : sS, T = uI T1 904 8 (Int32.ofInt ((Xi T1 904 8) + 1)) := ⟨_, rfl⟩
            rw [← eU6]
            have hHU6 : RI U6 := by rw [eU6]; exact RI_w hHT1
            have hFU6 : FR md_mo_others__p S U6 := by rw [eU6]; exact FR.wI hFT1 (mdf_i (r := (904, 905, 8, 9)) (List.mem_of_getElem? (i := 0) rfl) (inR_i (by omega) (by omega) (by omega) (by omega)))
            have w101 : Xi U6 904 8 = ((Xi T1 904 8) + 1) := by rw [eU6]; exact Xi_same (by unfold rg; omega)
            have I199 : INR U6 fs ns := fun b => (by have q := in_u2 hvl (a := Xi T1 904 8) (by omega) (by omega) (by omega) (by omega); omega)
            refine y_aload_n rfl rfl ?_
            have w102 : Xi U6 904 65 = Xi T1 904 65 := (show Xi U6 904 65 = Xi T1 904 65 from by rw [eU6]; exact Xi_ne (by omega))
            refine y_callV rfl rfl rfl (t_mo_look__p hHU6 fs ns (by first | assumption | exact (VLR_FR hFU6 rfl (by assumption : VLR S _ _))) (by first | assumption | exact JR.i (by first | assumption | exact (by assumption : JR U6 _ _))) _) ?_
            rintro _ _ ⟨rfl, z110, rfl, w110, w109⟩
            show Pl _ _ _ _ _ _ [iv z110] _ _
            have := un_ab z110
            have gb203 := w109
            try rw [FRR hFU6 rfl] at gb203
            clear w109
            refine y_istore_n rfl rfl rfl ?_
            refine y_goto rfl rfl ?_
            have w112 : Xi U6 904 66 = Xi T1 904 66 := (show Xi U6 904 66 = Xi T1 904 66 from by rw [eU6]; exact Xi_ne (by omega))
            have w113 : Xi U6 904 69 = Xi T1 904 69 := (show Xi U6 904 69 = Xi T1 904 69 from by rw [eU6]; exact Xi_ne (by omega))
            have w114 : Xi U6 904 70 = Xi T1 904 70 := (show Xi U6 904 70 = Xi T1 904 70 from by rw [eU6]; exact Xi_ne (by omega))
            have w115 : Xi U6 904 79 = Xi T1 904 79 := (show Xi U6 904 79 = Xi T1 904 79 from by rw [eU6]; exact Xi_ne (by omega))
            have w116 : Xi U6 904 80 = Xi T1 904 80 := (show Xi U6 904 80 = Xi T1 904 80 from by rw [eU6]; exact Xi_ne (by omega))
            have w117 : Xi U6 904 93 = Xi T1 904 93 := (show Xi U6 904 93 = Xi T1 904 93 from by rw [eU6]; exact Xi_ne (by omega))
            exact Pl_weak (ih168 (by omega) U6 hHU6 hFU6 (v2) (z110) (by omega) (by omega) (by omega) (by omega) (by omega) (by omega) (by first | exact I199 | exact JR.i (by first | assumption | exact (by assumption : JR U6 _ _))) (by first | exact I199 (by omega) | omega) (by omega) (by omega) (by omega) (by first | (have q199 := I199 (by omega); rw [show Xi U6 904 8 - (fs : Int) = Xi T1 904 8 - fs + 1 by omega]; exact o168.trans (lo_s (by omega) (by omega) (by unfold art7; omega))) | (rw [show Xi U6 904 8 - (fs : Int) = 0 by omega]; exact lo_0)) (by first | exact gb203.1 (by omega) | (rw [show Xi U6 904 8 = Xi S 904 8 by omega]; exact gb164.1 (by omega))) (un_a4 _) (un_44 _)) (by omega) (And.intro rfl (And.intro rfl (And.intro rfl (True.intro))))
set_option maxRecDepth 100000 in
theorem t_mo_others__p {S : sS} (hH : RI S) (fs : Nat) (ns : Nat) (tells : Int) (htells : 0 ≤ tells ∧ tells ≤ 154) (hvl : VLR S fs ns) (hJR : JR S fs ns) (hb : Xi S 904 65 = 0) (h0 : Xi S 904 8 = fs) (d : Nat) : Mp lay0 (d + 4) m_mo_others [.ref 904, iv tells] S (Q_mo_others__p S fs ns tells) := by
  refine Mp_R rfl rfl (fun fu => ?_)
  have C168 := c168_mo_others__p hH fs ns tells htells hvl hJR hb h0 d  fu
  have hF : FR md_mo_others__p S S := FR.rf
  have w1 : -2147483648 ≤ Xi S 904 65 ∧ Xi S 904 65 ≤ 2147483647 := Xi_rgI
  have w2 : -2147483648 ≤ Xi S 904 66 ∧ Xi S 904 66 ≤ 2147483647 := Xi_rgI
  have w3 : -2147483648 ≤ Xi S 904 69 ∧ Xi S 904 69 ≤ 2147483647 := Xi_rgI
  have w4 : -2147483648 ≤ Xi S 904 70 ∧ Xi S 904 70 ≤ 2147483647 := Xi_rgI
  have w5 : -2147483648 ≤ Xi S 904 79 ∧ Xi S 904 79 ≤ 2147483647 := Xi_rgI
  have w6 : -2147483648 ≤ Xi S 904 8 ∧ Xi S 904 8 ≤ 2147483647 := Xi_rgI
  have w7 : -2147483648 ≤ Xi S 904 80 ∧ Xi S 904 80 ≤ 2147483647 := Xi_rgI
  have w8 : -2147483648 ≤ Xi S 904 93 ∧ Xi S 904 93 ≤ 2147483647 := Xi_rgI
  have : Xi S 904 65 = 0 → (fs : Int) ≤ Xi S 904 8 ∧ Xi S 904 8 ≤ fs + ns := JR.i (by assumption)
  have hbd := hvl.2.2.2
  refine y_iload_n rfl rfl ?_
  refine y_bipush rfl rfl ?_
  refine y_icmp_ne rfl rfl (by unfold rg; omega) (by unfold rg; omega) (fun w118 => ?_) (fun w119 => ?_)
  · refine y_iload_n rfl rfl ?_
    refine y_bipush rfl rfl ?_
    refine y_icmp_ne rfl rfl (by unfold rg; omega) (by unfold rg; omega) (fun w120 => ?_) (fun w121 => ?_)
    · refine y_iload_n rfl rfl ?_
      refine y_bipush rfl rfl ?_
      refine y_icmp_ne rfl rfl (by unfold rg; omega) (by unfold rg; omega) (fun w122 => ?_) (fun w123 => ?_)
      · refine y_aload_n rfl rfl ?_
        refine y_bipush rfl rfl ?_
        refine y_pfi rfl rfl rfl rfl ?_
        obtain ⟨U7, eU7⟩ : ∃ T : sS, T = uI S 904 70 (Int32.ofInt 20) := ⟨_, rfl⟩
        rw [← eU7]
        have hHU7 : RI U7 := by rw [eU7]; exact RI_w hH
        have hFU7 : FR md_mo_others__p S U7 := by rw [eU7]; exact FR.wI hF (mdf_i (r := (904, 905, 70, 71)) (List.mem_of_getElem? (i := 4) rfl) (inR_i (by omega) (by omega) (by omega) (by omega)))
        have w124 : Xi U7 904 70 = 20 := by rw [eU7]; exact Xi_same (by unfold rg; omega)
        refine y_aload_n rfl rfl ?_
        refine y_gfi rfl rfl rfl rfl rfl ?_
        have w125 : (Xi U7 904 8) = (Xi S 904 8) := (show Xi U7 904 8 = Xi S 904 8 from by rw [eU7]; exact Xi_ne (by omega))
        rw [w125]
        refine y_istore_n rfl rfl rfl ?_
        refine y_aload_n rfl rfl ?_
        have w126 : Xi U7 904 65 = Xi S 904 65 := (show Xi U7 904 65 = Xi S 904 65 from by rw [eU7]; exact Xi_ne (by omega))
        have w127 : Xi U7 904 66 = Xi S 904 66 := (show Xi U7 904 66 = Xi S 904 66 from by rw [eU7]; exact Xi_ne (by omega))
        have w128 : Xi U7 904 69 = Xi S 904 69 := (show Xi U7 904 69 = Xi S 904 69 from by rw [eU7]; exact Xi_ne (by omega))
        have w129 : Xi U7 904 79 = Xi S 904 79 := (show Xi U7 904 79 = Xi S 904 79 from by rw [eU7]; exact Xi_ne (by omega))
        have w130 : Xi U7 904 8 = Xi S 904 8 := (show Xi U7 904 8 = Xi S 904 8 from by rw [eU7]; exact Xi_ne (by omega))
        have w131 : Xi U7 904 80 = Xi S 904 80 := (show Xi U7 904 80 = Xi S 904 80 from by rw [eU7]; exact Xi_ne (by omega))
        have w132 : Xi U7 904 93 = Xi S 904 93 := (show Xi U7 904 93 = Xi S 904 93 from by rw [eU7]; exact Xi_ne (by omega))
        refine y_callV rfl rfl rfl (t_mo_look__p hHU7 fs ns (by first | assumption | exact (VLR_FR hFU7 rfl (by assumption : VLR S _ _))) (by first | assumption | exact JR.i (by first | assumption | exact (JR_FR (FR_e eU7) rfl rfl rfl (by assumption : JR S _ _)))) _) ?_
        rintro _ _ ⟨rfl, z134, rfl, w134, w133⟩
        show Pl _ _ _ _ _ _ [iv z134] _ _
        have := un_ab z134
        have gb164 := w133
        try rw [FRR hFU7 rfl] at gb164
        try rw [show Xi U7 904 8 = Xi S 904 8 by omega] at gb164
        clear w133
        refine y_istore_n rfl rfl rfl ?_
        exact Pl_weak (C168 fu (by omega) U7 hHU7 hFU7 ((Xi S 904 8)) (z134) (by omega) (by omega) (by omega) (by omega) (by omega) (by omega) (by first | exact I199 | exact JR.i (by first | assumption | exact (JR_FR (FR_e eU7) rfl rfl rfl (by assumption : JR S _ _)))) (by first | exact I199 (by omega) | omega) (by omega) (by omega) (by omega) (by first | (have q199 := I199 (by omega); rw [show Xi U7 904 8 - (fs : Int) = Xi S 904 8 - fs + 1 by omega]; exact o168.trans (lo_s (by omega) (by omega) (by unfold art7; omega))) | (rw [show Xi U7 904 8 - (fs : Int) = 0 by omega]; exact lo_0)) (by first | exact gb203.1 (by omega) | (rw [show Xi U7 904 8 = Xi S 904 8 by omega]; exact gb164.1 (by omega))) (un_a4 _) (un_44 _)) (by omega) (And.intro rfl (And.intro rfl (And.intro rfl (True.intro))))
      · refine y_aload_n rfl rfl ?_
        refine y_bipush rfl rfl ?_
        refine y_pfi rfl rfl rfl rfl ?_
        obtain ⟨U8, eU8⟩ : ∃ T : sS, T = uI S 904 70 (Int32.ofInt 19) := ⟨_, rfl⟩
        rw [← eU8]
        have hHU8 : RI U8 := by rw [eU8]; exact RI_w hH
        have hFU8 : FR md_mo_others__p S U8 := by rw [eU8]; exact FR.wI hF (mdf_i (r := (904, 905, 70, 71)) (List.mem_of_getElem? (i := 4) rfl) (inR_i (by omega) (by omega) (by omega) (by omega)))
        have w142 : Xi U8 904 70 = 19 := by rw [eU8]; exact Xi_same (by unfold rg; omega)
        refine y_aload_n rfl rfl ?_
        have w143 : Xi U8 904 65 = Xi S 904 65 := (show Xi U8 904 65 = Xi S 904 65 from by rw [eU8]; exact Xi_ne (by omega))
        have w144 : Xi U8 904 66 = Xi S 904 66 := (show Xi U8 904 66 = Xi S 904 66 from by rw [eU8]; exact Xi_ne (by omega))
        have w145 : Xi U8 904 69 = Xi S 904 69 := (show Xi U8 904 69 = Xi S 904 69 from by rw [eU8]; exact Xi_ne (by omega))
        have w146 : Xi U8 904 79 = Xi S 904 79 := (show Xi U8 904 79 = Xi S 904 79 from by rw [eU8]; exact Xi_ne (by omega))
        have w147 : Xi U8 904 8 = Xi S 904 8 := (show Xi U8 904 8 = Xi S 904 8 from by rw [eU8]; exact Xi_ne (by omega))
        have w148 : Xi U8 904 80 = Xi S 904 80 := (show Xi U8 904 80 = Xi S 904 80 from by rw [eU8]; exact Xi_ne (by omega))
        have w149 : Xi U8 904 93 = Xi S 904 93 := (show Xi U8 904 93 = Xi S 904 93 from by rw [eU8]; exact Xi_ne (by omega))
        refine y_callV rfl rfl rfl (t_mo_name__p hHU8 fs ns (by first | assumption | exact (VLR_FR hFU8 rfl (by assumption : VLR S _ _))) (by first | assumption | exact (JR_FR (FR_e eU8) rfl rfl rfl (by assumption : JR S _ _))) _) ?_
        rintro _ T9 ⟨hHT9, w157, z156, rfl, w156, w150, w151, w152, w153, w154, w155⟩
        have hFT9 : FR md_mo_others__p S T9 := FR.tr hFU8 w157 rfl
        show Pl _ _ _ _ _ _ [iv z156] _ _
        have : Xi T9 904 65 = 0 → (fs : Int) ≤ Xi T9 904 8 ∧ Xi T9 904 8 ≤ fs + ns := JR.i (by assumption)
        have gp107 := w150
        try rw [FRR hFU8 rfl] at gp107
        try rw [show cu U8 fs = cu S fs from cu_eq (by omega) (by omega) (by omega)] at gp107
        clear w150
        refine y_pop rfl rfl ?_
        refine y_aload_n rfl rfl ?_
        refine y_bipush rfl rfl ?_
        have w158 : Xi T9 904 70 = Xi U8 904 70 := (show Xi T9 904 70 = Xi U8 904 70 from w157.x _ _ rfl)
        have w159 : Xi T9 904 79 = Xi S 904 79 := (show Xi T9 904 79 = Xi U8 904 79 from w157.x _ _ rfl).trans ((show Xi U8 904 79 = Xi S 904 79 from by rw [eU8]; exact Xi_ne (by omega)))
        have w160 : Xi T9 904 80 = Xi S 904 80 := (show Xi T9 904 80 = Xi U8 904 80 from w157.x _ _ rfl).trans ((show Xi U8 904 80 = Xi S 904 80 from by rw [eU8]; exact Xi_ne (by omega)))
        have w161 : Xi T9 904 93 = Xi S 904 93 := (show Xi T9 904 93 = Xi U8 904 93 from w157.x _ _ rfl).trans ((show Xi U8 904 93 = Xi S 904 93 from by rw [eU8]; exact Xi_ne (by omega)))
        refine y_callV rfl rfl rfl (t_mo_take__p hHT9 fs ns 121 ⟨by omega, by omega⟩ (by first | assumption | exact (VLR_FR hFT9 rfl (by assumption : VLR S _ _))) (by first | assumption | exact (by assumption : JR T9 _ _)) (rfl) (by decide) _) ?_
        rintro _ T10 ⟨hHT10, w166, rfl, w162, w163, w164⟩
        have hFT10 : FR md_mo_others__p S T10 := FR.tr hFT9 w166 rfl
        show Pl _ _ _ _ _ _ [] _ _
        have : Xi T10 904 65 = 0 → (fs : Int) ≤ Xi T10 904 8 ∧ Xi T10 904 8 ≤ fs + ns := JR.i (by assumption)
        have gp114 := w162
        try rw [FRR hFT9 rfl] at gp114
        try rw [show un7 121 = 21 from rfl] at gp114
        clear w162
        have g114 : gSq (gN (tR S fs ns) 0) (gT (tR S fs ns) 21) = cu T10 fs := by rw [cu_go gp107 (by omega) (by omega), gp114]
        refine y_aload_n rfl rfl ?_
        refine y_aload_n rfl rfl ?_
        have w167 : Xi T10 904 69 = Xi T9 904 69 := (show Xi T10 904 69 = Xi T9 904 69 from w166.x _ _ rfl)
        have w168 : Xi T10 904 70 = Xi U8 904 70 := (show Xi T10 904 70 = Xi T9 904 70 from w166.x _ _ rfl).trans ((show Xi T9 904 70 = Xi U8 904 70 from w157.x _ _ rfl))
        have w169 : Xi T10 904 79 = Xi S 904 79 := (show Xi T10 904 79 = Xi T9 904 79 from w166.x _ _ rfl).trans ( (show Xi T9 904 79 = Xi U8 904 79 from w157.x _ _ rfl).trans ((show Xi U8 904 79 = Xi S 904 79 from by rw [eU8]; exact Xi_ne (by omega))))
        have w170 : Xi T10 904 80 = Xi S 904 80 := (show Xi T10 904 80 = Xi T9 904 80 from w166.x _ _ rfl).trans ( (show Xi T9 904 80 = Xi U8 904 80 from w157.x _ _ rfl).trans ((show Xi U8 904 80 = Xi S 904 80 from by rw [eU8]; exact Xi_ne (by omega))))
        have w171 : Xi T10 904 93 = Xi S 904 93 := (show Xi T10 904 93 = Xi T9 904 93 from w166.x _ _ rfl).trans ( (show Xi T9 904 93 = Xi U8 904 93 from w157.x _ _ rfl).trans ((show Xi U8 904 93 = Xi S 904 93 from by rw [eU8]; exact Xi_ne (by omega))))
        refine y_callV rfl rfl rfl (t_mo_oneOrVarious__p hHT10 fs ns (by first | assumption | exact (VLR_FR hFT10 rfl (by assumption : VLR S _ _))) (by first | assumption | exact (by assumption : JR T10 _ _)) _) ?_
        rintro _ T11 ⟨hHT11, w176, z175, rfl, w175, w172, o119_, w173, w174⟩
        have hFT11 : FR md_mo_others__p S T11 := FR.tr hFT10 w176 rfl
        show Pl _ _ _ _ _ _ [iv z175, .ref 904] _ _
        have : Xi T11 904 65 = 0 → (fs : Int) ≤ Xi T11 904 8 ∧ Xi T11 904 8 ≤ fs + ns := JR.i (by assumption)
        have gp119 := w172
        try rw [FRR hFT10 rfl] at gp119
        clear w172
        have q119 : Hid (Xi T11 904 65 = 0 → (z175 = 1 ↔ (tR S fs ns) (Xi T10 904 8 - fs) = 22)) := fun b => by have t := o119_ b; rw [FRR hFT10 rfl] at t; exact t
        clear o119_
        refine y_pfz rfl rfl rfl rfl (by omega) ?_
        obtain ⟨U12, eU12⟩ : ∃ T : sS, T = uI T11 904 79 (Int32.ofInt z175) := ⟨_, rfl⟩
        rw [← eU12]
        have hHU12 : RI U12 := by rw [eU12]; exact RI_w hHT11
        have hFU12 : FR md_mo_others__p S U12 := by rw [eU12]; exact FR.wI hFT11 (mdf_i (r := (904, 905, 79, 80)) (List.mem_of_getElem? (i := 5) rfl) (inR_i (by omega) (by omega) (by omega) (by omega)))
        have w177 : Xi U12 904 79 = z175 := by rw [eU12]; exact Xi_same (by unfold rg; omega)
        refine y_aload_n rfl rfl ?_
        have w178 : Xi U12 904 65 = Xi T11 904 65 := (show Xi U12 904 65 = Xi T11 904 65 from by rw [eU12]; exact Xi_ne (by omega))
        have w179 : Xi U12 904 66 = Xi T11 904 66 := (show Xi U12 904 66 = Xi T11 904 66 from by rw [eU12]; exact Xi_ne (by omega))
        have w180 : Xi U12 904 69 = Xi T9 904 69 := (show Xi U12 904 69 = Xi T11 904 69 from by rw [eU12]; exact Xi_ne (by omega)).trans ( (show Xi T11 904 69 = Xi T10 904 69 from w176.x _ _ rfl).trans ((show Xi T10 904 69 = Xi T9 904 69 from w166.x _ _ rfl)))
        have w181 : Xi U12 904 70 = Xi U8 904 70 := (show Xi U12 904 70 = Xi T11 904 70 from by rw [eU12]; exact Xi_ne (by omega)).trans ( (show Xi T11 904 70 = Xi T10 904 70 from w176.x _ _ rfl).trans ( (show Xi T10 904 70 = Xi T9 904 70 from w166.x _ _ rfl).trans ((show Xi T9 904 70 = Xi U8 904 70 from w157.x _ _ rfl))))
        have w182 : Xi U12 904 8 = Xi T11 904 8 := (show Xi U12 904 8 = Xi T11 904 8 from by rw [eU12]; exact Xi_ne (by omega))
        have w183 : Xi U12 904 80 = Xi S 904 80 := (show Xi U12 904 80 = Xi T11 904 80 from by rw [eU12]; exact Xi_ne (by omega)).trans ( (show Xi T11 904 80 = Xi T10 904 80 from w176.x _ _ rfl).trans ( (show Xi T10 904 80 = Xi T9 904 80 from w166.x _ _ rfl).trans ( (show Xi T9 904 80 = Xi U8 904 80 from w157.x _ _ rfl).trans ((show Xi U8 904 80 = Xi S 904 80 from by rw [eU8]; exact Xi_ne (by omega))))))
        have w184 : Xi U12 904 93 = Xi S 904 93 := (show Xi U12 904 93 = Xi T11 904 93 from by rw [eU12]; exact Xi_ne (by omega)).trans ( (show Xi T11 904 93 = Xi T10 904 93 from w176.x _ _ rfl).trans ( (show Xi T10 904 93 = Xi T9 904 93 from w166.x _ _ rfl).trans ( (show Xi T9 904 93 = Xi U8 904 93 from w157.x _ _ rfl).trans ((show Xi U8 904 93 = Xi S 904 93 from by rw [eU8]; exact Xi_ne (by omega))))))
        refine y_callV rfl rfl rfl (t_mo_run__p hHU12 fs ns (by first | assumption | exact (VLR_FR hFU12 rfl (by assumption : VLR S _ _))) (by first | assumption | exact (JR_FR (FR_e eU12) rfl rfl rfl (by assumption : JR T11 _ _))) _) ?_
        rintro _ T13 ⟨hHT13, w192, z191, rfl, w191, w185, w186, w187, w188, w189, w190⟩
        have hFT13 : FR md_mo_others__p S T13 := FR.tr hFU12 w192 rfl
        show Pl _ _ _ _ _ _ [iv z191] _ _
        have : Xi T13 904 65 = 0 → (fs : Int) ≤ Xi T13 904 8 ∧ Xi T13 904 8 ≤ fs + ns := JR.i (by assumption)
        have gp126 := w185
        try rw [FRR hFU12 rfl] at gp126
        try rw [show cu U12 fs = cu T11 fs from cu_eq (by omega) (by omega) (by omega)] at gp126
        clear w185
        refine y_pop rfl rfl ?_
        refine y_aload_n rfl rfl ?_
        refine y_bipush rfl rfl ?_
        have w193 : Xi T13 904 70 = Xi U8 904 70 := (show Xi T13 904 70 = Xi U12 904 70 from w192.x _ _ rfl).trans ( (show Xi U12 904 70 = Xi T11 904 70 from by rw [eU12]; exact Xi_ne (by omega)).trans ( (show Xi T11 904 70 = Xi T10 904 70 from w176.x _ _ rfl).trans ( (show Xi T10 904 70 = Xi T9 904 70 from w166.x _ _ rfl).trans ((show Xi T9 904 70 = Xi U8 904 70 from w157.x _ _ rfl)))))
        have w194 : Xi T13 904 79 = Xi U12 904 79 := (show Xi T13 904 79 = Xi U12 904 79 from w192.x _ _ rfl)
        have w195 : Xi T13 904 80 = Xi S 904 80 := (show Xi T13 904 80 = Xi U12 904 80 from w192.x _ _ rfl).trans ( (show Xi U12 904 80 = Xi T11 904 80 from by rw [eU12]; exact Xi_ne (by omega)).trans ( (show Xi T11 904 80 = Xi T10 904 80 from w176.x _ _ rfl).trans ( (show Xi T10 904 80 = Xi T9 904 80 from w166.x _ _ rfl).trans ( (show Xi T9 904 80 = Xi U8 904 80 from w157.x _ _ rfl).trans ((show Xi U8 904 80 = Xi S 904 80 from by rw [eU8]; exact Xi_ne (by omega)))))))
        have w196 : Xi T13 904 93 = Xi S 904 93 := (show Xi T13 904 93 = Xi U12 904 93 from w192.x _ _ rfl).trans ( (show Xi U12 904 93 = Xi T11 904 93 from by rw [eU12]; exact Xi_ne (by omega)).trans ( (show Xi T11 904 93 = Xi T10 904 93 from w176.x _ _ rfl).trans ( (show Xi T10 904 93 = Xi T9 904 93 from w166.x _ _ rfl).trans ( (show Xi T9 904 93 = Xi U8 904 93 from w157.x _ _ rfl).trans ((show Xi U8 904 93 = Xi S 904 93 from by rw [eU8]; exact Xi_ne (by omega)))))))
        refine y_callV rfl rfl rfl (t_mo_take__p hHT13 fs ns 111 ⟨by omega, by omega⟩ (by first | assumption | exact (VLR_FR hFT13 rfl (by assumption : VLR S _ _))) (by first | assumption | exact (by assumption : JR T13 _ _)) (rfl) (by decide) _) ?_
        rintro _ T14 ⟨hHT14, w201, rfl, w197, w198, w199⟩
        have hFT14 : FR md_mo_others__p S T14 := FR.tr hFT13 w201 rfl
        show Pl _ _ _ _ _ _ [] _ _
        have : Xi T14 904 65 = 0 → (fs : Int) ≤ Xi T14 904 8 ∧ Xi T14 904 8 ≤ fs + ns := JR.i (by assumption)
        have gp133 := w197
        try rw [FRR hFT13 rfl] at gp133
        try rw [show un7 111 = 11 from rfl] at gp133
        clear w197
        have g133 : gSq (gSq (gSq (gSq (gN (tR S fs ns) 0) (gT (tR S fs ns) 21)) (gHow (tR S fs ns))) (gR (tR S fs ns))) (gT (tR S fs ns) 11) = cu T14 fs := by rw [g114, gp119, gp126, gp133]
        refine y_aload_n rfl rfl ?_
        refine y_aload_n rfl rfl ?_
        have w202 : Xi T14 904 69 = Xi T13 904 69 := (show Xi T14 904 69 = Xi T13 904 69 from w201.x _ _ rfl)
        have w203 : Xi T14 904 70 = Xi U8 904 70 := (show Xi T14 904 70 = Xi T13 904 70 from w201.x _ _ rfl).trans ( (show Xi T13 904 70 = Xi U12 904 70 from w192.x _ _ rfl).trans ( (show Xi U12 904 70 = Xi T11 904 70 from by rw [eU12]; exact Xi_ne (by omega)).trans ( (show Xi T11 904 70 = Xi T10 904 70 from w176.x _ _ rfl).trans ( (show Xi T10 904 70 = Xi T9 904 70 from w166.x _ _ rfl).trans ((show Xi T9 904 70 = Xi U8 904 70 from w157.x _ _ rfl))))))
        have w204 : Xi T14 904 79 = Xi U12 904 79 := (show Xi T14 904 79 = Xi T13 904 79 from w201.x _ _ rfl).trans ((show Xi T13 904 79 = Xi U12 904 79 from w192.x _ _ rfl))
        have w205 : Xi T14 904 80 = Xi S 904 80 := (show Xi T14 904 80 = Xi T13 904 80 from w201.x _ _ rfl).trans ( (show Xi T13 904 80 = Xi U12 904 80 from w192.x _ _ rfl).trans ( (show Xi U12 904 80 = Xi T11 904 80 from by rw [eU12]; exact Xi_ne (by omega)).trans ( (show Xi T11 904 80 = Xi T10 904 80 from w176.x _ _ rfl).trans ( (show Xi T10 904 80 = Xi T9 904 80 from w166.x _ _ rfl).trans ( (show Xi T9 904 80 = Xi U8 904 80 from w157.x _ _ rfl).trans ((show Xi U8 904 80 = Xi S 904 80 from by rw [eU8]; exact Xi_ne (by omega))))))))
        have w206 : Xi T14 904 93 = Xi S 904 93 := (show Xi T14 904 93 = Xi T13 904 93 from w201.x _ _ rfl).trans ( (show Xi T13 904 93 = Xi U12 904 93 from w192.x _ _ rfl).trans ( (show Xi U12 904 93 = Xi T11 904 93 from by rw [eU12]; exact Xi_ne (by omega)).trans ( (show Xi T11 904 93 = Xi T10 904 93 from w176.x _ _ rfl).trans ( (show Xi T10 904 93 = Xi T9 904 93 from w166.x _ _ rfl).trans ( (show Xi T9 904 93 = Xi U8 904 93 from w157.x _ _ rfl).trans ((show Xi U8 904 93 = Xi S 904 93 from by rw [eU8]; exact Xi_ne (by omega))))))))
        refine y_callV rfl rfl rfl (t_mo_oneOrVarious__p hHT14 fs ns (by first | assumption | exact (VLR_FR hFT14 rfl (by assumption : VLR S _ _))) (by first | assumption | exact (by assumption : JR T14 _ _)) _) ?_
        rintro _ T15 ⟨hHT15, w211, z210, rfl, w210, w207, o138_, w208, w209⟩
        have hFT15 : FR md_mo_others__p S T15 := FR.tr hFT14 w211 rfl
        show Pl _ _ _ _ _ _ [iv z210, .ref 904] _ _
        have : Xi T15 904 65 = 0 → (fs : Int) ≤ Xi T15 904 8 ∧ Xi T15 904 8 ≤ fs + ns := JR.i (by assumption)
        have gp138 := w207
        try rw [FRR hFT14 rfl] at gp138
        clear w207
        have q138 : Hid (Xi T15 904 65 = 0 → (z210 = 1 ↔ (tR S fs ns) (Xi T14 904 8 - fs) = 22)) := fun b => by have t := o138_ b; rw [FRR hFT14 rfl] at t; exact t
        clear o138_
        refine y_pfz rfl rfl rfl rfl (by omega) ?_
        obtain ⟨U16, eU16⟩ : ∃ T : sS, T = uI T15 904 80 (Int32.ofInt z210) := ⟨_, rfl⟩
        rw [← eU16]
        have hHU16 : RI U16 := by rw [eU16]; exact RI_w hHT15
        have hFU16 : FR md_mo_others__p S U16 := by rw [eU16]; exact FR.wI hFT15 (mdf_i (r := (904, 905, 80, 81)) (List.mem_of_getElem? (i := 6) rfl) (inR_i (by omega) (by omega) (by omega) (by omega)))
        have w212 : Xi U16 904 80 = z210 := by rw [eU16]; exact Xi_same (by unfold rg; omega)
        refine y_aload_n rfl rfl ?_
        have w213 : Xi U16 904 65 = Xi T15 904 65 := (show Xi U16 904 65 = Xi T15 904 65 from by rw [eU16]; exact Xi_ne (by omega))
        have w214 : Xi U16 904 66 = Xi T15 904 66 := (show Xi U16 904 66 = Xi T15 904 66 from by rw [eU16]; exact Xi_ne (by omega))
        have w215 : Xi U16 904 69 = Xi T13 904 69 := (show Xi U16 904 69 = Xi T15 904 69 from by rw [eU16]; exact Xi_ne (by omega)).trans ( (show Xi T15 904 69 = Xi T14 904 69 from w211.x _ _ rfl).trans ((show Xi T14 904 69 = Xi T13 904 69 from w201.x _ _ rfl)))
        have w216 : Xi U16 904 70 = Xi U8 904 70 := (show Xi U16 904 70 = Xi T15 904 70 from by rw [eU16]; exact Xi_ne (by omega)).trans ( (show Xi T15 904 70 = Xi T14 904 70 from w211.x _ _ rfl).trans ( (show Xi T14 904 70 = Xi T13 904 70 from w201.x _ _ rfl).trans ( (show Xi T13 904 70 = Xi U12 904 70 from w192.x _ _ rfl).trans ( (show Xi U12 904 70 = Xi T11 904 70 from by rw [eU12]; exact Xi_ne (by omega)).trans ( (show Xi T11 904 70 = Xi T10 904 70 from w176.x _ _ rfl).trans ( (show Xi T10 904 70 = Xi T9 904 70 from w166.x _ _ rfl).trans ((show Xi T9 904 70 = Xi U8 904 70 from w157.x _ _ rfl))))))))
        have w217 : Xi U16 904 79 = Xi U12 904 79 := (show Xi U16 904 79 = Xi T15 904 79 from by rw [eU16]; exact Xi_ne (by omega)).trans ( (show Xi T15 904 79 = Xi T14 904 79 from w211.x _ _ rfl).trans ( (show Xi T14 904 79 = Xi T13 904 79 from w201.x _ _ rfl).trans ((show Xi T13 904 79 = Xi U12 904 79 from w192.x _ _ rfl))))
        have w218 : Xi U16 904 8 = Xi T15 904 8 := (show Xi U16 904 8 = Xi T15 904 8 from by rw [eU16]; exact Xi_ne (by omega))
        have w219 : Xi U16 904 93 = Xi S 904 93 := (show Xi U16 904 93 = Xi T15 904 93 from by rw [eU16]; exact Xi_ne (by omega)).trans ( (show Xi T15 904 93 = Xi T14 904 93 from w211.x _ _ rfl).trans ( (show Xi T14 904 93 = Xi T13 904 93 from w201.x _ _ rfl).trans ( (show Xi T13 904 93 = Xi U12 904 93 from w192.x _ _ rfl).trans ( (show Xi U12 904 93 = Xi T11 904 93 from by rw [eU12]; exact Xi_ne (by omega)).trans ( (show Xi T11 904 93 = Xi T10 904 93 from w176.x _ _ rfl).trans ( (show Xi T10 904 93 = Xi T9 904 93 from w166.x _ _ rfl).trans ( (show Xi T9 904 93 = Xi U8 904 93 from w157.x _ _ rfl).trans ((show Xi U8 904 93 = Xi S 904 93 from by rw [eU8]; exact Xi_ne (by omega))))))))))
        refine y_callV rfl rfl rfl (t_mo_run__p hHU16 fs ns (by first | assumption | exact (VLR_FR hFU16 rfl (by assumption : VLR S _ _))) (by first | assumption | exact (JR_FR (FR_e eU16) rfl rfl rfl (by assumption : JR T15 _ _))) _) ?_
        rintro _ T17 ⟨hHT17, w227, z226, rfl, w226, w220, w221, w222, w223, w224, w225⟩
        have hFT17 : FR md_mo_others__p S T17 := FR.tr hFU16 w227 rfl
        show Pl _ _ _ _ _ _ [iv z226] _ _
        have : Xi T17 904 65 = 0 → (fs : Int) ≤ Xi T17 904 8 ∧ Xi T17 904 8 ≤ fs + ns := JR.i (by assumption)
        have gp145 := w220
        try rw [FRR hFU16 rfl] at gp145
        try rw [show cu U16 fs = cu T15 fs from cu_eq (by omega) (by omega) (by omega)] at gp145
        clear w220
        refine y_pop rfl rfl ?_
        refine y_goto rfl rfl ?_
        refine y_return rfl rfl ?_
        have w228 : Xi T17 904 70 = Xi U8 904 70 := (show Xi T17 904 70 = Xi U16 904 70 from w227.x _ _ rfl).trans ( (show Xi U16 904 70 = Xi T15 904 70 from by rw [eU16]; exact Xi_ne (by omega)).trans ( (show Xi T15 904 70 = Xi T14 904 70 from w211.x _ _ rfl).trans ( (show Xi T14 904 70 = Xi T13 904 70 from w201.x _ _ rfl).trans ( (show Xi T13 904 70 = Xi U12 904 70 from w192.x _ _ rfl).trans ( (show Xi U12 904 70 = Xi T11 904 70 from by rw [eU12]; exact Xi_ne (by omega)).trans ( (show Xi T11 904 70 = Xi T10 904 70 from w176.x _ _ rfl).trans ( (show Xi T10 904 70 = Xi T9 904 70 from w166.x _ _ rfl).trans ((show Xi T9 904 70 = Xi U8 904 70 from w157.x _ _ rfl)))))))))
        have w229 : Xi T17 904 79 = Xi U12 904 79 := (show Xi T17 904 79 = Xi U16 904 79 from w227.x _ _ rfl).trans ( (show Xi U16 904 79 = Xi T15 904 79 from by rw [eU16]; exact Xi_ne (by omega)).trans ( (show Xi T15 904 79 = Xi T14 904 79 from w211.x _ _ rfl).trans ( (show Xi T14 904 79 = Xi T13 904 79 from w201.x _ _ rfl).trans ((show Xi T13 904 79 = Xi U12 904 79 from w192.x _ _ rfl)))))
        have w230 : Xi T17 904 80 = Xi U16 904 80 := (show Xi T17 904 80 = Xi U16 904 80 from w227.x _ _ rfl)
        have w231 : Xi T17 904 93 = Xi S 904 93 := (show Xi T17 904 93 = Xi U16 904 93 from w227.x _ _ rfl).trans ( (show Xi U16 904 93 = Xi T15 904 93 from by rw [eU16]; exact Xi_ne (by omega)).trans ( (show Xi T15 904 93 = Xi T14 904 93 from w211.x _ _ rfl).trans ( (show Xi T14 904 93 = Xi T13 904 93 from w201.x _ _ rfl).trans ( (show Xi T13 904 93 = Xi U12 904 93 from w192.x _ _ rfl).trans ( (show Xi U12 904 93 = Xi T11 904 93 from by rw [eU12]; exact Xi_ne (by omega)).trans ( (show Xi T11 904 93 = Xi T10 904 93 from w176.x _ _ rfl).trans ( (show Xi T10 904 93 = Xi T9 904 93 from w166.x _ _ rfl).trans ( (show Xi T9 904 93 = Xi U8 904 93 from w157.x _ _ rfl).trans ((show Xi U8 904 93 = Xi S 904 93 from by rw [eU8]; exact Xi_ne (by omega)))))))))))
        exact ⟨hHT17, hFT17, rfl, (by first | (unfold gOo; rw [if_pos (by omega), cu_go gp13 (by omega) (by omega), gp20, gp24, gp28, gp35, gp39]) | (unfold gOo; rw [if_neg (by omega), if_pos (by omega), cu_go gp59 (by omega) (by omega), gp66, gp72, gp76, gp83, gp87]) | (unfold gOo; rw [if_neg (by omega), if_neg (by omega), if_pos (by omega), cu_go gp107 (by omega) (by omega), gp114, gp119, gp126, gp133, gp138, gp145]) | (rw [gOo_20 (by omega) (by omega) (by omega), gLo_of ((o168).trans (lo_n (Or.inr (by unfold art7; omega))))]; first | (rw [if_pos (by omega)]; exact cu_1 (by omega) (by omega)) | (rw [if_neg (by omega)]; refine Eq.trans ?_ gp219.symm; first | (rw [cu_ok (by omega)]; done) | (rw [cu_ok (by omega)]; exact pe rfl (by omega))))), (by omega), (by first | exact (fun q => by exfalso; omega) | exact (fun _ => by first | assumption | exact (by assumption : JR T17 _ _))), (by omega), (by first | (have t := gp145; exact (fun b _ => ⟨Xi T10 904 8 - fs, Xi T14 904 8 - fs, g114.trans (cu_ok (by omega)), g133.trans (cu_ok (by omega)), by have u := q119.o (by omega); omega, by have u := q138.o (by omega); omega⟩)) | exact (fun _ q => absurd q (by omega))), (by omega), (fun b => by omega)⟩
    · refine y_aload_n rfl rfl ?_
      refine y_bipush rfl rfl ?_
      refine y_pfi rfl rfl rfl rfl ?_
      obtain ⟨U18, eU18⟩ : ∃ T : sS, T = uI S 904 70 (Int32.ofInt 18) := ⟨_, rfl⟩
      rw [← eU18]
      have hHU18 : RI U18 := by rw [eU18]; exact RI_w hH
      have hFU18 : FR md_mo_others__p S U18 := by rw [eU18]; exact FR.wI hF (mdf_i (r := (904, 905, 70, 71)) (List.mem_of_getElem? (i := 4) rfl) (inR_i (by omega) (by omega) (by omega) (by omega)))
      have w232 : Xi U18 904 70 = 18 := by rw [eU18]; exact Xi_same (by unfold rg; omega)
      refine y_aload_n rfl rfl ?_
      have w233 : Xi U18 904 65 = Xi S 904 65 := (show Xi U18 904 65 = Xi S 904 65 from by rw [eU18]; exact Xi_ne (by omega))
      have w234 : Xi U18 904 66 = Xi S 904 66 := (show Xi U18 904 66 = Xi S 904 66 from by rw [eU18]; exact Xi_ne (by omega))
      have w235 : Xi U18 904 69 = Xi S 904 69 := (show Xi U18 904 69 = Xi S 904 69 from by rw [eU18]; exact Xi_ne (by omega))
      have w236 : Xi U18 904 79 = Xi S 904 79 := (show Xi U18 904 79 = Xi S 904 79 from by rw [eU18]; exact Xi_ne (by omega))
      have w237 : Xi U18 904 8 = Xi S 904 8 := (show Xi U18 904 8 = Xi S 904 8 from by rw [eU18]; exact Xi_ne (by omega))
      have w238 : Xi U18 904 80 = Xi S 904 80 := (show Xi U18 904 80 = Xi S 904 80 from by rw [eU18]; exact Xi_ne (by omega))
      have w239 : Xi U18 904 93 = Xi S 904 93 := (show Xi U18 904 93 = Xi S 904 93 from by rw [eU18]; exact Xi_ne (by omega))
      refine y_callV rfl rfl rfl (t_mo_name__p hHU18 fs ns (by first | assumption | exact (VLR_FR hFU18 rfl (by assumption : VLR S _ _))) (by first | assumption | exact (JR_FR (FR_e eU18) rfl rfl rfl (by assumption : JR S _ _))) _) ?_
      rintro _ T19 ⟨hHT19, w247, z246, rfl, w246, w240, w241, w242, w243, w244, w245⟩
      have hFT19 : FR md_mo_others__p S T19 := FR.tr hFU18 w247 rfl
      show Pl _ _ _ _ _ _ [iv z246] _ _
      have : Xi T19 904 65 = 0 → (fs : Int) ≤ Xi T19 904 8 ∧ Xi T19 904 8 ≤ fs + ns := JR.i (by assumption)
      have gp59 := w240
      try rw [FRR hFU18 rfl] at gp59
      try rw [show cu U18 fs = cu S fs from cu_eq (by omega) (by omega) (by omega)] at gp59
      clear w240
      refine y_pop rfl rfl ?_
      refine y_aload_n rfl rfl ?_
      refine y_bipush rfl rfl ?_
      have w248 : Xi T19 904 70 = Xi U18 904 70 := (show Xi T19 904 70 = Xi U18 904 70 from w247.x _ _ rfl)
      have w249 : Xi T19 904 79 = Xi S 904 79 := (show Xi T19 904 79 = Xi U18 904 79 from w247.x _ _ rfl).trans ((show Xi U18 904 79 = Xi S 904 79 from by rw [eU18]; exact Xi_ne (by omega)))
      have w250 : Xi T19 904 80 = Xi S 904 80 := (show Xi T19 904 80 = Xi U18 904 80 from w247.x _ _ rfl).trans ((show Xi U18 904 80 = Xi S 904 80 from by rw [eU18]; exact Xi_ne (by omega)))
      have w251 : Xi T19 904 93 = Xi S 904 93 := (show Xi T19 904 93 = Xi U18 904 93 from w247.x _ _ rfl).trans ((show Xi U18 904 93 = Xi S 904 93 from by rw [eU18]; exact Xi_ne (by omega)))
      refine y_callV rfl rfl rfl (t_mo_take__p hHT19 fs ns 113 ⟨by omega, by omega⟩ (by first | assumption | exact (VLR_FR hFT19 rfl (by assumption : VLR S _ _))) (by first | assumption | exact (by assumption : JR T19 _ _)) (rfl) (by decide) _) ?_
      rintro _ T20 ⟨hHT20, w256, rfl, w252, w253, w254⟩
      have hFT20 : FR md_mo_others__p S T20 := FR.tr hFT19 w256 rfl
      show Pl _ _ _ _ _ _ [] _ _
      have : Xi T20 904 65 = 0 → (fs : Int) ≤ Xi T20 904 8 ∧ Xi T20 904 8 ≤ fs + ns := JR.i (by assumption)
      have gp66 := w252
      try rw [FRR hFT19 rfl] at gp66
      try rw [show un7 113 = 13 from rfl] at gp66
      clear w252
      refine y_aload_n rfl rfl ?_
      refine y_bipush rfl rfl ?_
      have w257 : Xi T20 904 69 = Xi T19 904 69 := (show Xi T20 904 69 = Xi T19 904 69 from w256.x _ _ rfl)
      have w258 : Xi T20 904 70 = Xi U18 904 70 := (show Xi T20 904 70 = Xi T19 904 70 from w256.x _ _ rfl).trans ((show Xi T19 904 70 = Xi U18 904 70 from w247.x _ _ rfl))
      have w259 : Xi T20 904 79 = Xi S 904 79 := (show Xi T20 904 79 = Xi T19 904 79 from w256.x _ _ rfl).trans ( (show Xi T19 904 79 = Xi U18 904 79 from w247.x _ _ rfl).trans ((show Xi U18 904 79 = Xi S 904 79 from by rw [eU18]; exact Xi_ne (by omega))))
      have w260 : Xi T20 904 80 = Xi S 904 80 := (show Xi T20 904 80 = Xi T19 904 80 from w256.x _ _ rfl).trans ( (show Xi T19 904 80 = Xi U18 904 80 from w247.x _ _ rfl).trans ((show Xi U18 904 80 = Xi S 904 80 from by rw [eU18]; exact Xi_ne (by omega))))
      have w261 : Xi T20 904 93 = Xi S 904 93 := (show Xi T20 904 93 = Xi T19 904 93 from w256.x _ _ rfl).trans ( (show Xi T19 904 93 = Xi U18 904 93 from w247.x _ _ rfl).trans ((show Xi U18 904 93 = Xi S 904 93 from by rw [eU18]; exact Xi_ne (by omega))))
      refine y_callV rfl rfl rfl (t_mo_take__p hHT20 fs ns 114 ⟨by omega, by omega⟩ (by first | assumption | exact (VLR_FR hFT20 rfl (by assumption : VLR S _ _))) (by first | assumption | exact (by assumption : JR T20 _ _)) (rfl) (by decide) _) ?_
      rintro _ T21 ⟨hHT21, w266, rfl, w262, w263, w264⟩
      have hFT21 : FR md_mo_others__p S T21 := FR.tr hFT20 w266 rfl
      show Pl _ _ _ _ _ _ [] _ _
      have : Xi T21 904 65 = 0 → (fs : Int) ≤ Xi T21 904 8 ∧ Xi T21 904 8 ≤ fs + ns := JR.i (by assumption)
      have gp72 := w262
      try rw [FRR hFT20 rfl] at gp72
      try rw [show un7 114 = 14 from rfl] at gp72
      clear w262
      refine y_aload_n rfl rfl ?_
      have w267 : Xi T21 904 69 = Xi T19 904 69 := (show Xi T21 904 69 = Xi T20 904 69 from w266.x _ _ rfl).trans ((show Xi T20 904 69 = Xi T19 904 69 from w256.x _ _ rfl))
      have w268 : Xi T21 904 70 = Xi U18 904 70 := (show Xi T21 904 70 = Xi T20 904 70 from w266.x _ _ rfl).trans ( (show Xi T20 904 70 = Xi T19 904 70 from w256.x _ _ rfl).trans ((show Xi T19 904 70 = Xi U18 904 70 from w247.x _ _ rfl)))
      have w269 : Xi T21 904 79 = Xi S 904 79 := (show Xi T21 904 79 = Xi T20 904 79 from w266.x _ _ rfl).trans ( (show Xi T20 904 79 = Xi T19 904 79 from w256.x _ _ rfl).trans ( (show Xi T19 904 79 = Xi U18 904 79 from w247.x _ _ rfl).trans ((show Xi U18 904 79 = Xi S 904 79 from by rw [eU18]; exact Xi_ne (by omega)))))
      have w270 : Xi T21 904 80 = Xi S 904 80 := (show Xi T21 904 80 = Xi T20 904 80 from w266.x _ _ rfl).trans ( (show Xi T20 904 80 = Xi T19 904 80 from w256.x _ _ rfl).trans ( (show Xi T19 904 80 = Xi U18 904 80 from w247.x _ _ rfl).trans ((show Xi U18 904 80 = Xi S 904 80 from by rw [eU18]; exact Xi_ne (by omega)))))
      have w271 : Xi T21 904 93 = Xi S 904 93 := (show Xi T21 904 93 = Xi T20 904 93 from w266.x _ _ rfl).trans ( (show Xi T20 904 93 = Xi T19 904 93 from w256.x _ _ rfl).trans ( (show Xi T19 904 93 = Xi U18 904 93 from w247.x _ _ rfl).trans ((show Xi U18 904 93 = Xi S 904 93 from by rw [eU18]; exact Xi_ne (by omega)))))
      refine y_callV rfl rfl rfl (t_mo_run__p hHT21 fs ns (by first | assumption | exact (VLR_FR hFT21 rfl (by assumption : VLR S _ _))) (by first | assumption | exact (by assumption : JR T21 _ _)) _) ?_
      rintro _ T22 ⟨hHT22, w279, z278, rfl, w278, w272, w273, w274, w275, w276, w277⟩
      have hFT22 : FR md_mo_others__p S T22 := FR.tr hFT21 w279 rfl
      show Pl _ _ _ _ _ _ [iv z278] _ _
      have : Xi T22 904 65 = 0 → (fs : Int) ≤ Xi T22 904 8 ∧ Xi T22 904 8 ≤ fs + ns := JR.i (by assumption)
      have gp76 := w272
      try rw [FRR hFT21 rfl] at gp76
      clear w272
      refine y_pop rfl rfl ?_
      refine y_aload_n rfl rfl ?_
      refine y_bipush rfl rfl ?_
      have w280 : Xi T22 904 70 = Xi U18 904 70 := (show Xi T22 904 70 = Xi T21 904 70 from w279.x _ _ rfl).trans ( (show Xi T21 904 70 = Xi T20 904 70 from w266.x _ _ rfl).trans ( (show Xi T20 904 70 = Xi T19 904 70 from w256.x _ _ rfl).trans ((show Xi T19 904 70 = Xi U18 904 70 from w247.x _ _ rfl))))
      have w281 : Xi T22 904 79 = Xi S 904 79 := (show Xi T22 904 79 = Xi T21 904 79 from w279.x _ _ rfl).trans ( (show Xi T21 904 79 = Xi T20 904 79 from w266.x _ _ rfl).trans ( (show Xi T20 904 79 = Xi T19 904 79 from w256.x _ _ rfl).trans ( (show Xi T19 904 79 = Xi U18 904 79 from w247.x _ _ rfl).trans ((show Xi U18 904 79 = Xi S 904 79 from by rw [eU18]; exact Xi_ne (by omega))))))
      have w282 : Xi T22 904 80 = Xi S 904 80 := (show Xi T22 904 80 = Xi T21 904 80 from w279.x _ _ rfl).trans ( (show Xi T21 904 80 = Xi T20 904 80 from w266.x _ _ rfl).trans ( (show Xi T20 904 80 = Xi T19 904 80 from w256.x _ _ rfl).trans ( (show Xi T19 904 80 = Xi U18 904 80 from w247.x _ _ rfl).trans ((show Xi U18 904 80 = Xi S 904 80 from by rw [eU18]; exact Xi_ne (by omega))))))
      have w283 : Xi T22 904 93 = Xi S 904 93 := (show Xi T22 904 93 = Xi T21 904 93 from w279.x _ _ rfl).trans ( (show Xi T21 904 93 = Xi T20 904 93 from w266.x _ _ rfl).trans ( (show Xi T20 904 93 = Xi T19 904 93 from w256.x _ _ rfl).trans ( (show Xi T19 904 93 = Xi U18 904 93 from w247.x _ _ rfl).trans ((show Xi U18 904 93 = Xi S 904 93 from by rw [eU18]; exact Xi_ne (by omega))))))
      refine y_callV rfl rfl rfl (t_mo_take__p hHT22 fs ns 115 ⟨by omega, by omega⟩ (by first | assumption | exact (VLR_FR hFT22 rfl (by assumption : VLR S _ _))) (by first | assumption | exact (by assumption : JR T22 _ _)) (rfl) (by decide) _) ?_
      rintro _ T23 ⟨hHT23, w288, rfl, w284, w285, w286⟩
      have hFT23 : FR md_mo_others__p S T23 := FR.tr hFT22 w288 rfl
      show Pl _ _ _ _ _ _ [] _ _
      have : Xi T23 904 65 = 0 → (fs : Int) ≤ Xi T23 904 8 ∧ Xi T23 904 8 ≤ fs + ns := JR.i (by assumption)
      have gp83 := w284
      try rw [FRR hFT22 rfl] at gp83
      try rw [show un7 115 = 15 from rfl] at gp83
      clear w284
      refine y_aload_n rfl rfl ?_
      have w289 : Xi T23 904 69 = Xi T22 904 69 := (show Xi T23 904 69 = Xi T22 904 69 from w288.x _ _ rfl)
      have w290 : Xi T23 904 70 = Xi U18 904 70 := (show Xi T23 904 70 = Xi T22 904 70 from w288.x _ _ rfl).trans ( (show Xi T22 904 70 = Xi T21 904 70 from w279.x _ _ rfl).trans ( (show Xi T21 904 70 = Xi T20 904 70 from w266.x _ _ rfl).trans ( (show Xi T20 904 70 = Xi T19 904 70 from w256.x _ _ rfl).trans ((show Xi T19 904 70 = Xi U18 904 70 from w247.x _ _ rfl)))))
      have w291 : Xi T23 904 79 = Xi S 904 79 := (show Xi T23 904 79 = Xi T22 904 79 from w288.x _ _ rfl).trans ( (show Xi T22 904 79 = Xi T21 904 79 from w279.x _ _ rfl).trans ( (show Xi T21 904 79 = Xi T20 904 79 from w266.x _ _ rfl).trans ( (show Xi T20 904 79 = Xi T19 904 79 from w256.x _ _ rfl).trans ( (show Xi T19 904 79 = Xi U18 904 79 from w247.x _ _ rfl).trans ((show Xi U18 904 79 = Xi S 904 79 from by rw [eU18]; exact Xi_ne (by omega)))))))
      have w292 : Xi T23 904 80 = Xi S 904 80 := (show Xi T23 904 80 = Xi T22 904 80 from w288.x _ _ rfl).trans ( (show Xi T22 904 80 = Xi T21 904 80 from w279.x _ _ rfl).trans ( (show Xi T21 904 80 = Xi T20 904 80 from w266.x _ _ rfl).trans ( (show Xi T20 904 80 = Xi T19 904 80 from w256.x _ _ rfl).trans ( (show Xi T19 904 80 = Xi U18 904 80 from w247.x _ _ rfl).trans ((show Xi U18 904 80 = Xi S 904 80 from by rw [eU18]; exact Xi_ne (by omega)))))))
      have w293 : Xi T23 904 93 = Xi S 904 93 := (show Xi T23 904 93 = Xi T22 904 93 from w288.x _ _ rfl).trans ( (show Xi T22 904 93 = Xi T21 904 93 from w279.x _ _ rfl).trans ( (show Xi T21 904 93 = Xi T20 904 93 from w266.x _ _ rfl).trans ( (show Xi T20 904 93 = Xi T19 904 93 from w256.x _ _ rfl).trans ( (show Xi T19 904 93 = Xi U18 904 93 from w247.x _ _ rfl).trans ((show Xi U18 904 93 = Xi S 904 93 from by rw [eU18]; exact Xi_ne (by omega)))))))
      refine y_callV rfl rfl rfl (t_mo_run__p hHT23 fs ns (by first | assumption | exact (VLR_FR hFT23 rfl (by assumption : VLR S _ _))) (by first | assumption | exact (by assumption : JR T23 _ _)) _) ?_
      rintro _ T24 ⟨hHT24, w301, z300, rfl, w300, w294, w295, w296, w297, w298, w299⟩
      have hFT24 : FR md_mo_others__p S T24 := FR.tr hFT23 w301 rfl
      show Pl _ _ _ _ _ _ [iv z300] _ _
      have : Xi T24 904 65 = 0 → (fs : Int) ≤ Xi T24 904 8 ∧ Xi T24 904 8 ≤ fs + ns := JR.i (by assumption)
      have gp87 := w294
      try rw [FRR hFT23 rfl] at gp87
      clear w294
      refine y_pop rfl rfl ?_
      refine y_goto rfl rfl ?_
      refine y_return rfl rfl ?_
      have w302 : Xi T24 904 70 = Xi U18 904 70 := (show Xi T24 904 70 = Xi T23 904 70 from w301.x _ _ rfl).trans ( (show Xi T23 904 70 = Xi T22 904 70 from w288.x _ _ rfl).trans ( (show Xi T22 904 70 = Xi T21 904 70 from w279.x _ _ rfl).trans ( (show Xi T21 904 70 = Xi T20 904 70 from w266.x _ _ rfl).trans ( (show Xi T20 904 70 = Xi T19 904 70 from w256.x _ _ rfl).trans ((show Xi T19 904 70 = Xi U18 904 70 from w247.x _ _ rfl))))))
      have w303 : Xi T24 904 79 = Xi S 904 79 := (show Xi T24 904 79 = Xi T23 904 79 from w301.x _ _ rfl).trans ( (show Xi T23 904 79 = Xi T22 904 79 from w288.x _ _ rfl).trans ( (show Xi T22 904 79 = Xi T21 904 79 from w279.x _ _ rfl).trans ( (show Xi T21 904 79 = Xi T20 904 79 from w266.x _ _ rfl).trans ( (show Xi T20 904 79 = Xi T19 904 79 from w256.x _ _ rfl).trans ( (show Xi T19 904 79 = Xi U18 904 79 from w247.x _ _ rfl).trans ((show Xi U18 904 79 = Xi S 904 79 from by rw [eU18]; exact Xi_ne (by omega))))))))
      have w304 : Xi T24 904 80 = Xi S 904 80 := (show Xi T24 904 80 = Xi T23 904 80 from w301.x _ _ rfl).trans ( (show Xi T23 904 80 = Xi T22 904 80 from w288.x _ _ rfl).trans ( (show Xi T22 904 80 = Xi T21 904 80 from w279.x _ _ rfl).trans ( (show Xi T21 904 80 = Xi T20 904 80 from w266.x _ _ rfl).trans ( (show Xi T20 904 80 = Xi T19 904 80 from w256.x _ _ rfl).trans ( (show Xi T19 904 80 = Xi U18 904 80 from w247.x _ _ rfl).trans ((show Xi U18 904 80 = Xi S 904 80 from by rw [eU18]; exact Xi_ne (by omega))))))))
      have w305 : Xi T24 904 93 = Xi S 904 93 := (show Xi T24 904 93 = Xi T23 904 93 from w301.x _ _ rfl).trans ( (show Xi T23 904 93 = Xi T22 904 93 from w288.x _ _ rfl).trans ( (show Xi T22 904 93 = Xi T21 904 93 from w279.x _ _ rfl).trans ( (show Xi T21 904 93 = Xi T20 904 93 from w266.x _ _ rfl).trans ( (show Xi T20 904 93 = Xi T19 904 93 from w256.x _ _ rfl).trans ( (show Xi T19 904 93 = Xi U18 904 93 from w247.x _ _ rfl).trans ((show Xi U18 904 93 = Xi S 904 93 from by rw [eU18]; exact Xi_ne (by omega))))))))
      exact ⟨hHT24, hFT24, rfl, (by first | (unfold gOo; rw [if_pos (by omega), cu_go gp13 (by omega) (by omega), gp20, gp24, gp28, gp35, gp39]) | (unfold gOo; rw [if_neg (by omega), if_pos (by omega), cu_go gp59 (by omega) (by omega), gp66, gp72, gp76, gp83, gp87]) | (unfold gOo; rw [if_neg (by omega), if_neg (by omega), if_pos (by omega), cu_go gp107 (by omega) (by omega), gp114, gp119, gp126, gp133, gp138, gp145]) | (rw [gOo_20 (by omega) (by omega) (by omega), gLo_of ((o168).trans (lo_n (Or.inr (by unfold art7; omega))))]; first | (rw [if_pos (by omega)]; exact cu_1 (by omega) (by omega)) | (rw [if_neg (by omega)]; refine Eq.trans ?_ gp219.symm; first | (rw [cu_ok (by omega)]; done) | (rw [cu_ok (by omega)]; exact pe rfl (by omega))))), (by omega), (by first | exact (fun q => by exfalso; omega) | exact (fun _ => by first | assumption | exact (by assumption : JR T24 _ _))), (by omega), (by first | (have t := gp145; exact (fun b _ => ⟨Xi T10 904 8 - fs, Xi T14 904 8 - fs, g114.trans (cu_ok (by omega)), g133.trans (cu_ok (by omega)), by have u := q119.o (by omega); omega, by have u := q138.o (by omega); omega⟩)) | exact (fun _ q => absurd q (by omega))), (by omega), (fun b => by omega)⟩
  · refine y_aload_n rfl rfl ?_
    refine y_bipush rfl rfl ?_
    refine y_pfi rfl rfl rfl rfl ?_
    obtain ⟨U25, eU25⟩ : ∃ T : sS, T = uI S 904 70 (Int32.ofInt 17) := ⟨_, rfl⟩
    rw [← eU25]
    have hHU25 : RI U25 := by rw [eU25]; exact RI_w hH
    have hFU25 : FR md_mo_others__p S U25 := by rw [eU25]; exact FR.wI hF (mdf_i (r := (904, 905, 70, 71)) (List.mem_of_getElem? (i := 4) rfl) (inR_i (by omega) (by omega) (by omega) (by omega)))
    have w306 : Xi U25 904 70 = 17 := by rw [eU25]; exact Xi_same (by unfold rg; omega)
    refine y_aload_n rfl rfl ?_
    have w307 : Xi U25 904 65 = Xi S 904 65 := (show Xi U25 904 65 = Xi S 904 65 from by rw [eU25]; exact Xi_ne (by omega))
    have w308 : Xi U25 904 66 = Xi S 904 66 := (show Xi U25 904 66 = Xi S 904 66 from by rw [eU25]; exact Xi_ne (by omega))
    have w309 : Xi U25 904 69 = Xi S 904 69 := (show Xi U25 904 69 = Xi S 904 69 from by rw [eU25]; exact Xi_ne (by omega))
    have w310 : Xi U25 904 79 = Xi S 904 79 := (show Xi U25 904 79 = Xi S 904 79 from by rw [eU25]; exact Xi_ne (by omega))
    have w311 : Xi U25 904 8 = Xi S 904 8 := (show Xi U25 904 8 = Xi S 904 8 from by rw [eU25]; exact Xi_ne (by omega))
    have w312 : Xi U25 904 80 = Xi S 904 80 := (show Xi U25 904 80 = Xi S 904 80 from by rw [eU25]; exact Xi_ne (by omega))
    have w313 : Xi U25 904 93 = Xi S 904 93 := (show Xi U25 904 93 = Xi S 904 93 from by rw [eU25]; exact Xi_ne (by omega))
    refine y_callV rfl rfl rfl (t_mo_name__p hHU25 fs ns (by first | assumption | exact (VLR_FR hFU25 rfl (by assumption : VLR S _ _))) (by first | assumption | exact (JR_FR (FR_e eU25) rfl rfl rfl (by assumption : JR S _ _))) _) ?_
    rintro _ T26 ⟨hHT26, w321, z320, rfl, w320, w314, w315, w316, w317, w318, w319⟩
    have hFT26 : FR md_mo_others__p S T26 := FR.tr hFU25 w321 rfl
    show Pl _ _ _ _ _ _ [iv z320] _ _
    have : Xi T26 904 65 = 0 → (fs : Int) ≤ Xi T26 904 8 ∧ Xi T26 904 8 ≤ fs + ns := JR.i (by assumption)
    have gp13 := w314
    try rw [FRR hFU25 rfl] at gp13
    try rw [show cu U25 fs = cu S fs from cu_eq (by omega) (by omega) (by omega)] at gp13
    clear w314
    refine y_pop rfl rfl ?_
    refine y_aload_n rfl rfl ?_
    refine y_bipush rfl rfl ?_
    have w322 : Xi T26 904 70 = Xi U25 904 70 := (show Xi T26 904 70 = Xi U25 904 70 from w321.x _ _ rfl)
    have w323 : Xi T26 904 79 = Xi S 904 79 := (show Xi T26 904 79 = Xi U25 904 79 from w321.x _ _ rfl).trans ((show Xi U25 904 79 = Xi S 904 79 from by rw [eU25]; exact Xi_ne (by omega)))
    have w324 : Xi T26 904 80 = Xi S 904 80 := (show Xi T26 904 80 = Xi U25 904 80 from w321.x _ _ rfl).trans ((show Xi U25 904 80 = Xi S 904 80 from by rw [eU25]; exact Xi_ne (by omega)))
    have w325 : Xi T26 904 93 = Xi S 904 93 := (show Xi T26 904 93 = Xi U25 904 93 from w321.x _ _ rfl).trans ((show Xi U25 904 93 = Xi S 904 93 from by rw [eU25]; exact Xi_ne (by omega)))
    refine y_callV rfl rfl rfl (t_mo_take__p hHT26 fs ns 112 ⟨by omega, by omega⟩ (by first | assumption | exact (VLR_FR hFT26 rfl (by assumption : VLR S _ _))) (by first | assumption | exact (by assumption : JR T26 _ _)) (rfl) (by decide) _) ?_
    rintro _ T27 ⟨hHT27, w330, rfl, w326, w327, w328⟩
    have hFT27 : FR md_mo_others__p S T27 := FR.tr hFT26 w330 rfl
    show Pl _ _ _ _ _ _ [] _ _
    have : Xi T27 904 65 = 0 → (fs : Int) ≤ Xi T27 904 8 ∧ Xi T27 904 8 ≤ fs + ns := JR.i (by assumption)
    have gp20 := w326
    try rw [FRR hFT26 rfl] at gp20
    try rw [show un7 112 = 12 from rfl] at gp20
    clear w326
    refine y_aload_n rfl rfl ?_
    have w331 : Xi T27 904 69 = Xi T26 904 69 := (show Xi T27 904 69 = Xi T26 904 69 from w330.x _ _ rfl)
    have w332 : Xi T27 904 70 = Xi U25 904 70 := (show Xi T27 904 70 = Xi T26 904 70 from w330.x _ _ rfl).trans ((show Xi T26 904 70 = Xi U25 904 70 from w321.x _ _ rfl))
    have w333 : Xi T27 904 79 = Xi S 904 79 := (show Xi T27 904 79 = Xi T26 904 79 from w330.x _ _ rfl).trans ( (show Xi T26 904 79 = Xi U25 904 79 from w321.x _ _ rfl).trans ((show Xi U25 904 79 = Xi S 904 79 from by rw [eU25]; exact Xi_ne (by omega))))
    have w334 : Xi T27 904 80 = Xi S 904 80 := (show Xi T27 904 80 = Xi T26 904 80 from w330.x _ _ rfl).trans ( (show Xi T26 904 80 = Xi U25 904 80 from w321.x _ _ rfl).trans ((show Xi U25 904 80 = Xi S 904 80 from by rw [eU25]; exact Xi_ne (by omega))))
    have w335 : Xi T27 904 93 = Xi S 904 93 := (show Xi T27 904 93 = Xi T26 904 93 from w330.x _ _ rfl).trans ( (show Xi T26 904 93 = Xi U25 904 93 from w321.x _ _ rfl).trans ((show Xi U25 904 93 = Xi S 904 93 from by rw [eU25]; exact Xi_ne (by omega))))
    refine y_callV rfl rfl rfl (t_mo_art__p hHT27 fs ns (by first | assumption | exact (VLR_FR hFT27 rfl (by assumption : VLR S _ _))) (by first | assumption | exact (by assumption : JR T27 _ _)) _) ?_
    rintro _ T28 ⟨hHT28, w340, rfl, w336, w337, w338⟩
    have hFT28 : FR md_mo_others__p S T28 := FR.tr hFT27 w340 rfl
    show Pl _ _ _ _ _ _ [] _ _
    have : Xi T28 904 65 = 0 → (fs : Int) ≤ Xi T28 904 8 ∧ Xi T28 904 8 ≤ fs + ns := JR.i (by assumption)
    have gp24 := w336
    try rw [FRR hFT27 rfl] at gp24
    clear w336
    refine y_aload_n rfl rfl ?_
    have w341 : Xi T28 904 69 = Xi T26 904 69 := (show Xi T28 904 69 = Xi T27 904 69 from w340.x _ _ rfl).trans ((show Xi T27 904 69 = Xi T26 904 69 from w330.x _ _ rfl))
    have w342 : Xi T28 904 70 = Xi U25 904 70 := (show Xi T28 904 70 = Xi T27 904 70 from w340.x _ _ rfl).trans ( (show Xi T27 904 70 = Xi T26 904 70 from w330.x _ _ rfl).trans ((show Xi T26 904 70 = Xi U25 904 70 from w321.x _ _ rfl)))
    have w343 : Xi T28 904 79 = Xi S 904 79 := (show Xi T28 904 79 = Xi T27 904 79 from w340.x _ _ rfl).trans ( (show Xi T27 904 79 = Xi T26 904 79 from w330.x _ _ rfl).trans ( (show Xi T26 904 79 = Xi U25 904 79 from w321.x _ _ rfl).trans ((show Xi U25 904 79 = Xi S 904 79 from by rw [eU25]; exact Xi_ne (by omega)))))
    have w344 : Xi T28 904 80 = Xi S 904 80 := (show Xi T28 904 80 = Xi T27 904 80 from w340.x _ _ rfl).trans ( (show Xi T27 904 80 = Xi T26 904 80 from w330.x _ _ rfl).trans ( (show Xi T26 904 80 = Xi U25 904 80 from w321.x _ _ rfl).trans ((show Xi U25 904 80 = Xi S 904 80 from by rw [eU25]; exact Xi_ne (by omega)))))
    have w345 : Xi T28 904 93 = Xi S 904 93 := (show Xi T28 904 93 = Xi T27 904 93 from w340.x _ _ rfl).trans ( (show Xi T27 904 93 = Xi T26 904 93 from w330.x _ _ rfl).trans ( (show Xi T26 904 93 = Xi U25 904 93 from w321.x _ _ rfl).trans ((show Xi U25 904 93 = Xi S 904 93 from by rw [eU25]; exact Xi_ne (by omega)))))
    refine y_callV rfl rfl rfl (t_mo_run__p hHT28 fs ns (by first | assumption | exact (VLR_FR hFT28 rfl (by assumption : VLR S _ _))) (by first | assumption | exact (by assumption : JR T28 _ _)) _) ?_
    rintro _ T29 ⟨hHT29, w353, z352, rfl, w352, w346, w347, w348, w349, w350, w351⟩
    have hFT29 : FR md_mo_others__p S T29 := FR.tr hFT28 w353 rfl
    show Pl _ _ _ _ _ _ [iv z352] _ _
    have : Xi T29 904 65 = 0 → (fs : Int) ≤ Xi T29 904 8 ∧ Xi T29 904 8 ≤ fs + ns := JR.i (by assumption)
    have gp28 := w346
    try rw [FRR hFT28 rfl] at gp28
    clear w346
    refine y_pop rfl rfl ?_
    refine y_aload_n rfl rfl ?_
    refine y_bipush rfl rfl ?_
    have w354 : Xi T29 904 70 = Xi U25 904 70 := (show Xi T29 904 70 = Xi T28 904 70 from w353.x _ _ rfl).trans ( (show Xi T28 904 70 = Xi T27 904 70 from w340.x _ _ rfl).trans ( (show Xi T27 904 70 = Xi T26 904 70 from w330.x _ _ rfl).trans ((show Xi T26 904 70 = Xi U25 904 70 from w321.x _ _ rfl))))
    have w355 : Xi T29 904 79 = Xi S 904 79 := (show Xi T29 904 79 = Xi T28 904 79 from w353.x _ _ rfl).trans ( (show Xi T28 904 79 = Xi T27 904 79 from w340.x _ _ rfl).trans ( (show Xi T27 904 79 = Xi T26 904 79 from w330.x _ _ rfl).trans ( (show Xi T26 904 79 = Xi U25 904 79 from w321.x _ _ rfl).trans ((show Xi U25 904 79 = Xi S 904 79 from by rw [eU25]; exact Xi_ne (by omega))))))
    have w356 : Xi T29 904 80 = Xi S 904 80 := (show Xi T29 904 80 = Xi T28 904 80 from w353.x _ _ rfl).trans ( (show Xi T28 904 80 = Xi T27 904 80 from w340.x _ _ rfl).trans ( (show Xi T27 904 80 = Xi T26 904 80 from w330.x _ _ rfl).trans ( (show Xi T26 904 80 = Xi U25 904 80 from w321.x _ _ rfl).trans ((show Xi U25 904 80 = Xi S 904 80 from by rw [eU25]; exact Xi_ne (by omega))))))
    have w357 : Xi T29 904 93 = Xi S 904 93 := (show Xi T29 904 93 = Xi T28 904 93 from w353.x _ _ rfl).trans ( (show Xi T28 904 93 = Xi T27 904 93 from w340.x _ _ rfl).trans ( (show Xi T27 904 93 = Xi T26 904 93 from w330.x _ _ rfl).trans ( (show Xi T26 904 93 = Xi U25 904 93 from w321.x _ _ rfl).trans ((show Xi U25 904 93 = Xi S 904 93 from by rw [eU25]; exact Xi_ne (by omega))))))
    refine y_callV rfl rfl rfl (t_mo_take__p hHT29 fs ns 117 ⟨by omega, by omega⟩ (by first | assumption | exact (VLR_FR hFT29 rfl (by assumption : VLR S _ _))) (by first | assumption | exact (by assumption : JR T29 _ _)) (rfl) (by decide) _) ?_
    rintro _ T30 ⟨hHT30, w362, rfl, w358, w359, w360⟩
    have hFT30 : FR md_mo_others__p S T30 := FR.tr hFT29 w362 rfl
    show Pl _ _ _ _ _ _ [] _ _
    have : Xi T30 904 65 = 0 → (fs : Int) ≤ Xi T30 904 8 ∧ Xi T30 904 8 ≤ fs + ns := JR.i (by assumption)
    have gp35 := w358
    try rw [FRR hFT29 rfl] at gp35
    try rw [show un7 117 = 17 from rfl] at gp35
    clear w358
    refine y_aload_n rfl rfl ?_
    have w363 : Xi T30 904 69 = Xi T29 904 69 := (show Xi T30 904 69 = Xi T29 904 69 from w362.x _ _ rfl)
    have w364 : Xi T30 904 70 = Xi U25 904 70 := (show Xi T30 904 70 = Xi T29 904 70 from w362.x _ _ rfl).trans ( (show Xi T29 904 70 = Xi T28 904 70 from w353.x _ _ rfl).trans ( (show Xi T28 904 70 = Xi T27 904 70 from w340.x _ _ rfl).trans ( (show Xi T27 904 70 = Xi T26 904 70 from w330.x _ _ rfl).trans ((show Xi T26 904 70 = Xi U25 904 70 from w321.x _ _ rfl)))))
    have w365 : Xi T30 904 79 = Xi S 904 79 := (show Xi T30 904 79 = Xi T29 904 79 from w362.x _ _ rfl).trans ( (show Xi T29 904 79 = Xi T28 904 79 from w353.x _ _ rfl).trans ( (show Xi T28 904 79 = Xi T27 904 79 from w340.x _ _ rfl).trans ( (show Xi T27 904 79 = Xi T26 904 79 from w330.x _ _ rfl).trans ( (show Xi T26 904 79 = Xi U25 904 79 from w321.x _ _ rfl).trans ((show Xi U25 904 79 = Xi S 904 79 from by rw [eU25]; exact Xi_ne (by omega)))))))
    have w366 : Xi T30 904 80 = Xi S 904 80 := (show Xi T30 904 80 = Xi T29 904 80 from w362.x _ _ rfl).trans ( (show Xi T29 904 80 = Xi T28 904 80 from w353.x _ _ rfl).trans ( (show Xi T28 904 80 = Xi T27 904 80 from w340.x _ _ rfl).trans ( (show Xi T27 904 80 = Xi T26 904 80 from w330.x _ _ rfl).trans ( (show Xi T26 904 80 = Xi U25 904 80 from w321.x _ _ rfl).trans ((show Xi U25 904 80 = Xi S 904 80 from by rw [eU25]; exact Xi_ne (by omega)))))))
    have w367 : Xi T30 904 93 = Xi S 904 93 := (show Xi T30 904 93 = Xi T29 904 93 from w362.x _ _ rfl).trans ( (show Xi T29 904 93 = Xi T28 904 93 from w353.x _ _ rfl).trans ( (show Xi T28 904 93 = Xi T27 904 93 from w340.x _ _ rfl).trans ( (show Xi T27 904 93 = Xi T26 904 93 from w330.x _ _ rfl).trans ( (show Xi T26 904 93 = Xi U25 904 93 from w321.x _ _ rfl).trans ((show Xi U25 904 93 = Xi S 904 93 from by rw [eU25]; exact Xi_ne (by omega)))))))
    refine y_callV rfl rfl rfl (t_mo_run__p hHT30 fs ns (by first | assumption | exact (VLR_FR hFT30 rfl (by assumption : VLR S _ _))) (by first | assumption | exact (by assumption : JR T30 _ _)) _) ?_
    rintro _ T31 ⟨hHT31, w375, z374, rfl, w374, w368, w369, w370, w371, w372, w373⟩
    have hFT31 : FR md_mo_others__p S T31 := FR.tr hFT30 w375 rfl
    show Pl _ _ _ _ _ _ [iv z374] _ _
    have : Xi T31 904 65 = 0 → (fs : Int) ≤ Xi T31 904 8 ∧ Xi T31 904 8 ≤ fs + ns := JR.i (by assumption)
    have gp39 := w368
    try rw [FRR hFT30 rfl] at gp39
    clear w368
    refine y_pop rfl rfl ?_
    refine y_goto rfl rfl ?_
    refine y_return rfl rfl ?_
    have w376 : Xi T31 904 70 = Xi U25 904 70 := (show Xi T31 904 70 = Xi T30 904 70 from w375.x _ _ rfl).trans ( (show Xi T30 904 70 = Xi T29 904 70 from w362.x _ _ rfl).trans ( (show Xi T29 904 70 = Xi T28 904 70 from w353.x _ _ rfl).trans ( (show Xi T28 904 70 = Xi T27 904 70 from w340.x _ _ rfl).trans ( (show Xi T27 904 70 = Xi T26 904 70 from w330.x _ _ rfl).trans ((show Xi T26 904 70 = Xi U25 904 70 from w321.x _ _ rfl))))))
    have w377 : Xi T31 904 79 = Xi S 904 79 := (show Xi T31 904 79 = Xi T30 904 79 from w375.x _ _ rfl).trans ( (show Xi T30 904 79 = Xi T29 904 79 from w362.x _ _ rfl).trans ( (show Xi T29 904 79 = Xi T28 904 79 from w353.x _ _ rfl).trans ( (show Xi T28 904 79 = Xi T27 904 79 from w340.x _ _ rfl).trans ( (show Xi T27 904 79 = Xi T26 904 79 from w330.x _ _ rfl).trans ( (show Xi T26 904 79 = Xi U25 904 79 from w321.x _ _ rfl).trans ((show Xi U25 904 79 = Xi S 904 79 from by rw [eU25]; exact Xi_ne (by omega))))))))
    have w378 : Xi T31 904 80 = Xi S 904 80 := (show Xi T31 904 80 = Xi T30 904 80 from w375.x _ _ rfl).trans ( (show Xi T30 904 80 = Xi T29 904 80 from w362.x _ _ rfl).trans ( (show Xi T29 904 80 = Xi T28 904 80 from w353.x _ _ rfl).trans ( (show Xi T28 904 80 = Xi T27 904 80 from w340.x _ _ rfl).trans ( (show Xi T27 904 80 = Xi T26 904 80 from w330.x _ _ rfl).trans ( (show Xi T26 904 80 = Xi U25 904 80 from w321.x _ _ rfl).trans ((show Xi U25 904 80 = Xi S 904 80 from by rw [eU25]; exact Xi_ne (by omega))))))))
    have w379 : Xi T31 904 93 = Xi S 904 93 := (show Xi T31 904 93 = Xi T30 904 93 from w375.x _ _ rfl).trans ( (show Xi T30 904 93 = Xi T29 904 93 from w362.x _ _ rfl).trans ( (show Xi T29 904 93 = Xi T28 904 93 from w353.x _ _ rfl).trans ( (show Xi T28 904 93 = Xi T27 904 93 from w340.x _ _ rfl).trans ( (show Xi T27 904 93 = Xi T26 904 93 from w330.x _ _ rfl).trans ( (show Xi T26 904 93 = Xi U25 904 93 from w321.x _ _ rfl).trans ((show Xi U25 904 93 = Xi S 904 93 from by rw [eU25]; exact Xi_ne (by omega))))))))
    exact ⟨hHT31, hFT31, rfl, (by first | (unfold gOo; rw [if_pos (by omega), cu_go gp13 (by omega) (by omega), gp20, gp24, gp28, gp35, gp39]) | (unfold gOo; rw [if_neg (by omega), if_pos (by omega), cu_go gp59 (by omega) (by omega), gp66, gp72, gp76, gp83, gp87]) | (unfold gOo; rw [if_neg (by omega), if_neg (by omega), if_pos (by omega), cu_go gp107 (by omega) (by omega), gp114, gp119, gp126, gp133, gp138, gp145]) | (rw [gOo_20 (by omega) (by omega) (by omega), gLo_of ((o168).trans (lo_n (Or.inr (by unfold art7; omega))))]; first | (rw [if_pos (by omega)]; exact cu_1 (by omega) (by omega)) | (rw [if_neg (by omega)]; refine Eq.trans ?_ gp219.symm; first | (rw [cu_ok (by omega)]; done) | (rw [cu_ok (by omega)]; exact pe rfl (by omega))))), (by omega), (by first | exact (fun q => by exfalso; omega) | exact (fun _ => by first | assumption | exact (by assumption : JR T31 _ _))), (by omega), (by first | (have t := gp145; exact (fun b _ => ⟨Xi T10 904 8 - fs, Xi T14 904 8 - fs, g114.trans (cu_ok (by omega)), g133.trans (cu_ok (by omega)), by have u := q119.o (by omega); omega, by have u := q138.o (by omega); omega⟩)) | exact (fun _ q => absurd q (by omega))), (by omega), (fun b => by omega)⟩
end
