section
/-! rules of the class: the head -/
theorem RI_R {S : sS} {k j : Nat} {v : Option Nat} (h : RI S) (e : rT k j = none) (er : rRw.all (fun q => !(Nat.beq q.1 k)) = true)
    (h8 : k = 0 ∧ j = 8 → ∃ t, v = some t ∧ tp t) (h9 : k = 0 ∧ j = 9 → ∃ t, v = some t ∧ tp t) (h20 : k = 20 ∧ j = 1 → ∃ t, v = some t ∧ (t = 245 ∨ tp t)) (h76 : k = 876 ∧ j = 4 → ∃ t, v = some t ∧ (t = 881 ∨ tp t)) (h99 : k = 899 ∧ j = 4 → ∃ i, v = some (248 + i) ∧ i < 24) : RI (uR S k j v) := by
  obtain ⟨r1, r2, r3, r4, r5, r6, r7⟩ := h
  have o : ∀ {P : Nat → Prop} (a b : Nat), (∃ t, S.2.2 a b = some t ∧ P t) → (k = a ∧ j = b → ∃ t, v = some t ∧ P t) → ∃ t, (uR S k j v).2.2 a b = some t ∧ P t := fun a b x y => by
    by_cases q : a = k ∧ b = j
    · obtain ⟨rfl, rfl⟩ := q
      rw [uR_s]; exact y ⟨rfl, rfl⟩
    · rw [uR_o q]; exact x
  refine ⟨fun a b x hx => ?_, fun q hq i hi => ?_, o 0 8 r3 h8, o 0 9 r4 h9, o 20 1 r5 h20, o 876 4 r6 h76, ?_⟩
  · rw [uR_o (fun q => by rw [q.1, q.2, e] at hx; cases hx)]; exact r1 a b x hx
  · have := List.all_eq_true.mp er q hq
    rw [uR_o (fun z => by rw [z.1] at this; simp at this)]; exact r2 q hq i hi
  · by_cases q : 899 = k ∧ 4 = j
    · obtain ⟨rfl, rfl⟩ := q
      rw [uR_s]; exact h99 ⟨rfl, rfl⟩
    · rw [uR_o q]; exact r7
theorem Xi_uR {S : sS} {k j : Nat} {v : Option Nat} (a b : Nat) : Xi (uR S k j v) a b = Xi S a b := rfl
def soR (sort : Int) : Int := if sort = 3 then 0 else if sort = 4 then 2 else if sort = 5 then 1 else 3
def RHB (l : List rec) (S B : sS) (ru : Nat) (sort : Int) : Prop := FR l S B ∧ RLM B ru (soR sort) (-1) (-1) (-1) 0 0 0 (Xi S 246 5) ∧ KRU S B ru ∧ Xi B 895 3 = 53 ∧ Xi B 895 4 = -1 ∧ Xi B 899 5 = (if sort = 3 ∨ sort = 4 then 1 else 2) ∧ B.2.2 899 4 = some (248 + ru) ∧ Xi B 246 5 = Xi S 246 5 ∧ Xi B 876 8 = 0 ∧ (∀ c j : Nat, c < 600 → Xi B (276 + c) j = Xi S (276 + c) j)
theorem rlm_e {T U : sS} {ru : Nat} {s a o k n tc pc f : Int} (e : ∀ j, Xi U (248 + ru) j = Xi T (248 + ru) j) (h : RLM T ru s a o k n tc pc f) : RLM U ru s a o k n tc pc f := by
  unfold RLM at h ⊢
  rw [e, e, e, e, e, e, e, e]
  exact h
def onA (B : sS) : Prop := 0 ≤ ty7 B (re7 (ty7 B) (Xi B 899 5)) ∧ ty7 B (re7 (ty7 B) (Xi B 899 5)) ≤ 3
noncomputable def hdB (B : sS) : sS := uI B 899 5 (Int32.ofInt (@ite Int (onA B) (Classical.propDecidable _) (re7 (ty7 B) (re7 (ty7 B) (Xi B 899 5) + 1)) (re7 (ty7 B) (Xi B 899 5))))
theorem hdB_y {B C : sS} {v : Int} (h : onA B) (e : C = uI B 899 5 (Int32.ofInt v)) (hv : v = re7 (ty7 B) (re7 (ty7 B) (Xi B 899 5) + 1)) : C = hdB B := by
  unfold hdB; rw [if_pos h, ← hv]; exact e
theorem hdB_n {B C : sS} {v : Int} (h : ¬ onA B) (e : C = uI B 899 5 (Int32.ofInt v)) (hv : v = re7 (ty7 B) (Xi B 899 5)) : C = hdB B := by
  unfold hdB; rw [if_neg h, ← hv]; exact e
def RHA (l : List rec) (B S1 : sS) (ru : Nat) (z : Int) : Prop := ∃ (D : sS) (w : Int), FR l (hdB B) D ∧ (w = 0 ∨ w = 1) ∧ (onA B → AOO (hdB B) D ru (Xi B 899 5) (re7 (ty7 B) (Xi B 899 5)) (Xi (hdB B) 899 5) w ∧ FR md_rr_actingOn__p (hdB B) D) ∧ (¬ onA B → AAO (hdB B) D ru (Xi B 899 5) (re7 (ty7 B) (Xi B 899 5)) w ∧ FR md_rr_actingAlone__p (hdB B) D) ∧ (w = 0 → z = 0 ∧ S1 = D) ∧ (w = 1 → z = 1 ∧ S1 = uI (uI D 895 3 (Int32.ofInt 53)) 895 4 (Int32.ofInt (nnK D ru)))
def RHO (l : List rec) (S S1 : sS) (sort z : Int) : Prop := (24 ≤ Xi S 246 2 → z = 0 ∧ FTO S S1 9 0) ∧ (Xi S 246 2 < 24 → ∃ B : sS, RHB l S B (Xi S 246 2).toNat sort ∧ (sort = 6 → z = 1 ∧ S1 = B) ∧ (sort ≠ 6 → RHA l B S1 (Xi S 246 2).toNat z))
theorem rho_6 {l : List rec} {S B : sS} {ru : Nat} {z sort : Int} (hr : ru = (Xi S 246 2).toNat) (h4 : Xi S 246 2 < 24) (b : RHB l S B ru sort) (q : sort = 6) (hz : z = 1) : RHO l S B sort z := by
  subst hr
  exact ⟨fun q => absurd q (by omega), fun _ => ⟨B, b, fun _ => ⟨hz, rfl⟩, fun w => absurd q w⟩⟩
theorem rho_a {l : List rec} {S B S1 : sS} {ru : Nat} {z sort : Int} (hr : ru = (Xi S 246 2).toNat) (h4 : Xi S 246 2 < 24) (b : RHB l S B ru sort) (q : sort ≠ 6) (a : RHA l B S1 ru z) : RHO l S S1 sort z := by
  subst hr
  exact ⟨fun q => absurd q (by omega), fun _ => ⟨B, b, fun w => absurd w q, fun _ => a⟩⟩
theorem rha_y {l : List rec} {B C D S1 : sS} {ru : Nat} {a b h w z : Int} (o : onA B) (hC : C = hdB B) (f : FR l C D) (f2 : FR md_rr_actingOn__p C D) (ha : a = Xi B 899 5) (hb : b = re7 (ty7 B) (Xi B 899 5)) (hh : h = Xi C 899 5) (hw : w = 0 ∨ w = 1) (x : AOO C D ru a b h w) (e0 : w = 0 → z = 0 ∧ S1 = D) (e1 : w = 1 → z = 1 ∧ S1 = uI (uI D 895 3 (Int32.ofInt 53)) 895 4 (Int32.ofInt (nnK D ru))) : RHA l B S1 ru z := by
  subst hb ha hh hC
  exact ⟨D, w, f, hw, fun _ => ⟨x, f2⟩, fun q => absurd o q, e0, e1⟩
theorem rha_n {l : List rec} {B C D S1 : sS} {ru : Nat} {a b w z : Int} (o : ¬ onA B) (hC : C = hdB B) (f : FR l C D) (f2 : FR md_rr_actingAlone__p C D) (ha : a = Xi B 899 5) (hb : b = re7 (ty7 B) (Xi B 899 5)) (hw : w = 0 ∨ w = 1) (x : AAO C D ru a b w) (e0 : w = 0 → z = 0 ∧ S1 = D) (e1 : w = 1 → z = 1 ∧ S1 = uI (uI D 895 3 (Int32.ofInt 53)) 895 4 (Int32.ofInt (nnK D ru))) : RHA l B S1 ru z := by
  subst hb ha hC
  exact ⟨D, w, f, hw, fun q => absurd q o, fun _ => ⟨x, f2⟩, e0, e1⟩

def md_rr_ruleHead__p : List rec := [(246, 247, 5, 6), (248, 272, 0, 100000), (276, 876, 0, 1), (276, 876, 1, 2), (276, 876, 2, 3), (276, 876, 3, 4), (276, 876, 4, 5), (276, 876, 5, 6), (276, 876, 6, 7), (876, 877, 8, 9), (876, 877, 9, 10), (895, 896, 3, 4), (895, 896, 4, 5), (895, 896, 5, 6), (895, 896, 6, 7), (895, 896, 7, 8), (895, 896, 8, 9), (895, 896, 9, 10), (895, 896, 12, 13), (895, 896, 13, 14), (895, 896, 14, 15), (896, 897, 0, 100000), (897, 898, 0, 100000), (898, 899, 0, 100000), (899, 900, 4, 5), (899, 900, 5, 6)]
abbrev Q_rr_ruleHead__p (S : sS) (sort : Int) : pst := fun r S1 => RI S1 ∧ FR md_rr_ruleHead__p S S1 ∧ (∃ z : Int, r = some (iv z) ∧ (0 ≤ z ∧ z ≤ 1) ∧ (RHO md_rr_ruleHead__p S S1 sort z))
set_option maxRecDepth 100000 in
theorem t_rr_ruleHead__p {S : sS} (hH : RI S) (sort : Int) (hsort : 3 ≤ sort ∧ sort ≤ 6) (h13 : 0 ≤ Xi S 1 3 ∧ Xi S 1 3 ≤ 200) (hCE : CEN S) (hf : Xi S 876 8 = 0) (hr : Xi S 876 7 ≤ 5130) (h7 : 0 ≤ Xi S 876 7) (hcc : 0 ≤ Xi S 246 5 ∧ Xi S 246 5 + 6 ≤ 600) (hr2 : 0 ≤ Xi S 246 2) (hak : Hid (∀ j : Nat, -2 ≤ Xi S 19 j ∧ Xi S 19 j ≤ 15)) (d : Nat) : Mp lay0 (d + 6) m_rr_ruleHead [.ref 899, iv sort] S (Q_rr_ruleHead__p S sort) := by
  refine Mp_R rfl rfl (fun fu => ?_)
  have hF : FR md_rr_ruleHead__p S S := FR.rf
  have w1 : -2147483648 ≤ Xi S 1 3 ∧ Xi S 1 3 ≤ 2147483647 := Xi_rgI
  have w2 : -2147483648 ≤ Xi S 246 2 ∧ Xi S 246 2 ≤ 2147483647 := Xi_rgI
  have w3 : -2147483648 ≤ Xi S 246 5 ∧ Xi S 246 5 ≤ 2147483647 := Xi_rgI
  have w4 : -2147483648 ≤ Xi S 876 7 ∧ Xi S 876 7 ≤ 2147483647 := Xi_rgI
  have w5 : -2147483648 ≤ Xi S 876 8 ∧ Xi S 876 8 ≤ 2147483647 := Xi_rgI
  have w6 : -2147483648 ≤ Xi S 895 3 ∧ Xi S 895 3 ≤ 2147483647 := Xi_rgI
  have w7 : -2147483648 ≤ Xi S 895 4 ∧ Xi S 895 4 ≤ 2147483647 := Xi_rgI
  have w8 : -2147483648 ≤ Xi S 899 5 ∧ Xi S 899 5 ≤ 2147483647 := Xi_rgI
  refine y_aload_n rfl rfl ?_
  refine y_gfr rfl rfl rfl rfl rfl (hH.r 899 3 246 rfl) ?_
  refine y_gfi rfl rfl rfl rfl rfl ?_
  refine y_bipush rfl rfl ?_
  refine y_icmp_lt rfl rfl (by unfold rg; omega) (by unfold rg; omega) (fun w9 => ?_) (fun w10 => ?_)
  · refine y_aload_n rfl rfl ?_
    refine y_aload_n rfl rfl ?_
    refine y_gfr rfl rfl rfl rfl rfl (hH.r 899 3 246 rfl) ?_
    refine y_iload_n rfl rfl ?_
    refine y_callS rfl rfl (by decide) rfl (t_rr_sortOfRule__p hH sort ⟨by omega, by omega⟩ _) ?_
    rintro _ _ ⟨rfl, z11, rfl, w11, v29⟩
    show Pl _ _ _ _ _ _ [iv z11, .ref 246, .ref 899] _ _
    refine y_callV rfl rfl rfl (t_bo_startRule__p hH z11 ⟨by omega, by omega⟩ (by first | assumption | omega) _) ?_
    rintro _ T1 ⟨hHT1, w13, z12, rfl, w12, p32, k32, x32⟩
    have hFT1 : FR md_rr_ruleHead__p S T1 := FR.tr hF w13 rfl
    show Pl _ _ _ _ _ _ [.ref (248 + z12), .ref 899] _ _
    have F32 := (by assumption : FR md_bo_startRule__p S T1)
    refine y_pfr rfl rfl rfl rfl ?_
    obtain ⟨U2, eU2⟩ : ∃ T : sS, T = uR T1 899 4 (some (248 + z12)) := ⟨_, rfl⟩
    rw [← eU2]
    have hHU2 : RI U2 := by rw [eU2]; exact RI_R hHT1 rfl rfl (fun q => absurd q.1 (by decide)) (fun q => absurd q.1 (by decide)) (fun q => absurd q.1 (by decide)) (fun q => absurd q.1 (by decide)) (fun _ => ⟨_, rfl, by first | assumption | (right; assumption) | omega⟩)
    have hFU2 : FR md_rr_ruleHead__p S U2 := by rw [eU2]; exact FR.wR hFT1 (mdf_i (r := (899, 900, 4, 5)) (List.mem_of_getElem? (i := 24) rfl) (inR_i (by omega) (by omega) (by omega) (by omega)))
    have e35 := eU2
    have R35 : z12 = (Xi S 246 2).toNat := by omega
    have h35 : U2.2.2 899 4 = some (248 + z12) := by rw [e35]; exact uR_s
    refine y_aload_n rfl rfl ?_
    refine y_gfr rfl rfl rfl rfl rfl (hHU2.r 899 2 895 rfl) ?_
    refine y_bipush rfl rfl ?_
    refine y_iconst rfl ?_
    have w14 : Xi U2 246 2 = Xi S 246 2 := (show Xi U2 246 2 = Xi T1 246 2 from by rw [eU2]; rfl).trans ((show Xi T1 246 2 = Xi S 246 2 from w13.x _ _ rfl))
    have w15 : Xi U2 246 5 = Xi S 246 5 := (show Xi U2 246 5 = Xi T1 246 5 from by rw [eU2]; rfl).trans ((show Xi T1 246 5 = Xi S 246 5 from w13.x _ _ rfl))
    have w16 : Xi U2 876 8 = Xi S 876 8 := (show Xi U2 876 8 = Xi T1 876 8 from by rw [eU2]; rfl).trans ((show Xi T1 876 8 = Xi S 876 8 from w13.x _ _ rfl))
    have w17 : Xi U2 895 3 = Xi S 895 3 := (show Xi U2 895 3 = Xi T1 895 3 from by rw [eU2]; rfl).trans ((show Xi T1 895 3 = Xi S 895 3 from w13.x _ _ rfl))
    have w18 : Xi U2 895 4 = Xi S 895 4 := (show Xi U2 895 4 = Xi T1 895 4 from by rw [eU2]; rfl).trans ((show Xi T1 895 4 = Xi S 895 4 from w13.x _ _ rfl))
    have w19 : Xi U2 899 5 = Xi S 899 5 := (show Xi U2 899 5 = Xi T1 899 5 from by rw [eU2]; rfl).trans ((show Xi T1 899 5 = Xi S 899 5 from w13.x _ _ rfl))
    refine y_callV rfl rfl rfl (t_me_startSelf__p hHU2 53 (-1) ⟨by omega, by omega⟩ ⟨by omega, by omega⟩ _) ?_
    rintro _ T3 ⟨hHT3, w21, rfl, e45⟩
    have hFT3 : FR md_rr_ruleHead__p S T3 := FR.tr hFU2 w21 rfl
    show Pl _ _ _ _ _ _ [] _ _
    refine y_aload_n rfl rfl ?_
    refine y_iload_n rfl rfl ?_
    refine y_iconst rfl ?_
    refine y_icmp_eq rfl rfl (by unfold rg; omega) (by unfold rg; omega) (fun w22 => ?_) (fun w23 => ?_)
    · refine y_iconst rfl ?_
      refine y_goto rfl rfl ?_
      refine y_pfi rfl rfl rfl rfl ?_
      obtain ⟨U4, eU4⟩ : ∃ T : sS, T = uI T3 899 5 (Int32.ofInt 1) := ⟨_, rfl⟩
      rw [← eU4]
      have hHU4 : RI U4 := by rw [eU4]; exact RI_w hHT3
      have hFU4 : FR md_rr_ruleHead__p S U4 := by rw [eU4]; exact FR.wI hFT3 (mdf_i (r := (899, 900, 5, 6)) (List.mem_of_getElem? (i := 25) rfl) (inR_i (by omega) (by omega) (by omega) (by omega)))
      have w24 : Xi U4 899 5 = 1 := by rw [eU4]; exact Xi_same (by unfold rg; omega)
      have e64 := eU4
      have B64 : Hid (RHB md_rr_ruleHead__p S U4 z12 sort) := ⟨hFU4, by unfold soR; rw [← v29]; exact rlm_e (fun j => by rw [e64, Xi_ne (by omega), e45, Xi_ne (by omega), Xi_ne (by omega), e35]; rfl) x32, kru_o e64 (by omega) (by rw [e45]; exact kru_o rfl (by omega) (kru_o rfl (by omega) (by rw [e35]; exact k32))), by rw [e64, Xi_ne (by omega), e45, Xi_ne (by omega)]; exact Xi_same (by unfold rg; omega), by rw [e64, Xi_ne (by omega), e45]; exact Xi_same (by unfold rg; omega), by rw [e64]; refine (Xi_same (by unfold rg; omega)).trans ?_; first | (rw [if_pos (by omega)]) | (rw [if_neg (by omega)]), by rw [e64]; show _ = some _; rw [e45]; exact h35, by rw [e64, Xi_ne (by omega), e45, Xi_ne (by omega), Xi_ne (by omega), e35]; exact F32.x 246 5 rfl, by rw [e64, Xi_ne (by omega), e45, Xi_ne (by omega), Xi_ne (by omega), e35]; exact (F32.x 876 8 rfl).trans hf, fun c j q => by rw [e64, Xi_ne (by omega), e45, Xi_ne (by omega), Xi_ne (by omega), e35]; exact (Xi_uR _ _).trans (FR_cl F32 rfl q)⟩
      refine y_iload_n rfl rfl ?_
      refine y_bipush rfl rfl ?_
      refine y_icmp_eq rfl rfl (by unfold rg; omega) (by unfold rg; omega) (fun w25 => ?_) (fun w26 => ?_)
      · refine y_iconst rfl ?_
        refine y_ireturn rfl rfl ?_
        have w27 : Xi U4 246 2 = Xi S 246 2 := (show Xi U4 246 2 = Xi T3 246 2 from by rw [eU4]; exact Xi_ne (by omega)).trans ( (show Xi T3 246 2 = Xi U2 246 2 from w21.x _ _ rfl).trans ( (show Xi U2 246 2 = Xi T1 246 2 from by rw [eU2]; rfl).trans ((show Xi T1 246 2 = Xi S 246 2 from w13.x _ _ rfl))))
        have w28 : Xi U4 246 5 = Xi S 246 5 := (show Xi U4 246 5 = Xi T3 246 5 from by rw [eU4]; exact Xi_ne (by omega)).trans ( (show Xi T3 246 5 = Xi U2 246 5 from w21.x _ _ rfl).trans ( (show Xi U2 246 5 = Xi T1 246 5 from by rw [eU2]; rfl).trans ((show Xi T1 246 5 = Xi S 246 5 from w13.x _ _ rfl))))
        have w29 : Xi U4 876 8 = Xi S 876 8 := (show Xi U4 876 8 = Xi T3 876 8 from by rw [eU4]; exact Xi_ne (by omega)).trans ( (show Xi T3 876 8 = Xi U2 876 8 from w21.x _ _ rfl).trans ( (show Xi U2 876 8 = Xi T1 876 8 from by rw [eU2]; rfl).trans ((show Xi T1 876 8 = Xi S 876 8 from w13.x _ _ rfl))))
        have w30 : Xi U4 895 3 = Xi T3 895 3 := (show Xi U4 895 3 = Xi T3 895 3 from by rw [eU4]; exact Xi_ne (by omega))
        have w31 : Xi U4 895 4 = Xi T3 895 4 := (show Xi U4 895 4 = Xi T3 895 4 from by rw [eU4]; exact Xi_ne (by omega))
        exact ⟨hHU4, hFU4, _, rfl, ⟨by omega, by omega⟩, (by first | (have u := Y19; exact ⟨fun _ => ⟨by omega, Y19⟩, fun q => absurd q (by omega)⟩) | (have u := K152; first | (have u := F131; exact rho_a R35 (by omega) B64.o (by omega) (rha_y (O95.1 (by omega)) H120 (FR.tr FR.rf F131 rfl) F131 (by first | rfl | omega) b83 rfl (by omega) o131 (fun q => absurd q (by omega)) (fun q => ⟨rfl, e152⟩))) | exact rho_a R35 (by omega) B64.o (by omega) (rha_n (O95.2 (by omega)) H120 (FR.tr FR.rf F143 rfl) F143 (by first | rfl | omega) b83 (by omega) o143 (fun q => absurd q (by omega)) (fun q => ⟨rfl, e152⟩))) | (have u := F131; exact rho_a R35 (by omega) B64.o (by omega) (rha_y (O95.1 (by omega)) H120 (FR.tr FR.rf F131 rfl) F131 (by first | rfl | omega) b83 rfl (by omega) o131 (fun q => ⟨rfl, rfl⟩) (fun q => absurd q (by omega)))) | (have u := F143; exact rho_a R35 (by omega) B64.o (by omega) (rha_n (O95.2 (by omega)) H120 (FR.tr FR.rf F143 rfl) F143 (by first | rfl | omega) b83 (by omega) o143 (fun q => ⟨rfl, rfl⟩) (fun q => absurd q (by omega)))) | exact rho_6 R35 (by omega) B64.o (by omega) rfl)⟩
      · refine y_aload_n rfl rfl ?_
        refine y_gfi rfl rfl rfl rfl rfl ?_
        refine y_istore_n rfl rfl rfl ?_
        refine y_aload_n rfl rfl ?_
        refine y_gfr rfl rfl rfl rfl rfl (hHU4.r 899 0 876 rfl) ?_
        refine y_iload_n rfl rfl ?_
        have w32 : Xi U4 246 2 = Xi S 246 2 := (show Xi U4 246 2 = Xi T3 246 2 from by rw [eU4]; exact Xi_ne (by omega)).trans ( (show Xi T3 246 2 = Xi U2 246 2 from w21.x _ _ rfl).trans ( (show Xi U2 246 2 = Xi T1 246 2 from by rw [eU2]; rfl).trans ((show Xi T1 246 2 = Xi S 246 2 from w13.x _ _ rfl))))
        have w33 : Xi U4 246 5 = Xi S 246 5 := (show Xi U4 246 5 = Xi T3 246 5 from by rw [eU4]; exact Xi_ne (by omega)).trans ( (show Xi T3 246 5 = Xi U2 246 5 from w21.x _ _ rfl).trans ( (show Xi U2 246 5 = Xi T1 246 5 from by rw [eU2]; rfl).trans ((show Xi T1 246 5 = Xi S 246 5 from w13.x _ _ rfl))))
        have w34 : Xi U4 876 7 = Xi S 876 7 := (show Xi U4 876 7 = Xi T3 876 7 from by rw [eU4]; exact Xi_ne (by omega)).trans ( (show Xi T3 876 7 = Xi U2 876 7 from w21.x _ _ rfl).trans ( (show Xi U2 876 7 = Xi T1 876 7 from by rw [eU2]; rfl).trans ((show Xi T1 876 7 = Xi S 876 7 from w13.x _ _ rfl))))
        have w35 : Xi U4 876 8 = Xi S 876 8 := (show Xi U4 876 8 = Xi T3 876 8 from by rw [eU4]; exact Xi_ne (by omega)).trans ( (show Xi T3 876 8 = Xi U2 876 8 from w21.x _ _ rfl).trans ( (show Xi U2 876 8 = Xi T1 876 8 from by rw [eU2]; rfl).trans ((show Xi T1 876 8 = Xi S 876 8 from w13.x _ _ rfl))))
        have w36 : Xi U4 895 3 = Xi T3 895 3 := (show Xi U4 895 3 = Xi T3 895 3 from by rw [eU4]; exact Xi_ne (by omega))
        have w37 : Xi U4 895 4 = Xi T3 895 4 := (show Xi U4 895 4 = Xi T3 895 4 from by rw [eU4]; exact Xi_ne (by omega))
        refine y_callV rfl rfl rfl (t_to_runEnd__p hHU4 (Xi U4 899 5) ⟨by omega, by omega⟩ _) ?_
        rintro _ _ ⟨rfl, z40, rfl, w40, w38, w39⟩
        show Pl _ _ _ _ _ _ [iv z40] _ _
        have gq83 := w38
        rw [FRT hFU4 rfl rfl] at gq83
        try rw [show Xi U4 890 1 = Xi S 890 1 by omega] at gq83
        try rw [show (Xi U4 899 5) = 1 by omega] at gq83
        clear w38
        have b83 : z40 = re7 (ty7 U4) (Xi U4 899 5) := by rw [ty7_F hFU4 rfl]; first | (rw [show Xi U4 899 5 = 1 by omega]; exact gq83.symm) | (rw [show Xi U4 899 5 = 2 by omega]; exact gq83.symm)
        refine y_istore_n rfl rfl rfl ?_
        refine y_aload_n rfl rfl ?_
        refine y_gfr rfl rfl rfl rfl rfl (hHU4.r 899 0 876 rfl) ?_
        refine y_iload_n rfl rfl ?_
        refine y_callV rfl rfl rfl (t_to_typeAt__p hHU4 z40 ⟨by omega, by omega⟩ _) ?_
        rintro _ _ ⟨rfl, z49, rfl, w49, w47, w48⟩
        show Pl _ _ _ _ _ _ [iv z49] _ _
        have gq92 := w47
        rw [FRT hFU4 rfl rfl] at gq92
        try rw [show Xi U4 890 1 = Xi S 890 1 by omega] at gq92
        clear w47
        have t92 : z49 = ty7 U4 (re7 (ty7 U4) (Xi U4 899 5)) := by rw [← b83, ty7_F hFU4 rfl]; exact gq92.symm
        refine y_callS rfl rfl (by decide) rfl (t_rs_isArt__p hHU4 z49 ⟨by omega, by omega⟩ _) ?_
        rintro _ _ ⟨rfl, z55, rfl, w55, q95, n95⟩
        show Pl _ _ _ _ _ _ [iv z55] _ _
        have O95 : (z55 = 1 → onA U4) ∧ (z55 = 0 → ¬ onA U4) := ⟨fun q => by unfold onA; rw [← t92]; exact q95 q, fun q w => by unfold onA at w; rw [← t92] at w; have := n95 q; omega⟩
        clear q95 n95
        refine y_istore rfl rfl rfl ?_
        refine y_aload_n rfl rfl ?_
        refine y_iload rfl rfl ?_
        refine y_if_eq rfl rfl (by unfold rg; omega) (fun w56 => ?_) (fun w57 => ?_)
        · refine y_iload_n rfl rfl ?_
          refine y_pfi rfl rfl rfl rfl ?_
          obtain ⟨U5, eU5⟩ : ∃ T : sS, T = uI U4 899 5 (Int32.ofInt z40) := ⟨_, rfl⟩
          rw [← eU5]
          have hHU5 : RI U5 := by rw [eU5]; exact RI_w hHU4
          have hFU5 : FR md_rr_ruleHead__p S U5 := by rw [eU5]; exact FR.wI hFU4 (mdf_i (r := (899, 900, 5, 6)) (List.mem_of_getElem? (i := 25) rfl) (inR_i (by omega) (by omega) (by omega) (by omega)))
          have w58 : Xi U5 899 5 = z40 := by rw [eU5]; exact Xi_same (by unfold rg; omega)
          have H120 : U5 = hdB U4 := by first | (have t := b113; exact hdB_y (O95.1 (by omega)) eU5 b113) | exact hdB_n (O95.2 (by omega)) eU5 b83
          refine y_iload rfl rfl ?_
          refine y_if_eq rfl rfl (by unfold rg; omega) (fun w59 => ?_) (fun w60 => ?_)
          · refine y_aload_n rfl rfl ?_
            refine y_iload_n rfl rfl ?_
            refine y_iload_n rfl rfl ?_
            have w61 : Xi U5 1 3 = Xi S 1 3 := (show Xi U5 1 3 = Xi U4 1 3 from by rw [eU5]; exact Xi_ne (by omega)).trans ( (show Xi U4 1 3 = Xi T3 1 3 from by rw [eU4]; exact Xi_ne (by omega)).trans ( (show Xi T3 1 3 = Xi U2 1 3 from w21.x _ _ rfl).trans ( (show Xi U2 1 3 = Xi T1 1 3 from by rw [eU2]; rfl).trans ((show Xi T1 1 3 = Xi S 1 3 from w13.x _ _ rfl)))))
            have w62 : Xi U5 246 2 = Xi S 246 2 := (show Xi U5 246 2 = Xi U4 246 2 from by rw [eU5]; exact Xi_ne (by omega)).trans ( (show Xi U4 246 2 = Xi T3 246 2 from by rw [eU4]; exact Xi_ne (by omega)).trans ( (show Xi T3 246 2 = Xi U2 246 2 from w21.x _ _ rfl).trans ( (show Xi U2 246 2 = Xi T1 246 2 from by rw [eU2]; rfl).trans ((show Xi T1 246 2 = Xi S 246 2 from w13.x _ _ rfl)))))
            have w63 : Xi U5 246 5 = Xi S 246 5 := (show Xi U5 246 5 = Xi U4 246 5 from by rw [eU5]; exact Xi_ne (by omega)).trans ( (show Xi U4 246 5 = Xi T3 246 5 from by rw [eU4]; exact Xi_ne (by omega)).trans ( (show Xi T3 246 5 = Xi U2 246 5 from w21.x _ _ rfl).trans ( (show Xi U2 246 5 = Xi T1 246 5 from by rw [eU2]; rfl).trans ((show Xi T1 246 5 = Xi S 246 5 from w13.x _ _ rfl)))))
            have w64 : Xi U5 876 8 = Xi S 876 8 := (show Xi U5 876 8 = Xi U4 876 8 from by rw [eU5]; exact Xi_ne (by omega)).trans ( (show Xi U4 876 8 = Xi T3 876 8 from by rw [eU4]; exact Xi_ne (by omega)).trans ( (show Xi T3 876 8 = Xi U2 876 8 from w21.x _ _ rfl).trans ( (show Xi U2 876 8 = Xi T1 876 8 from by rw [eU2]; rfl).trans ((show Xi T1 876 8 = Xi S 876 8 from w13.x _ _ rfl)))))
            have w65 : Xi U5 895 3 = Xi T3 895 3 := (show Xi U5 895 3 = Xi U4 895 3 from by rw [eU5]; exact Xi_ne (by omega)).trans ((show Xi U4 895 3 = Xi T3 895 3 from by rw [eU4]; exact Xi_ne (by omega)))
            have w66 : Xi U5 895 4 = Xi T3 895 4 := (show Xi U5 895 4 = Xi U4 895 4 from by rw [eU5]; exact Xi_ne (by omega)).trans ((show Xi U4 895 4 = Xi T3 895 4 from by rw [eU4]; exact Xi_ne (by omega)))
            refine y_callV rfl rfl rfl (t_rr_actingAlone__p hHU5 z12 (Xi U4 899 5) z40 ⟨by omega, by omega⟩ ⟨by omega, by omega⟩ ((show U5.2.2 899 4 = U4.2.2 899 4 from by rw [eU5]; rfl).trans ((show U4.2.2 899 4 = T3.2.2 899 4 from by rw [eU4]; rfl).trans ((w21 899 4 rfl).2.2.trans (show U2.2.2 899 4 = some (248 + z12) from by rw [eU2]; exact uR_s)))) (by omega) (by first | assumption | omega) (by first | assumption | exact (CEN_FR hFU5 rfl rfl (by assumption : CEN S))) (by first | assumption | omega) _) ?_
            rintro _ T6 ⟨hHT6, w68, z67, rfl, w67, o143⟩
            have hFT6 : FR md_rr_ruleHead__p S T6 := FR.tr hFU5 w68 rfl
            show Pl _ _ _ _ _ _ [iv z67] _ _
            have F143 := (by assumption : FR md_rr_actingAlone__p U5 T6)
            refine y_if_ne rfl rfl (by unfold rg; omega) (fun w69 => ?_) (fun w70 => ?_)
            · refine y_aload_n rfl rfl ?_
              have w71 : Xi T6 246 2 = Xi S 246 2 := (show Xi T6 246 2 = Xi U5 246 2 from w68.x _ _ rfl).trans ( (show Xi U5 246 2 = Xi U4 246 2 from by rw [eU5]; exact Xi_ne (by omega)).trans ( (show Xi U4 246 2 = Xi T3 246 2 from by rw [eU4]; exact Xi_ne (by omega)).trans ( (show Xi T3 246 2 = Xi U2 246 2 from w21.x _ _ rfl).trans ( (show Xi U2 246 2 = Xi T1 246 2 from by rw [eU2]; rfl).trans ((show Xi T1 246 2 = Xi S 246 2 from w13.x _ _ rfl))))))
              have w72 : Xi T6 246 5 = Xi S 246 5 := (show Xi T6 246 5 = Xi U5 246 5 from w68.x _ _ rfl).trans ( (show Xi U5 246 5 = Xi U4 246 5 from by rw [eU5]; exact Xi_ne (by omega)).trans ( (show Xi U4 246 5 = Xi T3 246 5 from by rw [eU4]; exact Xi_ne (by omega)).trans ( (show Xi T3 246 5 = Xi U2 246 5 from w21.x _ _ rfl).trans ( (show Xi U2 246 5 = Xi T1 246 5 from by rw [eU2]; rfl).trans ((show Xi T1 246 5 = Xi S 246 5 from w13.x _ _ rfl))))))
              have w73 : Xi T6 895 3 = Xi T3 895 3 := (show Xi T6 895 3 = Xi U5 895 3 from w68.x _ _ rfl).trans ( (show Xi U5 895 3 = Xi U4 895 3 from by rw [eU5]; exact Xi_ne (by omega)).trans ((show Xi U4 895 3 = Xi T3 895 3 from by rw [eU4]; exact Xi_ne (by omega))))
              have w74 : Xi T6 895 4 = Xi T3 895 4 := (show Xi T6 895 4 = Xi U5 895 4 from w68.x _ _ rfl).trans ( (show Xi U5 895 4 = Xi U4 895 4 from by rw [eU5]; exact Xi_ne (by omega)).trans ((show Xi U4 895 4 = Xi T3 895 4 from by rw [eU4]; exact Xi_ne (by omega))))
              have w75 : Xi T6 899 5 = Xi U5 899 5 := (show Xi T6 899 5 = Xi U5 899 5 from w68.x _ _ rfl)
              refine y_callV rfl rfl rfl (t_rr_nameNoun__p hHT6 z12 ((w68 899 4 rfl).2.2.trans ((show U5.2.2 899 4 = U4.2.2 899 4 from by rw [eU5]; rfl).trans ((show U4.2.2 899 4 = T3.2.2 899 4 from by rw [eU4]; rfl).trans ((w21 899 4 rfl).2.2.trans (show U2.2.2 899 4 = some (248 + z12) from by rw [eU2]; exact uR_s))))) (by omega) _) ?_
              rintro _ T7 ⟨hHT7, w77, rfl, e152⟩
              have hFT7 : FR md_rr_ruleHead__p S T7 := FR.tr hFT6 w77 rfl
              show Pl _ _ _ _ _ _ [] _ _
              have K152 : True := trivial
              refine y_iconst rfl ?_
              refine y_ireturn rfl rfl ?_
              have w78 : Xi T7 246 2 = Xi S 246 2 := (show Xi T7 246 2 = Xi T6 246 2 from w77.x _ _ rfl).trans ( (show Xi T6 246 2 = Xi U5 246 2 from w68.x _ _ rfl).trans ( (show Xi U5 246 2 = Xi U4 246 2 from by rw [eU5]; exact Xi_ne (by omega)).trans ( (show Xi U4 246 2 = Xi T3 246 2 from by rw [eU4]; exact Xi_ne (by omega)).trans ( (show Xi T3 246 2 = Xi U2 246 2 from w21.x _ _ rfl).trans ( (show Xi U2 246 2 = Xi T1 246 2 from by rw [eU2]; rfl).trans ((show Xi T1 246 2 = Xi S 246 2 from w13.x _ _ rfl)))))))
              have w79 : Xi T7 246 5 = Xi S 246 5 := (show Xi T7 246 5 = Xi T6 246 5 from w77.x _ _ rfl).trans ( (show Xi T6 246 5 = Xi U5 246 5 from w68.x _ _ rfl).trans ( (show Xi U5 246 5 = Xi U4 246 5 from by rw [eU5]; exact Xi_ne (by omega)).trans ( (show Xi U4 246 5 = Xi T3 246 5 from by rw [eU4]; exact Xi_ne (by omega)).trans ( (show Xi T3 246 5 = Xi U2 246 5 from w21.x _ _ rfl).trans ( (show Xi U2 246 5 = Xi T1 246 5 from by rw [eU2]; rfl).trans ((show Xi T1 246 5 = Xi S 246 5 from w13.x _ _ rfl)))))))
              have w80 : Xi T7 876 8 = Xi T6 876 8 := (show Xi T7 876 8 = Xi T6 876 8 from w77.x _ _ rfl)
              have w81 : Xi T7 899 5 = Xi U5 899 5 := (show Xi T7 899 5 = Xi T6 899 5 from w77.x _ _ rfl).trans ((show Xi T6 899 5 = Xi U5 899 5 from w68.x _ _ rfl))
              exact ⟨hHT7, hFT7, _, rfl, ⟨by omega, by omega⟩, (by first | (have u := Y19; exact ⟨fun _ => ⟨by omega, Y19⟩, fun q => absurd q (by omega)⟩) | (have u := K152; first | (have u := F131; exact rho_a R35 (by omega) B64.o (by omega) (rha_y (O95.1 (by omega)) H120 (FR.tr FR.rf F131 rfl) F131 (by first | rfl | omega) b83 rfl (by omega) o131 (fun q => absurd q (by omega)) (fun q => ⟨rfl, e152⟩))) | exact rho_a R35 (by omega) B64.o (by omega) (rha_n (O95.2 (by omega)) H120 (FR.tr FR.rf F143 rfl) F143 (by first | rfl | omega) b83 (by omega) o143 (fun q => absurd q (by omega)) (fun q => ⟨rfl, e152⟩))) | (have u := F131; exact rho_a R35 (by omega) B64.o (by omega) (rha_y (O95.1 (by omega)) H120 (FR.tr FR.rf F131 rfl) F131 (by first | rfl | omega) b83 rfl (by omega) o131 (fun q => ⟨rfl, rfl⟩) (fun q => absurd q (by omega)))) | (have u := F143; exact rho_a R35 (by omega) B64.o (by omega) (rha_n (O95.2 (by omega)) H120 (FR.tr FR.rf F143 rfl) F143 (by first | rfl | omega) b83 (by omega) o143 (fun q => ⟨rfl, rfl⟩) (fun q => absurd q (by omega)))) | exact rho_6 R35 (by omega) B64.o (by omega) rfl)⟩
            · refine y_iconst rfl ?_
              refine y_ireturn rfl rfl ?_
              have w82 : Xi T6 246 2 = Xi S 246 2 := (show Xi T6 246 2 = Xi U5 246 2 from w68.x _ _ rfl).trans ( (show Xi U5 246 2 = Xi U4 246 2 from by rw [eU5]; exact Xi_ne (by omega)).trans ( (show Xi U4 246 2 = Xi T3 246 2 from by rw [eU4]; exact Xi_ne (by omega)).trans ( (show Xi T3 246 2 = Xi U2 246 2 from w21.x _ _ rfl).trans ( (show Xi U2 246 2 = Xi T1 246 2 from by rw [eU2]; rfl).trans ((show Xi T1 246 2 = Xi S 246 2 from w13.x _ _ rfl))))))
              have w83 : Xi T6 246 5 = Xi S 246 5 := (show Xi T6 246 5 = Xi U5 246 5 from w68.x _ _ rfl).trans ( (show Xi U5 246 5 = Xi U4 246 5 from by rw [eU5]; exact Xi_ne (by omega)).trans ( (show Xi U4 246 5 = Xi T3 246 5 from by rw [eU4]; exact Xi_ne (by omega)).trans ( (show Xi T3 246 5 = Xi U2 246 5 from w21.x _ _ rfl).trans ( (show Xi U2 246 5 = Xi T1 246 5 from by rw [eU2]; rfl).trans ((show Xi T1 246 5 = Xi S 246 5 from w13.x _ _ rfl))))))
              have w84 : Xi T6 895 3 = Xi T3 895 3 := (show Xi T6 895 3 = Xi U5 895 3 from w68.x _ _ rfl).trans ( (show Xi U5 895 3 = Xi U4 895 3 from by rw [eU5]; exact Xi_ne (by omega)).trans ((show Xi U4 895 3 = Xi T3 895 3 from by rw [eU4]; exact Xi_ne (by omega))))
              have w85 : Xi T6 895 4 = Xi T3 895 4 := (show Xi T6 895 4 = Xi U5 895 4 from w68.x _ _ rfl).trans ( (show Xi U5 895 4 = Xi U4 895 4 from by rw [eU5]; exact Xi_ne (by omega)).trans ((show Xi U4 895 4 = Xi T3 895 4 from by rw [eU4]; exact Xi_ne (by omega))))
              have w86 : Xi T6 899 5 = Xi U5 899 5 := (show Xi T6 899 5 = Xi U5 899 5 from w68.x _ _ rfl)
              exact ⟨hHT6, hFT6, _, rfl, ⟨by omega, by omega⟩, (by first | (have u := Y19; exact ⟨fun _ => ⟨by omega, Y19⟩, fun q => absurd q (by omega)⟩) | (have u := K152; first | (have u := F131; exact rho_a R35 (by omega) B64.o (by omega) (rha_y (O95.1 (by omega)) H120 (FR.tr FR.rf F131 rfl) F131 (by first | rfl | omega) b83 rfl (by omega) o131 (fun q => absurd q (by omega)) (fun q => ⟨rfl, e152⟩))) | exact rho_a R35 (by omega) B64.o (by omega) (rha_n (O95.2 (by omega)) H120 (FR.tr FR.rf F143 rfl) F143 (by first | rfl | omega) b83 (by omega) o143 (fun q => absurd q (by omega)) (fun q => ⟨rfl, e152⟩))) | (have u := F131; exact rho_a R35 (by omega) B64.o (by omega) (rha_y (O95.1 (by omega)) H120 (FR.tr FR.rf F131 rfl) F131 (by first | rfl | omega) b83 rfl (by omega) o131 (fun q => ⟨rfl, rfl⟩) (fun q => absurd q (by omega)))) | (have u := F143; exact rho_a R35 (by omega) B64.o (by omega) (rha_n (O95.2 (by omega)) H120 (FR.tr FR.rf F143 rfl) F143 (by first | rfl | omega) b83 (by omega) o143 (fun q => ⟨rfl, rfl⟩) (fun q => absurd q (by omega)))) | exact rho_6 R35 (by omega) B64.o (by omega) rfl)⟩
          · exfalso; omega
        · refine y_aload_n rfl rfl ?_
          refine y_gfr rfl rfl rfl rfl rfl (hHU4.r 899 0 876 rfl) ?_
          refine y_iload_n rfl rfl ?_
          refine y_iconst rfl ?_
          refine y_iadd rfl ?_
          refine y_callV rfl rfl rfl (t_to_runEnd__p hHU4 (z40 + 1) ⟨by omega, by omega⟩ _) ?_
          rintro _ _ ⟨rfl, z95, rfl, w95, w93, w94⟩
          show Pl _ _ _ _ _ _ [iv z95, .ref 899] _ _
          have gq113 := w93
          rw [FRT hFU4 rfl rfl] at gq113
          try rw [show Xi U4 890 1 = Xi S 890 1 by omega] at gq113
          clear w93
          have b113 : z95 = re7 (ty7 U4) (re7 (ty7 U4) (Xi U4 899 5) + 1) := by rw [← b83, ty7_F hFU4 rfl]; exact gq113.symm
          refine y_goto rfl rfl ?_
          refine y_pfi rfl rfl rfl rfl ?_
          obtain ⟨U8, eU8⟩ : ∃ T : sS, T = uI U4 899 5 (Int32.ofInt z95) := ⟨_, rfl⟩
          rw [← eU8]
          have hHU8 : RI U8 := by rw [eU8]; exact RI_w hHU4
          have hFU8 : FR md_rr_ruleHead__p S U8 := by rw [eU8]; exact FR.wI hFU4 (mdf_i (r := (899, 900, 5, 6)) (List.mem_of_getElem? (i := 25) rfl) (inR_i (by omega) (by omega) (by omega) (by omega)))
          have w96 : Xi U8 899 5 = z95 := by rw [eU8]; exact Xi_same (by unfold rg; omega)
          have H120 : U8 = hdB U4 := by first | (have t := b113; exact hdB_y (O95.1 (by omega)) eU8 b113) | exact hdB_n (O95.2 (by omega)) eU8 b83
          refine y_iload rfl rfl ?_
          refine y_if_eq rfl rfl (by unfold rg; omega) (fun w97 => ?_) (fun w98 => ?_)
          · exfalso; omega
          · refine y_aload_n rfl rfl ?_
            refine y_iload_n rfl rfl ?_
            refine y_iload_n rfl rfl ?_
            have w99 : Xi U8 1 3 = Xi S 1 3 := (show Xi U8 1 3 = Xi U4 1 3 from by rw [eU8]; exact Xi_ne (by omega)).trans ( (show Xi U4 1 3 = Xi T3 1 3 from by rw [eU4]; exact Xi_ne (by omega)).trans ( (show Xi T3 1 3 = Xi U2 1 3 from w21.x _ _ rfl).trans ( (show Xi U2 1 3 = Xi T1 1 3 from by rw [eU2]; rfl).trans ((show Xi T1 1 3 = Xi S 1 3 from w13.x _ _ rfl)))))
            have w100 : Xi U8 246 2 = Xi S 246 2 := (show Xi U8 246 2 = Xi U4 246 2 from by rw [eU8]; exact Xi_ne (by omega)).trans ( (show Xi U4 246 2 = Xi T3 246 2 from by rw [eU4]; exact Xi_ne (by omega)).trans ( (show Xi T3 246 2 = Xi U2 246 2 from w21.x _ _ rfl).trans ( (show Xi U2 246 2 = Xi T1 246 2 from by rw [eU2]; rfl).trans ((show Xi T1 246 2 = Xi S 246 2 from w13.x _ _ rfl)))))
            have w101 : Xi U8 246 5 = Xi S 246 5 := (show Xi U8 246 5 = Xi U4 246 5 from by rw [eU8]; exact Xi_ne (by omega)).trans ( (show Xi U4 246 5 = Xi T3 246 5 from by rw [eU4]; exact Xi_ne (by omega)).trans ( (show Xi T3 246 5 = Xi U2 246 5 from w21.x _ _ rfl).trans ( (show Xi U2 246 5 = Xi T1 246 5 from by rw [eU2]; rfl).trans ((show Xi T1 246 5 = Xi S 246 5 from w13.x _ _ rfl)))))
            have w102 : Xi U8 876 7 = Xi S 876 7 := (show Xi U8 876 7 = Xi U4 876 7 from by rw [eU8]; exact Xi_ne (by omega)).trans ( (show Xi U4 876 7 = Xi T3 876 7 from by rw [eU4]; exact Xi_ne (by omega)).trans ( (show Xi T3 876 7 = Xi U2 876 7 from w21.x _ _ rfl).trans ( (show Xi U2 876 7 = Xi T1 876 7 from by rw [eU2]; rfl).trans ((show Xi T1 876 7 = Xi S 876 7 from w13.x _ _ rfl)))))
            have w103 : Xi U8 876 8 = Xi S 876 8 := (show Xi U8 876 8 = Xi U4 876 8 from by rw [eU8]; exact Xi_ne (by omega)).trans ( (show Xi U4 876 8 = Xi T3 876 8 from by rw [eU4]; exact Xi_ne (by omega)).trans ( (show Xi T3 876 8 = Xi U2 876 8 from w21.x _ _ rfl).trans ( (show Xi U2 876 8 = Xi T1 876 8 from by rw [eU2]; rfl).trans ((show Xi T1 876 8 = Xi S 876 8 from w13.x _ _ rfl)))))
            have w104 : Xi U8 895 3 = Xi T3 895 3 := (show Xi U8 895 3 = Xi U4 895 3 from by rw [eU8]; exact Xi_ne (by omega)).trans ((show Xi U4 895 3 = Xi T3 895 3 from by rw [eU4]; exact Xi_ne (by omega)))
            have w105 : Xi U8 895 4 = Xi T3 895 4 := (show Xi U8 895 4 = Xi U4 895 4 from by rw [eU8]; exact Xi_ne (by omega)).trans ((show Xi U4 895 4 = Xi T3 895 4 from by rw [eU4]; exact Xi_ne (by omega)))
            refine y_callV rfl rfl rfl (t_rr_actingOn__p hHU8 z12 (Xi U4 899 5) z40 ⟨by omega, by omega⟩ ⟨by omega, by omega⟩ ((show U8.2.2 899 4 = U4.2.2 899 4 from by rw [eU8]; rfl).trans ((show U4.2.2 899 4 = T3.2.2 899 4 from by rw [eU4]; rfl).trans ((w21 899 4 rfl).2.2.trans (show U2.2.2 899 4 = some (248 + z12) from by rw [eU2]; exact uR_s)))) (by omega) (by first | assumption | omega) (by first | assumption | exact (CEN_FR hFU8 rfl rfl (by assumption : CEN S))) (by first | assumption | omega) (by first | assumption | omega) (by first | assumption | omega) (by first | assumption | omega) (fun j => by rw [(hFU8.cx 19 rfl _).1]; exact hak.o j) _) ?_
            rintro _ T9 ⟨hHT9, w107, z106, rfl, w106, o131⟩
            have hFT9 : FR md_rr_ruleHead__p S T9 := FR.tr hFU8 w107 rfl
            show Pl _ _ _ _ _ _ [iv z106] _ _
            have F131 := (by assumption : FR md_rr_actingOn__p U8 T9)
            refine y_if_eq rfl rfl (by unfold rg; omega) (fun w108 => ?_) (fun w109 => ?_)
            · refine y_iconst rfl ?_
              refine y_ireturn rfl rfl ?_
              have w110 : Xi T9 246 2 = Xi S 246 2 := (show Xi T9 246 2 = Xi U8 246 2 from w107.x _ _ rfl).trans ( (show Xi U8 246 2 = Xi U4 246 2 from by rw [eU8]; exact Xi_ne (by omega)).trans ( (show Xi U4 246 2 = Xi T3 246 2 from by rw [eU4]; exact Xi_ne (by omega)).trans ( (show Xi T3 246 2 = Xi U2 246 2 from w21.x _ _ rfl).trans ( (show Xi U2 246 2 = Xi T1 246 2 from by rw [eU2]; rfl).trans ((show Xi T1 246 2 = Xi S 246 2 from w13.x _ _ rfl))))))
              have w111 : Xi T9 895 3 = Xi T3 895 3 := (show Xi T9 895 3 = Xi U8 895 3 from w107.x _ _ rfl).trans ( (show Xi U8 895 3 = Xi U4 895 3 from by rw [eU8]; exact Xi_ne (by omega)).trans ((show Xi U4 895 3 = Xi T3 895 3 from by rw [eU4]; exact Xi_ne (by omega))))
              have w112 : Xi T9 895 4 = Xi T3 895 4 := (show Xi T9 895 4 = Xi U8 895 4 from w107.x _ _ rfl).trans ( (show Xi U8 895 4 = Xi U4 895 4 from by rw [eU8]; exact Xi_ne (by omega)).trans ((show Xi U4 895 4 = Xi T3 895 4 from by rw [eU4]; exact Xi_ne (by omega))))
              have w113 : Xi T9 899 5 = Xi U8 899 5 := (show Xi T9 899 5 = Xi U8 899 5 from w107.x _ _ rfl)
              exact ⟨hHT9, hFT9, _, rfl, ⟨by omega, by omega⟩, (by first | (have u := Y19; exact ⟨fun _ => ⟨by omega, Y19⟩, fun q => absurd q (by omega)⟩) | (have u := K152; first | (have u := F131; exact rho_a R35 (by omega) B64.o (by omega) (rha_y (O95.1 (by omega)) H120 (FR.tr FR.rf F131 rfl) F131 (by first | rfl | omega) b83 rfl (by omega) o131 (fun q => absurd q (by omega)) (fun q => ⟨rfl, e152⟩))) | exact rho_a R35 (by omega) B64.o (by omega) (rha_n (O95.2 (by omega)) H120 (FR.tr FR.rf F143 rfl) F143 (by first | rfl | omega) b83 (by omega) o143 (fun q => absurd q (by omega)) (fun q => ⟨rfl, e152⟩))) | (have u := F131; exact rho_a R35 (by omega) B64.o (by omega) (rha_y (O95.1 (by omega)) H120 (FR.tr FR.rf F131 rfl) F131 (by first | rfl | omega) b83 rfl (by omega) o131 (fun q => ⟨rfl, rfl⟩) (fun q => absurd q (by omega)))) | (have u := F143; exact rho_a R35 (by omega) B64.o (by omega) (rha_n (O95.2 (by omega)) H120 (FR.tr FR.rf F143 rfl) F143 (by first | rfl | omega) b83 (by omega) o143 (fun q => ⟨rfl, rfl⟩) (fun q => absurd q (by omega)))) | exact rho_6 R35 (by omega) B64.o (by omega) rfl)⟩
            · refine y_goto rfl rfl ?_
              refine y_aload_n rfl rfl ?_
              have w114 : Xi T9 246 2 = Xi S 246 2 := (show Xi T9 246 2 = Xi U8 246 2 from w107.x _ _ rfl).trans ( (show Xi U8 246 2 = Xi U4 246 2 from by rw [eU8]; exact Xi_ne (by omega)).trans ( (show Xi U4 246 2 = Xi T3 246 2 from by rw [eU4]; exact Xi_ne (by omega)).trans ( (show Xi T3 246 2 = Xi U2 246 2 from w21.x _ _ rfl).trans ( (show Xi U2 246 2 = Xi T1 246 2 from by rw [eU2]; rfl).trans ((show Xi T1 246 2 = Xi S 246 2 from w13.x _ _ rfl))))))
              have w115 : Xi T9 895 3 = Xi T3 895 3 := (show Xi T9 895 3 = Xi U8 895 3 from w107.x _ _ rfl).trans ( (show Xi U8 895 3 = Xi U4 895 3 from by rw [eU8]; exact Xi_ne (by omega)).trans ((show Xi U4 895 3 = Xi T3 895 3 from by rw [eU4]; exact Xi_ne (by omega))))
              have w116 : Xi T9 895 4 = Xi T3 895 4 := (show Xi T9 895 4 = Xi U8 895 4 from w107.x _ _ rfl).trans ( (show Xi U8 895 4 = Xi U4 895 4 from by rw [eU8]; exact Xi_ne (by omega)).trans ((show Xi U4 895 4 = Xi T3 895 4 from by rw [eU4]; exact Xi_ne (by omega))))
              have w117 : Xi T9 899 5 = Xi U8 899 5 := (show Xi T9 899 5 = Xi U8 899 5 from w107.x _ _ rfl)
              refine y_callV rfl rfl rfl (t_rr_nameNoun__p hHT9 z12 ((w107 899 4 rfl).2.2.trans ((show U8.2.2 899 4 = U4.2.2 899 4 from by rw [eU8]; rfl).trans ((show U4.2.2 899 4 = T3.2.2 899 4 from by rw [eU4]; rfl).trans ((w21 899 4 rfl).2.2.trans (show U2.2.2 899 4 = some (248 + z12) from by rw [eU2]; exact uR_s))))) (by omega) _) ?_
              rintro _ T10 ⟨hHT10, w119, rfl, e152⟩
              have hFT10 : FR md_rr_ruleHead__p S T10 := FR.tr hFT9 w119 rfl
              show Pl _ _ _ _ _ _ [] _ _
              have K152 : True := trivial
              refine y_iconst rfl ?_
              refine y_ireturn rfl rfl ?_
              have w120 : Xi T10 246 2 = Xi S 246 2 := (show Xi T10 246 2 = Xi T9 246 2 from w119.x _ _ rfl).trans ( (show Xi T9 246 2 = Xi U8 246 2 from w107.x _ _ rfl).trans ( (show Xi U8 246 2 = Xi U4 246 2 from by rw [eU8]; exact Xi_ne (by omega)).trans ( (show Xi U4 246 2 = Xi T3 246 2 from by rw [eU4]; exact Xi_ne (by omega)).trans ( (show Xi T3 246 2 = Xi U2 246 2 from w21.x _ _ rfl).trans ( (show Xi U2 246 2 = Xi T1 246 2 from by rw [eU2]; rfl).trans ((show Xi T1 246 2 = Xi S 246 2 from w13.x _ _ rfl)))))))
              have w121 : Xi T10 246 5 = Xi T9 246 5 := (show Xi T10 246 5 = Xi T9 246 5 from w119.x _ _ rfl)
              have w122 : Xi T10 876 8 = Xi T9 876 8 := (show Xi T10 876 8 = Xi T9 876 8 from w119.x _ _ rfl)
              have w123 : Xi T10 899 5 = Xi U8 899 5 := (show Xi T10 899 5 = Xi T9 899 5 from w119.x _ _ rfl).trans ((show Xi T9 899 5 = Xi U8 899 5 from w107.x _ _ rfl))
              exact ⟨hHT10, hFT10, _, rfl, ⟨by omega, by omega⟩, (by first | (have u := Y19; exact ⟨fun _ => ⟨by omega, Y19⟩, fun q => absurd q (by omega)⟩) | (have u := K152; first | (have u := F131; exact rho_a R35 (by omega) B64.o (by omega) (rha_y (O95.1 (by omega)) H120 (FR.tr FR.rf F131 rfl) F131 (by first | rfl | omega) b83 rfl (by omega) o131 (fun q => absurd q (by omega)) (fun q => ⟨rfl, e152⟩))) | exact rho_a R35 (by omega) B64.o (by omega) (rha_n (O95.2 (by omega)) H120 (FR.tr FR.rf F143 rfl) F143 (by first | rfl | omega) b83 (by omega) o143 (fun q => absurd q (by omega)) (fun q => ⟨rfl, e152⟩))) | (have u := F131; exact rho_a R35 (by omega) B64.o (by omega) (rha_y (O95.1 (by omega)) H120 (FR.tr FR.rf F131 rfl) F131 (by first | rfl | omega) b83 rfl (by omega) o131 (fun q => ⟨rfl, rfl⟩) (fun q => absurd q (by omega)))) | (have u := F143; exact rho_a R35 (by omega) B64.o (by omega) (rha_n (O95.2 (by omega)) H120 (FR.tr FR.rf F143 rfl) F143 (by first | rfl | omega) b83 (by omega) o143 (fun q => ⟨rfl, rfl⟩) (fun q => absurd q (by omega)))) | exact rho_6 R35 (by omega) B64.o (by omega) rfl)⟩
    · refine y_iload_n rfl rfl ?_
      refine y_iconst rfl ?_
      refine y_icmp_ne rfl rfl (by unfold rg; omega) (by unfold rg; omega) (fun w124 => ?_) (fun w125 => ?_)
      · refine y_iconst rfl ?_
        refine y_pfi rfl rfl rfl rfl ?_
        obtain ⟨U11, eU11⟩ : ∃ T : sS, T = uI T3 899 5 (Int32.ofInt 2) := ⟨_, rfl⟩
        rw [← eU11]
        have hHU11 : RI U11 := by rw [eU11]; exact RI_w hHT3
        have hFU11 : FR md_rr_ruleHead__p S U11 := by rw [eU11]; exact FR.wI hFT3 (mdf_i (r := (899, 900, 5, 6)) (List.mem_of_getElem? (i := 25) rfl) (inR_i (by omega) (by omega) (by omega) (by omega)))
        have w126 : Xi U11 899 5 = 2 := by rw [eU11]; exact Xi_same (by unfold rg; omega)
        have e64 := eU11
        have B64 : Hid (RHB md_rr_ruleHead__p S U11 z12 sort) := ⟨hFU11, by unfold soR; rw [← v29]; exact rlm_e (fun j => by rw [e64, Xi_ne (by omega), e45, Xi_ne (by omega), Xi_ne (by omega), e35]; rfl) x32, kru_o e64 (by omega) (by rw [e45]; exact kru_o rfl (by omega) (kru_o rfl (by omega) (by rw [e35]; exact k32))), by rw [e64, Xi_ne (by omega), e45, Xi_ne (by omega)]; exact Xi_same (by unfold rg; omega), by rw [e64, Xi_ne (by omega), e45]; exact Xi_same (by unfold rg; omega), by rw [e64]; refine (Xi_same (by unfold rg; omega)).trans ?_; first | (rw [if_pos (by omega)]) | (rw [if_neg (by omega)]), by rw [e64]; show _ = some _; rw [e45]; exact h35, by rw [e64, Xi_ne (by omega), e45, Xi_ne (by omega), Xi_ne (by omega), e35]; exact F32.x 246 5 rfl, by rw [e64, Xi_ne (by omega), e45, Xi_ne (by omega), Xi_ne (by omega), e35]; exact (F32.x 876 8 rfl).trans hf, fun c j q => by rw [e64, Xi_ne (by omega), e45, Xi_ne (by omega), Xi_ne (by omega), e35]; exact (Xi_uR _ _).trans (FR_cl F32 rfl q)⟩
        refine y_iload_n rfl rfl ?_
        refine y_bipush rfl rfl ?_
        refine y_icmp_eq rfl rfl (by unfold rg; omega) (by unfold rg; omega) (fun w127 => ?_) (fun w128 => ?_)
        · refine y_iconst rfl ?_
          refine y_ireturn rfl rfl ?_
          have w129 : Xi U11 246 2 = Xi S 246 2 := (show Xi U11 246 2 = Xi T3 246 2 from by rw [eU11]; exact Xi_ne (by omega)).trans ( (show Xi T3 246 2 = Xi U2 246 2 from w21.x _ _ rfl).trans ( (show Xi U2 246 2 = Xi T1 246 2 from by rw [eU2]; rfl).trans ((show Xi T1 246 2 = Xi S 246 2 from w13.x _ _ rfl))))
          have w130 : Xi U11 246 5 = Xi S 246 5 := (show Xi U11 246 5 = Xi T3 246 5 from by rw [eU11]; exact Xi_ne (by omega)).trans ( (show Xi T3 246 5 = Xi U2 246 5 from w21.x _ _ rfl).trans ( (show Xi U2 246 5 = Xi T1 246 5 from by rw [eU2]; rfl).trans ((show Xi T1 246 5 = Xi S 246 5 from w13.x _ _ rfl))))
          have w131 : Xi U11 876 8 = Xi S 876 8 := (show Xi U11 876 8 = Xi T3 876 8 from by rw [eU11]; exact Xi_ne (by omega)).trans ( (show Xi T3 876 8 = Xi U2 876 8 from w21.x _ _ rfl).trans ( (show Xi U2 876 8 = Xi T1 876 8 from by rw [eU2]; rfl).trans ((show Xi T1 876 8 = Xi S 876 8 from w13.x _ _ rfl))))
          have w132 : Xi U11 895 3 = Xi T3 895 3 := (show Xi U11 895 3 = Xi T3 895 3 from by rw [eU11]; exact Xi_ne (by omega))
          have w133 : Xi U11 895 4 = Xi T3 895 4 := (show Xi U11 895 4 = Xi T3 895 4 from by rw [eU11]; exact Xi_ne (by omega))
          exact ⟨hHU11, hFU11, _, rfl, ⟨by omega, by omega⟩, (by first | (have u := Y19; exact ⟨fun _ => ⟨by omega, Y19⟩, fun q => absurd q (by omega)⟩) | (have u := K152; first | (have u := F131; exact rho_a R35 (by omega) B64.o (by omega) (rha_y (O95.1 (by omega)) H120 (FR.tr FR.rf F131 rfl) F131 (by first | rfl | omega) b83 rfl (by omega) o131 (fun q => absurd q (by omega)) (fun q => ⟨rfl, e152⟩))) | exact rho_a R35 (by omega) B64.o (by omega) (rha_n (O95.2 (by omega)) H120 (FR.tr FR.rf F143 rfl) F143 (by first | rfl | omega) b83 (by omega) o143 (fun q => absurd q (by omega)) (fun q => ⟨rfl, e152⟩))) | (have u := F131; exact rho_a R35 (by omega) B64.o (by omega) (rha_y (O95.1 (by omega)) H120 (FR.tr FR.rf F131 rfl) F131 (by first | rfl | omega) b83 rfl (by omega) o131 (fun q => ⟨rfl, rfl⟩) (fun q => absurd q (by omega)))) | (have u := F143; exact rho_a R35 (by omega) B64.o (by omega) (rha_n (O95.2 (by omega)) H120 (FR.tr FR.rf F143 rfl) F143 (by first | rfl | omega) b83 (by omega) o143 (fun q => ⟨rfl, rfl⟩) (fun q => absurd q (by omega)))) | exact rho_6 R35 (by omega) B64.o (by omega) rfl)⟩
        · refine y_aload_n rfl rfl ?_
          refine y_gfi rfl rfl rfl rfl rfl ?_
          refine y_istore_n rfl rfl rfl ?_
          refine y_aload_n rfl rfl ?_
          refine y_gfr rfl rfl rfl rfl rfl (hHU11.r 899 0 876 rfl) ?_
          refine y_iload_n rfl rfl ?_
          have w134 : Xi U11 246 2 = Xi S 246 2 := (show Xi U11 246 2 = Xi T3 246 2 from by rw [eU11]; exact Xi_ne (by omega)).trans ( (show Xi T3 246 2 = Xi U2 246 2 from w21.x _ _ rfl).trans ( (show Xi U2 246 2 = Xi T1 246 2 from by rw [eU2]; rfl).trans ((show Xi T1 246 2 = Xi S 246 2 from w13.x _ _ rfl))))
          have w135 : Xi U11 246 5 = Xi S 246 5 := (show Xi U11 246 5 = Xi T3 246 5 from by rw [eU11]; exact Xi_ne (by omega)).trans ( (show Xi T3 246 5 = Xi U2 246 5 from w21.x _ _ rfl).trans ( (show Xi U2 246 5 = Xi T1 246 5 from by rw [eU2]; rfl).trans ((show Xi T1 246 5 = Xi S 246 5 from w13.x _ _ rfl))))
          have w136 : Xi U11 876 7 = Xi S 876 7 := (show Xi U11 876 7 = Xi T3 876 7 from by rw [eU11]; exact Xi_ne (by omega)).trans ( (show Xi T3 876 7 = Xi U2 876 7 from w21.x _ _ rfl).trans ( (show Xi U2 876 7 = Xi T1 876 7 from by rw [eU2]; rfl).trans ((show Xi T1 876 7 = Xi S 876 7 from w13.x _ _ rfl))))
          have w137 : Xi U11 876 8 = Xi S 876 8 := (show Xi U11 876 8 = Xi T3 876 8 from by rw [eU11]; exact Xi_ne (by omega)).trans ( (show Xi T3 876 8 = Xi U2 876 8 from w21.x _ _ rfl).trans ( (show Xi U2 876 8 = Xi T1 876 8 from by rw [eU2]; rfl).trans ((show Xi T1 876 8 = Xi S 876 8 from w13.x _ _ rfl))))
          have w138 : Xi U11 895 3 = Xi T3 895 3 := (show Xi U11 895 3 = Xi T3 895 3 from by rw [eU11]; exact Xi_ne (by omega))
          have w139 : Xi U11 895 4 = Xi T3 895 4 := (show Xi U11 895 4 = Xi T3 895 4 from by rw [eU11]; exact Xi_ne (by omega))
          refine y_callV rfl rfl rfl (t_to_runEnd__p hHU11 (Xi U11 899 5) ⟨by omega, by omega⟩ _) ?_
          rintro _ _ ⟨rfl, z142, rfl, w142, w140, w141⟩
          show Pl _ _ _ _ _ _ [iv z142] _ _
          have gq83 := w140
          rw [FRT hFU11 rfl rfl] at gq83
          try rw [show Xi U11 890 1 = Xi S 890 1 by omega] at gq83
          try rw [show (Xi U11 899 5) = 2 by omega] at gq83
          clear w140
          have b83 : z142 = re7 (ty7 U11) (Xi U11 899 5) := by rw [ty7_F hFU11 rfl]; first | (rw [show Xi U11 899 5 = 1 by omega]; exact gq83.symm) | (rw [show Xi U11 899 5 = 2 by omega]; exact gq83.symm)
          refine y_istore_n rfl rfl rfl ?_
          refine y_aload_n rfl rfl ?_
          refine y_gfr rfl rfl rfl rfl rfl (hHU11.r 899 0 876 rfl) ?_
          refine y_iload_n rfl rfl ?_
          refine y_callV rfl rfl rfl (t_to_typeAt__p hHU11 z142 ⟨by omega, by omega⟩ _) ?_
          rintro _ _ ⟨rfl, z151, rfl, w151, w149, w150⟩
          show Pl _ _ _ _ _ _ [iv z151] _ _
          have gq92 := w149
          rw [FRT hFU11 rfl rfl] at gq92
          try rw [show Xi U11 890 1 = Xi S 890 1 by omega] at gq92
          clear w149
          have t92 : z151 = ty7 U11 (re7 (ty7 U11) (Xi U11 899 5)) := by rw [← b83, ty7_F hFU11 rfl]; exact gq92.symm
          refine y_callS rfl rfl (by decide) rfl (t_rs_isArt__p hHU11 z151 ⟨by omega, by omega⟩ _) ?_
          rintro _ _ ⟨rfl, z157, rfl, w157, q95, n95⟩
          show Pl _ _ _ _ _ _ [iv z157] _ _
          have O95 : (z157 = 1 → onA U11) ∧ (z157 = 0 → ¬ onA U11) := ⟨fun q => by unfold onA; rw [← t92]; exact q95 q, fun q w => by unfold onA at w; rw [← t92] at w; have := n95 q; omega⟩
          clear q95 n95
          refine y_istore rfl rfl rfl ?_
          refine y_aload_n rfl rfl ?_
          refine y_iload rfl rfl ?_
          refine y_if_eq rfl rfl (by unfold rg; omega) (fun w158 => ?_) (fun w159 => ?_)
          · refine y_iload_n rfl rfl ?_
            refine y_pfi rfl rfl rfl rfl ?_
            obtain ⟨U12, eU12⟩ : ∃ T : sS, T = uI U11 899 5 (Int32.ofInt z142) := ⟨_, rfl⟩
            rw [← eU12]
            have hHU12 : RI U12 := by rw [eU12]; exact RI_w hHU11
            have hFU12 : FR md_rr_ruleHead__p S U12 := by rw [eU12]; exact FR.wI hFU11 (mdf_i (r := (899, 900, 5, 6)) (List.mem_of_getElem? (i := 25) rfl) (inR_i (by omega) (by omega) (by omega) (by omega)))
            have w160 : Xi U12 899 5 = z142 := by rw [eU12]; exact Xi_same (by unfold rg; omega)
            have H120 : U12 = hdB U11 := by first | (have t := b113; exact hdB_y (O95.1 (by omega)) eU12 b113) | exact hdB_n (O95.2 (by omega)) eU12 b83
            refine y_iload rfl rfl ?_
            refine y_if_eq rfl rfl (by unfold rg; omega) (fun w161 => ?_) (fun w162 => ?_)
            · refine y_aload_n rfl rfl ?_
              refine y_iload_n rfl rfl ?_
              refine y_iload_n rfl rfl ?_
              have w163 : Xi U12 1 3 = Xi S 1 3 := (show Xi U12 1 3 = Xi U11 1 3 from by rw [eU12]; exact Xi_ne (by omega)).trans ( (show Xi U11 1 3 = Xi T3 1 3 from by rw [eU11]; exact Xi_ne (by omega)).trans ( (show Xi T3 1 3 = Xi U2 1 3 from w21.x _ _ rfl).trans ( (show Xi U2 1 3 = Xi T1 1 3 from by rw [eU2]; rfl).trans ((show Xi T1 1 3 = Xi S 1 3 from w13.x _ _ rfl)))))
              have w164 : Xi U12 246 2 = Xi S 246 2 := (show Xi U12 246 2 = Xi U11 246 2 from by rw [eU12]; exact Xi_ne (by omega)).trans ( (show Xi U11 246 2 = Xi T3 246 2 from by rw [eU11]; exact Xi_ne (by omega)).trans ( (show Xi T3 246 2 = Xi U2 246 2 from w21.x _ _ rfl).trans ( (show Xi U2 246 2 = Xi T1 246 2 from by rw [eU2]; rfl).trans ((show Xi T1 246 2 = Xi S 246 2 from w13.x _ _ rfl)))))
              have w165 : Xi U12 246 5 = Xi S 246 5 := (show Xi U12 246 5 = Xi U11 246 5 from by rw [eU12]; exact Xi_ne (by omega)).trans ( (show Xi U11 246 5 = Xi T3 246 5 from by rw [eU11]; exact Xi_ne (by omega)).trans ( (show Xi T3 246 5 = Xi U2 246 5 from w21.x _ _ rfl).trans ( (show Xi U2 246 5 = Xi T1 246 5 from by rw [eU2]; rfl).trans ((show Xi T1 246 5 = Xi S 246 5 from w13.x _ _ rfl)))))
              have w166 : Xi U12 876 8 = Xi S 876 8 := (show Xi U12 876 8 = Xi U11 876 8 from by rw [eU12]; exact Xi_ne (by omega)).trans ( (show Xi U11 876 8 = Xi T3 876 8 from by rw [eU11]; exact Xi_ne (by omega)).trans ( (show Xi T3 876 8 = Xi U2 876 8 from w21.x _ _ rfl).trans ( (show Xi U2 876 8 = Xi T1 876 8 from by rw [eU2]; rfl).trans ((show Xi T1 876 8 = Xi S 876 8 from w13.x _ _ rfl)))))
              have w167 : Xi U12 895 3 = Xi T3 895 3 := (show Xi U12 895 3 = Xi U11 895 3 from by rw [eU12]; exact Xi_ne (by omega)).trans ((show Xi U11 895 3 = Xi T3 895 3 from by rw [eU11]; exact Xi_ne (by omega)))
              have w168 : Xi U12 895 4 = Xi T3 895 4 := (show Xi U12 895 4 = Xi U11 895 4 from by rw [eU12]; exact Xi_ne (by omega)).trans ((show Xi U11 895 4 = Xi T3 895 4 from by rw [eU11]; exact Xi_ne (by omega)))
              refine y_callV rfl rfl rfl (t_rr_actingAlone__p hHU12 z12 (Xi U11 899 5) z142 ⟨by omega, by omega⟩ ⟨by omega, by omega⟩ ((show U12.2.2 899 4 = U11.2.2 899 4 from by rw [eU12]; rfl).trans ((show U11.2.2 899 4 = T3.2.2 899 4 from by rw [eU11]; rfl).trans ((w21 899 4 rfl).2.2.trans (show U2.2.2 899 4 = some (248 + z12) from by rw [eU2]; exact uR_s)))) (by omega) (by first | assumption | omega) (by first | assumption | exact (CEN_FR hFU12 rfl rfl (by assumption : CEN S))) (by first | assumption | omega) _) ?_
              rintro _ T13 ⟨hHT13, w170, z169, rfl, w169, o143⟩
              have hFT13 : FR md_rr_ruleHead__p S T13 := FR.tr hFU12 w170 rfl
              show Pl _ _ _ _ _ _ [iv z169] _ _
              have F143 := (by assumption : FR md_rr_actingAlone__p U12 T13)
              refine y_if_ne rfl rfl (by unfold rg; omega) (fun w171 => ?_) (fun w172 => ?_)
              · refine y_aload_n rfl rfl ?_
                have w173 : Xi T13 246 2 = Xi S 246 2 := (show Xi T13 246 2 = Xi U12 246 2 from w170.x _ _ rfl).trans ( (show Xi U12 246 2 = Xi U11 246 2 from by rw [eU12]; exact Xi_ne (by omega)).trans ( (show Xi U11 246 2 = Xi T3 246 2 from by rw [eU11]; exact Xi_ne (by omega)).trans ( (show Xi T3 246 2 = Xi U2 246 2 from w21.x _ _ rfl).trans ( (show Xi U2 246 2 = Xi T1 246 2 from by rw [eU2]; rfl).trans ((show Xi T1 246 2 = Xi S 246 2 from w13.x _ _ rfl))))))
                have w174 : Xi T13 246 5 = Xi S 246 5 := (show Xi T13 246 5 = Xi U12 246 5 from w170.x _ _ rfl).trans ( (show Xi U12 246 5 = Xi U11 246 5 from by rw [eU12]; exact Xi_ne (by omega)).trans ( (show Xi U11 246 5 = Xi T3 246 5 from by rw [eU11]; exact Xi_ne (by omega)).trans ( (show Xi T3 246 5 = Xi U2 246 5 from w21.x _ _ rfl).trans ( (show Xi U2 246 5 = Xi T1 246 5 from by rw [eU2]; rfl).trans ((show Xi T1 246 5 = Xi S 246 5 from w13.x _ _ rfl))))))
                have w175 : Xi T13 895 3 = Xi T3 895 3 := (show Xi T13 895 3 = Xi U12 895 3 from w170.x _ _ rfl).trans ( (show Xi U12 895 3 = Xi U11 895 3 from by rw [eU12]; exact Xi_ne (by omega)).trans ((show Xi U11 895 3 = Xi T3 895 3 from by rw [eU11]; exact Xi_ne (by omega))))
                have w176 : Xi T13 895 4 = Xi T3 895 4 := (show Xi T13 895 4 = Xi U12 895 4 from w170.x _ _ rfl).trans ( (show Xi U12 895 4 = Xi U11 895 4 from by rw [eU12]; exact Xi_ne (by omega)).trans ((show Xi U11 895 4 = Xi T3 895 4 from by rw [eU11]; exact Xi_ne (by omega))))
                have w177 : Xi T13 899 5 = Xi U12 899 5 := (show Xi T13 899 5 = Xi U12 899 5 from w170.x _ _ rfl)
                refine y_callV rfl rfl rfl (t_rr_nameNoun__p hHT13 z12 ((w170 899 4 rfl).2.2.trans ((show U12.2.2 899 4 = U11.2.2 899 4 from by rw [eU12]; rfl).trans ((show U11.2.2 899 4 = T3.2.2 899 4 from by rw [eU11]; rfl).trans ((w21 899 4 rfl).2.2.trans (show U2.2.2 899 4 = some (248 + z12) from by rw [eU2]; exact uR_s))))) (by omega) _) ?_
                rintro _ T14 ⟨hHT14, w179, rfl, e152⟩
                have hFT14 : FR md_rr_ruleHead__p S T14 := FR.tr hFT13 w179 rfl
                show Pl _ _ _ _ _ _ [] _ _
                have K152 : True := trivial
                refine y_iconst rfl ?_
                refine y_ireturn rfl rfl ?_
                have w180 : Xi T14 246 2 = Xi S 246 2 := (show Xi T14 246 2 = Xi T13 246 2 from w179.x _ _ rfl).trans ( (show Xi T13 246 2 = Xi U12 246 2 from w170.x _ _ rfl).trans ( (show Xi U12 246 2 = Xi U11 246 2 from by rw [eU12]; exact Xi_ne (by omega)).trans ( (show Xi U11 246 2 = Xi T3 246 2 from by rw [eU11]; exact Xi_ne (by omega)).trans ( (show Xi T3 246 2 = Xi U2 246 2 from w21.x _ _ rfl).trans ( (show Xi U2 246 2 = Xi T1 246 2 from by rw [eU2]; rfl).trans ((show Xi T1 246 2 = Xi S 246 2 from w13.x _ _ rfl)))))))
                have w181 : Xi T14 246 5 = Xi S 246 5 := (show Xi T14 246 5 = Xi T13 246 5 from w179.x _ _ rfl).trans ( (show Xi T13 246 5 = Xi U12 246 5 from w170.x _ _ rfl).trans ( (show Xi U12 246 5 = Xi U11 246 5 from by rw [eU12]; exact Xi_ne (by omega)).trans ( (show Xi U11 246 5 = Xi T3 246 5 from by rw [eU11]; exact Xi_ne (by omega)).trans ( (show Xi T3 246 5 = Xi U2 246 5 from w21.x _ _ rfl).trans ( (show Xi U2 246 5 = Xi T1 246 5 from by rw [eU2]; rfl).trans ((show Xi T1 246 5 = Xi S 246 5 from w13.x _ _ rfl)))))))
                have w182 : Xi T14 876 8 = Xi T13 876 8 := (show Xi T14 876 8 = Xi T13 876 8 from w179.x _ _ rfl)
                have w183 : Xi T14 899 5 = Xi U12 899 5 := (show Xi T14 899 5 = Xi T13 899 5 from w179.x _ _ rfl).trans ((show Xi T13 899 5 = Xi U12 899 5 from w170.x _ _ rfl))
                exact ⟨hHT14, hFT14, _, rfl, ⟨by omega, by omega⟩, (by first | (have u := Y19; exact ⟨fun _ => ⟨by omega, Y19⟩, fun q => absurd q (by omega)⟩) | (have u := K152; first | (have u := F131; exact rho_a R35 (by omega) B64.o (by omega) (rha_y (O95.1 (by omega)) H120 (FR.tr FR.rf F131 rfl) F131 (by first | rfl | omega) b83 rfl (by omega) o131 (fun q => absurd q (by omega)) (fun q => ⟨rfl, e152⟩))) | exact rho_a R35 (by omega) B64.o (by omega) (rha_n (O95.2 (by omega)) H120 (FR.tr FR.rf F143 rfl) F143 (by first | rfl | omega) b83 (by omega) o143 (fun q => absurd q (by omega)) (fun q => ⟨rfl, e152⟩))) | (have u := F131; exact rho_a R35 (by omega) B64.o (by omega) (rha_y (O95.1 (by omega)) H120 (FR.tr FR.rf F131 rfl) F131 (by first | rfl | omega) b83 rfl (by omega) o131 (fun q => ⟨rfl, rfl⟩) (fun q => absurd q (by omega)))) | (have u := F143; exact rho_a R35 (by omega) B64.o (by omega) (rha_n (O95.2 (by omega)) H120 (FR.tr FR.rf F143 rfl) F143 (by first | rfl | omega) b83 (by omega) o143 (fun q => ⟨rfl, rfl⟩) (fun q => absurd q (by omega)))) | exact rho_6 R35 (by omega) B64.o (by omega) rfl)⟩
              · refine y_iconst rfl ?_
                refine y_ireturn rfl rfl ?_
                have w184 : Xi T13 246 2 = Xi S 246 2 := (show Xi T13 246 2 = Xi U12 246 2 from w170.x _ _ rfl).trans ( (show Xi U12 246 2 = Xi U11 246 2 from by rw [eU12]; exact Xi_ne (by omega)).trans ( (show Xi U11 246 2 = Xi T3 246 2 from by rw [eU11]; exact Xi_ne (by omega)).trans ( (show Xi T3 246 2 = Xi U2 246 2 from w21.x _ _ rfl).trans ( (show Xi U2 246 2 = Xi T1 246 2 from by rw [eU2]; rfl).trans ((show Xi T1 246 2 = Xi S 246 2 from w13.x _ _ rfl))))))
                have w185 : Xi T13 246 5 = Xi S 246 5 := (show Xi T13 246 5 = Xi U12 246 5 from w170.x _ _ rfl).trans ( (show Xi U12 246 5 = Xi U11 246 5 from by rw [eU12]; exact Xi_ne (by omega)).trans ( (show Xi U11 246 5 = Xi T3 246 5 from by rw [eU11]; exact Xi_ne (by omega)).trans ( (show Xi T3 246 5 = Xi U2 246 5 from w21.x _ _ rfl).trans ( (show Xi U2 246 5 = Xi T1 246 5 from by rw [eU2]; rfl).trans ((show Xi T1 246 5 = Xi S 246 5 from w13.x _ _ rfl))))))
                have w186 : Xi T13 895 3 = Xi T3 895 3 := (show Xi T13 895 3 = Xi U12 895 3 from w170.x _ _ rfl).trans ( (show Xi U12 895 3 = Xi U11 895 3 from by rw [eU12]; exact Xi_ne (by omega)).trans ((show Xi U11 895 3 = Xi T3 895 3 from by rw [eU11]; exact Xi_ne (by omega))))
                have w187 : Xi T13 895 4 = Xi T3 895 4 := (show Xi T13 895 4 = Xi U12 895 4 from w170.x _ _ rfl).trans ( (show Xi U12 895 4 = Xi U11 895 4 from by rw [eU12]; exact Xi_ne (by omega)).trans ((show Xi U11 895 4 = Xi T3 895 4 from by rw [eU11]; exact Xi_ne (by omega))))
                have w188 : Xi T13 899 5 = Xi U12 899 5 := (show Xi T13 899 5 = Xi U12 899 5 from w170.x _ _ rfl)
                exact ⟨hHT13, hFT13, _, rfl, ⟨by omega, by omega⟩, (by first | (have u := Y19; exact ⟨fun _ => ⟨by omega, Y19⟩, fun q => absurd q (by omega)⟩) | (have u := K152; first | (have u := F131; exact rho_a R35 (by omega) B64.o (by omega) (rha_y (O95.1 (by omega)) H120 (FR.tr FR.rf F131 rfl) F131 (by first | rfl | omega) b83 rfl (by omega) o131 (fun q => absurd q (by omega)) (fun q => ⟨rfl, e152⟩))) | exact rho_a R35 (by omega) B64.o (by omega) (rha_n (O95.2 (by omega)) H120 (FR.tr FR.rf F143 rfl) F143 (by first | rfl | omega) b83 (by omega) o143 (fun q => absurd q (by omega)) (fun q => ⟨rfl, e152⟩))) | (have u := F131; exact rho_a R35 (by omega) B64.o (by omega) (rha_y (O95.1 (by omega)) H120 (FR.tr FR.rf F131 rfl) F131 (by first | rfl | omega) b83 rfl (by omega) o131 (fun q => ⟨rfl, rfl⟩) (fun q => absurd q (by omega)))) | (have u := F143; exact rho_a R35 (by omega) B64.o (by omega) (rha_n (O95.2 (by omega)) H120 (FR.tr FR.rf F143 rfl) F143 (by first | rfl | omega) b83 (by omega) o143 (fun q => ⟨rfl, rfl⟩) (fun q => absurd q (by omega)))) | exact rho_6 R35 (by omega) B64.o (by omega) rfl)⟩
            · exfalso; omega
          · refine y_aload_n rfl rfl ?_
            refine y_gfr rfl rfl rfl rfl rfl (hHU11.r 899 0 876 rfl) ?_
            refine y_iload_n rfl rfl ?_
            refine y_iconst rfl ?_
            refine y_iadd rfl ?_
            refine y_callV rfl rfl rfl (t_to_runEnd__p hHU11 (z142 + 1) ⟨by omega, by omega⟩ _) ?_
            rintro _ _ ⟨rfl, z197, rfl, w197, w195, w196⟩
            show Pl _ _ _ _ _ _ [iv z197, .ref 899] _ _
            have gq113 := w195
            rw [FRT hFU11 rfl rfl] at gq113
            try rw [show Xi U11 890 1 = Xi S 890 1 by omega] at gq113
            clear w195
            have b113 : z197 = re7 (ty7 U11) (re7 (ty7 U11) (Xi U11 899 5) + 1) := by rw [← b83, ty7_F hFU11 rfl]; exact gq113.symm
            refine y_goto rfl rfl ?_
            refine y_pfi rfl rfl rfl rfl ?_
            obtain ⟨U15, eU15⟩ : ∃ T : sS, T = uI U11 899 5 (Int32.ofInt z197) := ⟨_, rfl⟩
            rw [← eU15]
            have hHU15 : RI U15 := by rw [eU15]; exact RI_w hHU11
            have hFU15 : FR md_rr_ruleHead__p S U15 := by rw [eU15]; exact FR.wI hFU11 (mdf_i (r := (899, 900, 5, 6)) (List.mem_of_getElem? (i := 25) rfl) (inR_i (by omega) (by omega) (by omega) (by omega)))
            have w198 : Xi U15 899 5 = z197 := by rw [eU15]; exact Xi_same (by unfold rg; omega)
            have H120 : U15 = hdB U11 := by first | (have t := b113; exact hdB_y (O95.1 (by omega)) eU15 b113) | exact hdB_n (O95.2 (by omega)) eU15 b83
            refine y_iload rfl rfl ?_
            refine y_if_eq rfl rfl (by unfold rg; omega) (fun w199 => ?_) (fun w200 => ?_)
            · exfalso; omega
            · refine y_aload_n rfl rfl ?_
              refine y_iload_n rfl rfl ?_
              refine y_iload_n rfl rfl ?_
              have w201 : Xi U15 1 3 = Xi S 1 3 := (show Xi U15 1 3 = Xi U11 1 3 from by rw [eU15]; exact Xi_ne (by omega)).trans ( (show Xi U11 1 3 = Xi T3 1 3 from by rw [eU11]; exact Xi_ne (by omega)).trans ( (show Xi T3 1 3 = Xi U2 1 3 from w21.x _ _ rfl).trans ( (show Xi U2 1 3 = Xi T1 1 3 from by rw [eU2]; rfl).trans ((show Xi T1 1 3 = Xi S 1 3 from w13.x _ _ rfl)))))
              have w202 : Xi U15 246 2 = Xi S 246 2 := (show Xi U15 246 2 = Xi U11 246 2 from by rw [eU15]; exact Xi_ne (by omega)).trans ( (show Xi U11 246 2 = Xi T3 246 2 from by rw [eU11]; exact Xi_ne (by omega)).trans ( (show Xi T3 246 2 = Xi U2 246 2 from w21.x _ _ rfl).trans ( (show Xi U2 246 2 = Xi T1 246 2 from by rw [eU2]; rfl).trans ((show Xi T1 246 2 = Xi S 246 2 from w13.x _ _ rfl)))))
              have w203 : Xi U15 246 5 = Xi S 246 5 := (show Xi U15 246 5 = Xi U11 246 5 from by rw [eU15]; exact Xi_ne (by omega)).trans ( (show Xi U11 246 5 = Xi T3 246 5 from by rw [eU11]; exact Xi_ne (by omega)).trans ( (show Xi T3 246 5 = Xi U2 246 5 from w21.x _ _ rfl).trans ( (show Xi U2 246 5 = Xi T1 246 5 from by rw [eU2]; rfl).trans ((show Xi T1 246 5 = Xi S 246 5 from w13.x _ _ rfl)))))
              have w204 : Xi U15 876 7 = Xi S 876 7 := (show Xi U15 876 7 = Xi U11 876 7 from by rw [eU15]; exact Xi_ne (by omega)).trans ( (show Xi U11 876 7 = Xi T3 876 7 from by rw [eU11]; exact Xi_ne (by omega)).trans ( (show Xi T3 876 7 = Xi U2 876 7 from w21.x _ _ rfl).trans ( (show Xi U2 876 7 = Xi T1 876 7 from by rw [eU2]; rfl).trans ((show Xi T1 876 7 = Xi S 876 7 from w13.x _ _ rfl)))))
              have w205 : Xi U15 876 8 = Xi S 876 8 := (show Xi U15 876 8 = Xi U11 876 8 from by rw [eU15]; exact Xi_ne (by omega)).trans ( (show Xi U11 876 8 = Xi T3 876 8 from by rw [eU11]; exact Xi_ne (by omega)).trans ( (show Xi T3 876 8 = Xi U2 876 8 from w21.x _ _ rfl).trans ( (show Xi U2 876 8 = Xi T1 876 8 from by rw [eU2]; rfl).trans ((show Xi T1 876 8 = Xi S 876 8 from w13.x _ _ rfl)))))
              have w206 : Xi U15 895 3 = Xi T3 895 3 := (show Xi U15 895 3 = Xi U11 895 3 from by rw [eU15]; exact Xi_ne (by omega)).trans ((show Xi U11 895 3 = Xi T3 895 3 from by rw [eU11]; exact Xi_ne (by omega)))
              have w207 : Xi U15 895 4 = Xi T3 895 4 := (show Xi U15 895 4 = Xi U11 895 4 from by rw [eU15]; exact Xi_ne (by omega)).trans ((show Xi U11 895 4 = Xi T3 895 4 from by rw [eU11]; exact Xi_ne (by omega)))
              refine y_callV rfl rfl rfl (t_rr_actingOn__p hHU15 z12 (Xi U11 899 5) z142 ⟨by omega, by omega⟩ ⟨by omega, by omega⟩ ((show U15.2.2 899 4 = U11.2.2 899 4 from by rw [eU15]; rfl).trans ((show U11.2.2 899 4 = T3.2.2 899 4 from by rw [eU11]; rfl).trans ((w21 899 4 rfl).2.2.trans (show U2.2.2 899 4 = some (248 + z12) from by rw [eU2]; exact uR_s)))) (by omega) (by first | assumption | omega) (by first | assumption | exact (CEN_FR hFU15 rfl rfl (by assumption : CEN S))) (by first | assumption | omega) (by first | assumption | omega) (by first | assumption | omega) (by first | assumption | omega) (fun j => by rw [(hFU15.cx 19 rfl _).1]; exact hak.o j) _) ?_
              rintro _ T16 ⟨hHT16, w209, z208, rfl, w208, o131⟩
              have hFT16 : FR md_rr_ruleHead__p S T16 := FR.tr hFU15 w209 rfl
              show Pl _ _ _ _ _ _ [iv z208] _ _
              have F131 := (by assumption : FR md_rr_actingOn__p U15 T16)
              refine y_if_eq rfl rfl (by unfold rg; omega) (fun w210 => ?_) (fun w211 => ?_)
              · refine y_iconst rfl ?_
                refine y_ireturn rfl rfl ?_
                have w212 : Xi T16 246 2 = Xi S 246 2 := (show Xi T16 246 2 = Xi U15 246 2 from w209.x _ _ rfl).trans ( (show Xi U15 246 2 = Xi U11 246 2 from by rw [eU15]; exact Xi_ne (by omega)).trans ( (show Xi U11 246 2 = Xi T3 246 2 from by rw [eU11]; exact Xi_ne (by omega)).trans ( (show Xi T3 246 2 = Xi U2 246 2 from w21.x _ _ rfl).trans ( (show Xi U2 246 2 = Xi T1 246 2 from by rw [eU2]; rfl).trans ((show Xi T1 246 2 = Xi S 246 2 from w13.x _ _ rfl))))))
                have w213 : Xi T16 895 3 = Xi T3 895 3 := (show Xi T16 895 3 = Xi U15 895 3 from w209.x _ _ rfl).trans ( (show Xi U15 895 3 = Xi U11 895 3 from by rw [eU15]; exact Xi_ne (by omega)).trans ((show Xi U11 895 3 = Xi T3 895 3 from by rw [eU11]; exact Xi_ne (by omega))))
                have w214 : Xi T16 895 4 = Xi T3 895 4 := (show Xi T16 895 4 = Xi U15 895 4 from w209.x _ _ rfl).trans ( (show Xi U15 895 4 = Xi U11 895 4 from by rw [eU15]; exact Xi_ne (by omega)).trans ((show Xi U11 895 4 = Xi T3 895 4 from by rw [eU11]; exact Xi_ne (by omega))))
                have w215 : Xi T16 899 5 = Xi U15 899 5 := (show Xi T16 899 5 = Xi U15 899 5 from w209.x _ _ rfl)
                exact ⟨hHT16, hFT16, _, rfl, ⟨by omega, by omega⟩, (by first | (have u := Y19; exact ⟨fun _ => ⟨by omega, Y19⟩, fun q => absurd q (by omega)⟩) | (have u := K152; first | (have u := F131; exact rho_a R35 (by omega) B64.o (by omega) (rha_y (O95.1 (by omega)) H120 (FR.tr FR.rf F131 rfl) F131 (by first | rfl | omega) b83 rfl (by omega) o131 (fun q => absurd q (by omega)) (fun q => ⟨rfl, e152⟩))) | exact rho_a R35 (by omega) B64.o (by omega) (rha_n (O95.2 (by omega)) H120 (FR.tr FR.rf F143 rfl) F143 (by first | rfl | omega) b83 (by omega) o143 (fun q => absurd q (by omega)) (fun q => ⟨rfl, e152⟩))) | (have u := F131; exact rho_a R35 (by omega) B64.o (by omega) (rha_y (O95.1 (by omega)) H120 (FR.tr FR.rf F131 rfl) F131 (by first | rfl | omega) b83 rfl (by omega) o131 (fun q => ⟨rfl, rfl⟩) (fun q => absurd q (by omega)))) | (have u := F143; exact rho_a R35 (by omega) B64.o (by omega) (rha_n (O95.2 (by omega)) H120 (FR.tr FR.rf F143 rfl) F143 (by first | rfl | omega) b83 (by omega) o143 (fun q => ⟨rfl, rfl⟩) (fun q => absurd q (by omega)))) | exact rho_6 R35 (by omega) B64.o (by omega) rfl)⟩
              · refine y_goto rfl rfl ?_
                refine y_aload_n rfl rfl ?_
                have w216 : Xi T16 246 2 = Xi S 246 2 := (show Xi T16 246 2 = Xi U15 246 2 from w209.x _ _ rfl).trans ( (show Xi U15 246 2 = Xi U11 246 2 from by rw [eU15]; exact Xi_ne (by omega)).trans ( (show Xi U11 246 2 = Xi T3 246 2 from by rw [eU11]; exact Xi_ne (by omega)).trans ( (show Xi T3 246 2 = Xi U2 246 2 from w21.x _ _ rfl).trans ( (show Xi U2 246 2 = Xi T1 246 2 from by rw [eU2]; rfl).trans ((show Xi T1 246 2 = Xi S 246 2 from w13.x _ _ rfl))))))
                have w217 : Xi T16 895 3 = Xi T3 895 3 := (show Xi T16 895 3 = Xi U15 895 3 from w209.x _ _ rfl).trans ( (show Xi U15 895 3 = Xi U11 895 3 from by rw [eU15]; exact Xi_ne (by omega)).trans ((show Xi U11 895 3 = Xi T3 895 3 from by rw [eU11]; exact Xi_ne (by omega))))
                have w218 : Xi T16 895 4 = Xi T3 895 4 := (show Xi T16 895 4 = Xi U15 895 4 from w209.x _ _ rfl).trans ( (show Xi U15 895 4 = Xi U11 895 4 from by rw [eU15]; exact Xi_ne (by omega)).trans ((show Xi U11 895 4 = Xi T3 895 4 from by rw [eU11]; exact Xi_ne (by omega))))
                have w219 : Xi T16 899 5 = Xi U15 899 5 := (show Xi T16 899 5 = Xi U15 899 5 from w209.x _ _ rfl)
                refine y_callV rfl rfl rfl (t_rr_nameNoun__p hHT16 z12 ((w209 899 4 rfl).2.2.trans ((show U15.2.2 899 4 = U11.2.2 899 4 from by rw [eU15]; rfl).trans ((show U11.2.2 899 4 = T3.2.2 899 4 from by rw [eU11]; rfl).trans ((w21 899 4 rfl).2.2.trans (show U2.2.2 899 4 = some (248 + z12) from by rw [eU2]; exact uR_s))))) (by omega) _) ?_
                rintro _ T17 ⟨hHT17, w221, rfl, e152⟩
                have hFT17 : FR md_rr_ruleHead__p S T17 := FR.tr hFT16 w221 rfl
                show Pl _ _ _ _ _ _ [] _ _
                have K152 : True := trivial
                refine y_iconst rfl ?_
                refine y_ireturn rfl rfl ?_
                have w222 : Xi T17 246 2 = Xi S 246 2 := (show Xi T17 246 2 = Xi T16 246 2 from w221.x _ _ rfl).trans ( (show Xi T16 246 2 = Xi U15 246 2 from w209.x _ _ rfl).trans ( (show Xi U15 246 2 = Xi U11 246 2 from by rw [eU15]; exact Xi_ne (by omega)).trans ( (show Xi U11 246 2 = Xi T3 246 2 from by rw [eU11]; exact Xi_ne (by omega)).trans ( (show Xi T3 246 2 = Xi U2 246 2 from w21.x _ _ rfl).trans ( (show Xi U2 246 2 = Xi T1 246 2 from by rw [eU2]; rfl).trans ((show Xi T1 246 2 = Xi S 246 2 from w13.x _ _ rfl)))))))
                have w223 : Xi T17 246 5 = Xi T16 246 5 := (show Xi T17 246 5 = Xi T16 246 5 from w221.x _ _ rfl)
                have w224 : Xi T17 876 8 = Xi T16 876 8 := (show Xi T17 876 8 = Xi T16 876 8 from w221.x _ _ rfl)
                have w225 : Xi T17 899 5 = Xi U15 899 5 := (show Xi T17 899 5 = Xi T16 899 5 from w221.x _ _ rfl).trans ((show Xi T16 899 5 = Xi U15 899 5 from w209.x _ _ rfl))
                exact ⟨hHT17, hFT17, _, rfl, ⟨by omega, by omega⟩, (by first | (have u := Y19; exact ⟨fun _ => ⟨by omega, Y19⟩, fun q => absurd q (by omega)⟩) | (have u := K152; first | (have u := F131; exact rho_a R35 (by omega) B64.o (by omega) (rha_y (O95.1 (by omega)) H120 (FR.tr FR.rf F131 rfl) F131 (by first | rfl | omega) b83 rfl (by omega) o131 (fun q => absurd q (by omega)) (fun q => ⟨rfl, e152⟩))) | exact rho_a R35 (by omega) B64.o (by omega) (rha_n (O95.2 (by omega)) H120 (FR.tr FR.rf F143 rfl) F143 (by first | rfl | omega) b83 (by omega) o143 (fun q => absurd q (by omega)) (fun q => ⟨rfl, e152⟩))) | (have u := F131; exact rho_a R35 (by omega) B64.o (by omega) (rha_y (O95.1 (by omega)) H120 (FR.tr FR.rf F131 rfl) F131 (by first | rfl | omega) b83 rfl (by omega) o131 (fun q => ⟨rfl, rfl⟩) (fun q => absurd q (by omega)))) | (have u := F143; exact rho_a R35 (by omega) B64.o (by omega) (rha_n (O95.2 (by omega)) H120 (FR.tr FR.rf F143 rfl) F143 (by first | rfl | omega) b83 (by omega) o143 (fun q => ⟨rfl, rfl⟩) (fun q => absurd q (by omega)))) | exact rho_6 R35 (by omega) B64.o (by omega) rfl)⟩
      · refine y_iconst rfl ?_
        refine y_goto rfl rfl ?_
        refine y_pfi rfl rfl rfl rfl ?_
        obtain ⟨U18, eU18⟩ : ∃ T : sS, T = uI T3 899 5 (Int32.ofInt 1) := ⟨_, rfl⟩
        rw [← eU18]
        have hHU18 : RI U18 := by rw [eU18]; exact RI_w hHT3
        have hFU18 : FR md_rr_ruleHead__p S U18 := by rw [eU18]; exact FR.wI hFT3 (mdf_i (r := (899, 900, 5, 6)) (List.mem_of_getElem? (i := 25) rfl) (inR_i (by omega) (by omega) (by omega) (by omega)))
        have w226 : Xi U18 899 5 = 1 := by rw [eU18]; exact Xi_same (by unfold rg; omega)
        have e64 := eU18
        have B64 : Hid (RHB md_rr_ruleHead__p S U18 z12 sort) := ⟨hFU18, by unfold soR; rw [← v29]; exact rlm_e (fun j => by rw [e64, Xi_ne (by omega), e45, Xi_ne (by omega), Xi_ne (by omega), e35]; rfl) x32, kru_o e64 (by omega) (by rw [e45]; exact kru_o rfl (by omega) (kru_o rfl (by omega) (by rw [e35]; exact k32))), by rw [e64, Xi_ne (by omega), e45, Xi_ne (by omega)]; exact Xi_same (by unfold rg; omega), by rw [e64, Xi_ne (by omega), e45]; exact Xi_same (by unfold rg; omega), by rw [e64]; refine (Xi_same (by unfold rg; omega)).trans ?_; first | (rw [if_pos (by omega)]) | (rw [if_neg (by omega)]), by rw [e64]; show _ = some _; rw [e45]; exact h35, by rw [e64, Xi_ne (by omega), e45, Xi_ne (by omega), Xi_ne (by omega), e35]; exact F32.x 246 5 rfl, by rw [e64, Xi_ne (by omega), e45, Xi_ne (by omega), Xi_ne (by omega), e35]; exact (F32.x 876 8 rfl).trans hf, fun c j q => by rw [e64, Xi_ne (by omega), e45, Xi_ne (by omega), Xi_ne (by omega), e35]; exact (Xi_uR _ _).trans (FR_cl F32 rfl q)⟩
        refine y_iload_n rfl rfl ?_
        refine y_bipush rfl rfl ?_
        refine y_icmp_eq rfl rfl (by unfold rg; omega) (by unfold rg; omega) (fun w227 => ?_) (fun w228 => ?_)
        · refine y_iconst rfl ?_
          refine y_ireturn rfl rfl ?_
          have w229 : Xi U18 246 2 = Xi S 246 2 := (show Xi U18 246 2 = Xi T3 246 2 from by rw [eU18]; exact Xi_ne (by omega)).trans ( (show Xi T3 246 2 = Xi U2 246 2 from w21.x _ _ rfl).trans ( (show Xi U2 246 2 = Xi T1 246 2 from by rw [eU2]; rfl).trans ((show Xi T1 246 2 = Xi S 246 2 from w13.x _ _ rfl))))
          have w230 : Xi U18 246 5 = Xi S 246 5 := (show Xi U18 246 5 = Xi T3 246 5 from by rw [eU18]; exact Xi_ne (by omega)).trans ( (show Xi T3 246 5 = Xi U2 246 5 from w21.x _ _ rfl).trans ( (show Xi U2 246 5 = Xi T1 246 5 from by rw [eU2]; rfl).trans ((show Xi T1 246 5 = Xi S 246 5 from w13.x _ _ rfl))))
          have w231 : Xi U18 876 8 = Xi S 876 8 := (show Xi U18 876 8 = Xi T3 876 8 from by rw [eU18]; exact Xi_ne (by omega)).trans ( (show Xi T3 876 8 = Xi U2 876 8 from w21.x _ _ rfl).trans ( (show Xi U2 876 8 = Xi T1 876 8 from by rw [eU2]; rfl).trans ((show Xi T1 876 8 = Xi S 876 8 from w13.x _ _ rfl))))
          have w232 : Xi U18 895 3 = Xi T3 895 3 := (show Xi U18 895 3 = Xi T3 895 3 from by rw [eU18]; exact Xi_ne (by omega))
          have w233 : Xi U18 895 4 = Xi T3 895 4 := (show Xi U18 895 4 = Xi T3 895 4 from by rw [eU18]; exact Xi_ne (by omega))
          exact ⟨hHU18, hFU18, _, rfl, ⟨by omega, by omega⟩, (by first | (have u := Y19; exact ⟨fun _ => ⟨by omega, Y19⟩, fun q => absurd q (by omega)⟩) | (have u := K152; first | (have u := F131; exact rho_a R35 (by omega) B64.o (by omega) (rha_y (O95.1 (by omega)) H120 (FR.tr FR.rf F131 rfl) F131 (by first | rfl | omega) b83 rfl (by omega) o131 (fun q => absurd q (by omega)) (fun q => ⟨rfl, e152⟩))) | exact rho_a R35 (by omega) B64.o (by omega) (rha_n (O95.2 (by omega)) H120 (FR.tr FR.rf F143 rfl) F143 (by first | rfl | omega) b83 (by omega) o143 (fun q => absurd q (by omega)) (fun q => ⟨rfl, e152⟩))) | (have u := F131; exact rho_a R35 (by omega) B64.o (by omega) (rha_y (O95.1 (by omega)) H120 (FR.tr FR.rf F131 rfl) F131 (by first | rfl | omega) b83 rfl (by omega) o131 (fun q => ⟨rfl, rfl⟩) (fun q => absurd q (by omega)))) | (have u := F143; exact rho_a R35 (by omega) B64.o (by omega) (rha_n (O95.2 (by omega)) H120 (FR.tr FR.rf F143 rfl) F143 (by first | rfl | omega) b83 (by omega) o143 (fun q => ⟨rfl, rfl⟩) (fun q => absurd q (by omega)))) | exact rho_6 R35 (by omega) B64.o (by omega) rfl)⟩
        · refine y_aload_n rfl rfl ?_
          refine y_gfi rfl rfl rfl rfl rfl ?_
          refine y_istore_n rfl rfl rfl ?_
          refine y_aload_n rfl rfl ?_
          refine y_gfr rfl rfl rfl rfl rfl (hHU18.r 899 0 876 rfl) ?_
          refine y_iload_n rfl rfl ?_
          have w234 : Xi U18 246 2 = Xi S 246 2 := (show Xi U18 246 2 = Xi T3 246 2 from by rw [eU18]; exact Xi_ne (by omega)).trans ( (show Xi T3 246 2 = Xi U2 246 2 from w21.x _ _ rfl).trans ( (show Xi U2 246 2 = Xi T1 246 2 from by rw [eU2]; rfl).trans ((show Xi T1 246 2 = Xi S 246 2 from w13.x _ _ rfl))))
          have w235 : Xi U18 246 5 = Xi S 246 5 := (show Xi U18 246 5 = Xi T3 246 5 from by rw [eU18]; exact Xi_ne (by omega)).trans ( (show Xi T3 246 5 = Xi U2 246 5 from w21.x _ _ rfl).trans ( (show Xi U2 246 5 = Xi T1 246 5 from by rw [eU2]; rfl).trans ((show Xi T1 246 5 = Xi S 246 5 from w13.x _ _ rfl))))
          have w236 : Xi U18 876 7 = Xi S 876 7 := (show Xi U18 876 7 = Xi T3 876 7 from by rw [eU18]; exact Xi_ne (by omega)).trans ( (show Xi T3 876 7 = Xi U2 876 7 from w21.x _ _ rfl).trans ( (show Xi U2 876 7 = Xi T1 876 7 from by rw [eU2]; rfl).trans ((show Xi T1 876 7 = Xi S 876 7 from w13.x _ _ rfl))))
          have w237 : Xi U18 876 8 = Xi S 876 8 := (show Xi U18 876 8 = Xi T3 876 8 from by rw [eU18]; exact Xi_ne (by omega)).trans ( (show Xi T3 876 8 = Xi U2 876 8 from w21.x _ _ rfl).trans ( (show Xi U2 876 8 = Xi T1 876 8 from by rw [eU2]; rfl).trans ((show Xi T1 876 8 = Xi S 876 8 from w13.x _ _ rfl))))
          have w238 : Xi U18 895 3 = Xi T3 895 3 := (show Xi U18 895 3 = Xi T3 895 3 from by rw [eU18]; exact Xi_ne (by omega))
          have w239 : Xi U18 895 4 = Xi T3 895 4 := (show Xi U18 895 4 = Xi T3 895 4 from by rw [eU18]; exact Xi_ne (by omega))
          refine y_callV rfl rfl rfl (t_to_runEnd__p hHU18 (Xi U18 899 5) ⟨by omega, by omega⟩ _) ?_
          rintro _ _ ⟨rfl, z242, rfl, w242, w240, w241⟩
          show Pl _ _ _ _ _ _ [iv z242] _ _
          have gq83 := w240
          rw [FRT hFU18 rfl rfl] at gq83
          try rw [show Xi U18 890 1 = Xi S 890 1 by omega] at gq83
          try rw [show (Xi U18 899 5) = 1 by omega] at gq83
          clear w240
          have b83 : z242 = re7 (ty7 U18) (Xi U18 899 5) := by rw [ty7_F hFU18 rfl]; first | (rw [show Xi U18 899 5 = 1 by omega]; exact gq83.symm) | (rw [show Xi U18 899 5 = 2 by omega]; exact gq83.symm)
          refine y_istore_n rfl rfl rfl ?_
          refine y_aload_n rfl rfl ?_
          refine y_gfr rfl rfl rfl rfl rfl (hHU18.r 899 0 876 rfl) ?_
          refine y_iload_n rfl rfl ?_
          refine y_callV rfl rfl rfl (t_to_typeAt__p hHU18 z242 ⟨by omega, by omega⟩ _) ?_
          rintro _ _ ⟨rfl, z251, rfl, w251, w249, w250⟩
          show Pl _ _ _ _ _ _ [iv z251] _ _
          have gq92 := w249
          rw [FRT hFU18 rfl rfl] at gq92
          try rw [show Xi U18 890 1 = Xi S 890 1 by omega] at gq92
          clear w249
          have t92 : z251 = ty7 U18 (re7 (ty7 U18) (Xi U18 899 5)) := by rw [← b83, ty7_F hFU18 rfl]; exact gq92.symm
          refine y_callS rfl rfl (by decide) rfl (t_rs_isArt__p hHU18 z251 ⟨by omega, by omega⟩ _) ?_
          rintro _ _ ⟨rfl, z257, rfl, w257, q95, n95⟩
          show Pl _ _ _ _ _ _ [iv z257] _ _
          have O95 : (z257 = 1 → onA U18) ∧ (z257 = 0 → ¬ onA U18) := ⟨fun q => by unfold onA; rw [← t92]; exact q95 q, fun q w => by unfold onA at w; rw [← t92] at w; have := n95 q; omega⟩
          clear q95 n95
          refine y_istore rfl rfl rfl ?_
          refine y_aload_n rfl rfl ?_
          refine y_iload rfl rfl ?_
          refine y_if_eq rfl rfl (by unfold rg; omega) (fun w258 => ?_) (fun w259 => ?_)
          · refine y_iload_n rfl rfl ?_
            refine y_pfi rfl rfl rfl rfl ?_
            obtain ⟨U19, eU19⟩ : ∃ T : sS, T = uI U18 899 5 (Int32.ofInt z242) := ⟨_, rfl⟩
            rw [← eU19]
            have hHU19 : RI U19 := by rw [eU19]; exact RI_w hHU18
            have hFU19 : FR md_rr_ruleHead__p S U19 := by rw [eU19]; exact FR.wI hFU18 (mdf_i (r := (899, 900, 5, 6)) (List.mem_of_getElem? (i := 25) rfl) (inR_i (by omega) (by omega) (by omega) (by omega)))
            have w260 : Xi U19 899 5 = z242 := by rw [eU19]; exact Xi_same (by unfold rg; omega)
            have H120 : U19 = hdB U18 := by first | (have t := b113; exact hdB_y (O95.1 (by omega)) eU19 b113) | exact hdB_n (O95.2 (by omega)) eU19 b83
            refine y_iload rfl rfl ?_
            refine y_if_eq rfl rfl (by unfold rg; omega) (fun w261 => ?_) (fun w262 => ?_)
            · refine y_aload_n rfl rfl ?_
              refine y_iload_n rfl rfl ?_
              refine y_iload_n rfl rfl ?_
              have w263 : Xi U19 1 3 = Xi S 1 3 := (show Xi U19 1 3 = Xi U18 1 3 from by rw [eU19]; exact Xi_ne (by omega)).trans ( (show Xi U18 1 3 = Xi T3 1 3 from by rw [eU18]; exact Xi_ne (by omega)).trans ( (show Xi T3 1 3 = Xi U2 1 3 from w21.x _ _ rfl).trans ( (show Xi U2 1 3 = Xi T1 1 3 from by rw [eU2]; rfl).trans ((show Xi T1 1 3 = Xi S 1 3 from w13.x _ _ rfl)))))
              have w264 : Xi U19 246 2 = Xi S 246 2 := (show Xi U19 246 2 = Xi U18 246 2 from by rw [eU19]; exact Xi_ne (by omega)).trans ( (show Xi U18 246 2 = Xi T3 246 2 from by rw [eU18]; exact Xi_ne (by omega)).trans ( (show Xi T3 246 2 = Xi U2 246 2 from w21.x _ _ rfl).trans ( (show Xi U2 246 2 = Xi T1 246 2 from by rw [eU2]; rfl).trans ((show Xi T1 246 2 = Xi S 246 2 from w13.x _ _ rfl)))))
              have w265 : Xi U19 246 5 = Xi S 246 5 := (show Xi U19 246 5 = Xi U18 246 5 from by rw [eU19]; exact Xi_ne (by omega)).trans ( (show Xi U18 246 5 = Xi T3 246 5 from by rw [eU18]; exact Xi_ne (by omega)).trans ( (show Xi T3 246 5 = Xi U2 246 5 from w21.x _ _ rfl).trans ( (show Xi U2 246 5 = Xi T1 246 5 from by rw [eU2]; rfl).trans ((show Xi T1 246 5 = Xi S 246 5 from w13.x _ _ rfl)))))
              have w266 : Xi U19 876 8 = Xi S 876 8 := (show Xi U19 876 8 = Xi U18 876 8 from by rw [eU19]; exact Xi_ne (by omega)).trans ( (show Xi U18 876 8 = Xi T3 876 8 from by rw [eU18]; exact Xi_ne (by omega)).trans ( (show Xi T3 876 8 = Xi U2 876 8 from w21.x _ _ rfl).trans ( (show Xi U2 876 8 = Xi T1 876 8 from by rw [eU2]; rfl).trans ((show Xi T1 876 8 = Xi S 876 8 from w13.x _ _ rfl)))))
              have w267 : Xi U19 895 3 = Xi T3 895 3 := (show Xi U19 895 3 = Xi U18 895 3 from by rw [eU19]; exact Xi_ne (by omega)).trans ((show Xi U18 895 3 = Xi T3 895 3 from by rw [eU18]; exact Xi_ne (by omega)))
              have w268 : Xi U19 895 4 = Xi T3 895 4 := (show Xi U19 895 4 = Xi U18 895 4 from by rw [eU19]; exact Xi_ne (by omega)).trans ((show Xi U18 895 4 = Xi T3 895 4 from by rw [eU18]; exact Xi_ne (by omega)))
              refine y_callV rfl rfl rfl (t_rr_actingAlone__p hHU19 z12 (Xi U18 899 5) z242 ⟨by omega, by omega⟩ ⟨by omega, by omega⟩ ((show U19.2.2 899 4 = U18.2.2 899 4 from by rw [eU19]; rfl).trans ((show U18.2.2 899 4 = T3.2.2 899 4 from by rw [eU18]; rfl).trans ((w21 899 4 rfl).2.2.trans (show U2.2.2 899 4 = some (248 + z12) from by rw [eU2]; exact uR_s)))) (by omega) (by first | assumption | omega) (by first | assumption | exact (CEN_FR hFU19 rfl rfl (by assumption : CEN S))) (by first | assumption | omega) _) ?_
              rintro _ T20 ⟨hHT20, w270, z269, rfl, w269, o143⟩
              have hFT20 : FR md_rr_ruleHead__p S T20 := FR.tr hFU19 w270 rfl
              show Pl _ _ _ _ _ _ [iv z269] _ _
              have F143 := (by assumption : FR md_rr_actingAlone__p U19 T20)
              refine y_if_ne rfl rfl (by unfold rg; omega) (fun w271 => ?_) (fun w272 => ?_)
              · refine y_aload_n rfl rfl ?_
                have w273 : Xi T20 246 2 = Xi S 246 2 := (show Xi T20 246 2 = Xi U19 246 2 from w270.x _ _ rfl).trans ( (show Xi U19 246 2 = Xi U18 246 2 from by rw [eU19]; exact Xi_ne (by omega)).trans ( (show Xi U18 246 2 = Xi T3 246 2 from by rw [eU18]; exact Xi_ne (by omega)).trans ( (show Xi T3 246 2 = Xi U2 246 2 from w21.x _ _ rfl).trans ( (show Xi U2 246 2 = Xi T1 246 2 from by rw [eU2]; rfl).trans ((show Xi T1 246 2 = Xi S 246 2 from w13.x _ _ rfl))))))
                have w274 : Xi T20 246 5 = Xi S 246 5 := (show Xi T20 246 5 = Xi U19 246 5 from w270.x _ _ rfl).trans ( (show Xi U19 246 5 = Xi U18 246 5 from by rw [eU19]; exact Xi_ne (by omega)).trans ( (show Xi U18 246 5 = Xi T3 246 5 from by rw [eU18]; exact Xi_ne (by omega)).trans ( (show Xi T3 246 5 = Xi U2 246 5 from w21.x _ _ rfl).trans ( (show Xi U2 246 5 = Xi T1 246 5 from by rw [eU2]; rfl).trans ((show Xi T1 246 5 = Xi S 246 5 from w13.x _ _ rfl))))))
                have w275 : Xi T20 895 3 = Xi T3 895 3 := (show Xi T20 895 3 = Xi U19 895 3 from w270.x _ _ rfl).trans ( (show Xi U19 895 3 = Xi U18 895 3 from by rw [eU19]; exact Xi_ne (by omega)).trans ((show Xi U18 895 3 = Xi T3 895 3 from by rw [eU18]; exact Xi_ne (by omega))))
                have w276 : Xi T20 895 4 = Xi T3 895 4 := (show Xi T20 895 4 = Xi U19 895 4 from w270.x _ _ rfl).trans ( (show Xi U19 895 4 = Xi U18 895 4 from by rw [eU19]; exact Xi_ne (by omega)).trans ((show Xi U18 895 4 = Xi T3 895 4 from by rw [eU18]; exact Xi_ne (by omega))))
                have w277 : Xi T20 899 5 = Xi U19 899 5 := (show Xi T20 899 5 = Xi U19 899 5 from w270.x _ _ rfl)
                refine y_callV rfl rfl rfl (t_rr_nameNoun__p hHT20 z12 ((w270 899 4 rfl).2.2.trans ((show U19.2.2 899 4 = U18.2.2 899 4 from by rw [eU19]; rfl).trans ((show U18.2.2 899 4 = T3.2.2 899 4 from by rw [eU18]; rfl).trans ((w21 899 4 rfl).2.2.trans (show U2.2.2 899 4 = some (248 + z12) from by rw [eU2]; exact uR_s))))) (by omega) _) ?_
                rintro _ T21 ⟨hHT21, w279, rfl, e152⟩
                have hFT21 : FR md_rr_ruleHead__p S T21 := FR.tr hFT20 w279 rfl
                show Pl _ _ _ _ _ _ [] _ _
                have K152 : True := trivial
                refine y_iconst rfl ?_
                refine y_ireturn rfl rfl ?_
                have w280 : Xi T21 246 2 = Xi S 246 2 := (show Xi T21 246 2 = Xi T20 246 2 from w279.x _ _ rfl).trans ( (show Xi T20 246 2 = Xi U19 246 2 from w270.x _ _ rfl).trans ( (show Xi U19 246 2 = Xi U18 246 2 from by rw [eU19]; exact Xi_ne (by omega)).trans ( (show Xi U18 246 2 = Xi T3 246 2 from by rw [eU18]; exact Xi_ne (by omega)).trans ( (show Xi T3 246 2 = Xi U2 246 2 from w21.x _ _ rfl).trans ( (show Xi U2 246 2 = Xi T1 246 2 from by rw [eU2]; rfl).trans ((show Xi T1 246 2 = Xi S 246 2 from w13.x _ _ rfl)))))))
                have w281 : Xi T21 246 5 = Xi S 246 5 := (show Xi T21 246 5 = Xi T20 246 5 from w279.x _ _ rfl).trans ( (show Xi T20 246 5 = Xi U19 246 5 from w270.x _ _ rfl).trans ( (show Xi U19 246 5 = Xi U18 246 5 from by rw [eU19]; exact Xi_ne (by omega)).trans ( (show Xi U18 246 5 = Xi T3 246 5 from by rw [eU18]; exact Xi_ne (by omega)).trans ( (show Xi T3 246 5 = Xi U2 246 5 from w21.x _ _ rfl).trans ( (show Xi U2 246 5 = Xi T1 246 5 from by rw [eU2]; rfl).trans ((show Xi T1 246 5 = Xi S 246 5 from w13.x _ _ rfl)))))))
                have w282 : Xi T21 876 8 = Xi T20 876 8 := (show Xi T21 876 8 = Xi T20 876 8 from w279.x _ _ rfl)
                have w283 : Xi T21 899 5 = Xi U19 899 5 := (show Xi T21 899 5 = Xi T20 899 5 from w279.x _ _ rfl).trans ((show Xi T20 899 5 = Xi U19 899 5 from w270.x _ _ rfl))
                exact ⟨hHT21, hFT21, _, rfl, ⟨by omega, by omega⟩, (by first | (have u := Y19; exact ⟨fun _ => ⟨by omega, Y19⟩, fun q => absurd q (by omega)⟩) | (have u := K152; first | (have u := F131; exact rho_a R35 (by omega) B64.o (by omega) (rha_y (O95.1 (by omega)) H120 (FR.tr FR.rf F131 rfl) F131 (by first | rfl | omega) b83 rfl (by omega) o131 (fun q => absurd q (by omega)) (fun q => ⟨rfl, e152⟩))) | exact rho_a R35 (by omega) B64.o (by omega) (rha_n (O95.2 (by omega)) H120 (FR.tr FR.rf F143 rfl) F143 (by first | rfl | omega) b83 (by omega) o143 (fun q => absurd q (by omega)) (fun q => ⟨rfl, e152⟩))) | (have u := F131; exact rho_a R35 (by omega) B64.o (by omega) (rha_y (O95.1 (by omega)) H120 (FR.tr FR.rf F131 rfl) F131 (by first | rfl | omega) b83 rfl (by omega) o131 (fun q => ⟨rfl, rfl⟩) (fun q => absurd q (by omega)))) | (have u := F143; exact rho_a R35 (by omega) B64.o (by omega) (rha_n (O95.2 (by omega)) H120 (FR.tr FR.rf F143 rfl) F143 (by first | rfl | omega) b83 (by omega) o143 (fun q => ⟨rfl, rfl⟩) (fun q => absurd q (by omega)))) | exact rho_6 R35 (by omega) B64.o (by omega) rfl)⟩
              · refine y_iconst rfl ?_
                refine y_ireturn rfl rfl ?_
                have w284 : Xi T20 246 2 = Xi S 246 2 := (show Xi T20 246 2 = Xi U19 246 2 from w270.x _ _ rfl).trans ( (show Xi U19 246 2 = Xi U18 246 2 from by rw [eU19]; exact Xi_ne (by omega)).trans ( (show Xi U18 246 2 = Xi T3 246 2 from by rw [eU18]; exact Xi_ne (by omega)).trans ( (show Xi T3 246 2 = Xi U2 246 2 from w21.x _ _ rfl).trans ( (show Xi U2 246 2 = Xi T1 246 2 from by rw [eU2]; rfl).trans ((show Xi T1 246 2 = Xi S 246 2 from w13.x _ _ rfl))))))
                have w285 : Xi T20 246 5 = Xi S 246 5 := (show Xi T20 246 5 = Xi U19 246 5 from w270.x _ _ rfl).trans ( (show Xi U19 246 5 = Xi U18 246 5 from by rw [eU19]; exact Xi_ne (by omega)).trans ( (show Xi U18 246 5 = Xi T3 246 5 from by rw [eU18]; exact Xi_ne (by omega)).trans ( (show Xi T3 246 5 = Xi U2 246 5 from w21.x _ _ rfl).trans ( (show Xi U2 246 5 = Xi T1 246 5 from by rw [eU2]; rfl).trans ((show Xi T1 246 5 = Xi S 246 5 from w13.x _ _ rfl))))))
                have w286 : Xi T20 895 3 = Xi T3 895 3 := (show Xi T20 895 3 = Xi U19 895 3 from w270.x _ _ rfl).trans ( (show Xi U19 895 3 = Xi U18 895 3 from by rw [eU19]; exact Xi_ne (by omega)).trans ((show Xi U18 895 3 = Xi T3 895 3 from by rw [eU18]; exact Xi_ne (by omega))))
                have w287 : Xi T20 895 4 = Xi T3 895 4 := (show Xi T20 895 4 = Xi U19 895 4 from w270.x _ _ rfl).trans ( (show Xi U19 895 4 = Xi U18 895 4 from by rw [eU19]; exact Xi_ne (by omega)).trans ((show Xi U18 895 4 = Xi T3 895 4 from by rw [eU18]; exact Xi_ne (by omega))))
                have w288 : Xi T20 899 5 = Xi U19 899 5 := (show Xi T20 899 5 = Xi U19 899 5 from w270.x _ _ rfl)
                exact ⟨hHT20, hFT20, _, rfl, ⟨by omega, by omega⟩, (by first | (have u := Y19; exact ⟨fun _ => ⟨by omega, Y19⟩, fun q => absurd q (by omega)⟩) | (have u := K152; first | (have u := F131; exact rho_a R35 (by omega) B64.o (by omega) (rha_y (O95.1 (by omega)) H120 (FR.tr FR.rf F131 rfl) F131 (by first | rfl | omega) b83 rfl (by omega) o131 (fun q => absurd q (by omega)) (fun q => ⟨rfl, e152⟩))) | exact rho_a R35 (by omega) B64.o (by omega) (rha_n (O95.2 (by omega)) H120 (FR.tr FR.rf F143 rfl) F143 (by first | rfl | omega) b83 (by omega) o143 (fun q => absurd q (by omega)) (fun q => ⟨rfl, e152⟩))) | (have u := F131; exact rho_a R35 (by omega) B64.o (by omega) (rha_y (O95.1 (by omega)) H120 (FR.tr FR.rf F131 rfl) F131 (by first | rfl | omega) b83 rfl (by omega) o131 (fun q => ⟨rfl, rfl⟩) (fun q => absurd q (by omega)))) | (have u := F143; exact rho_a R35 (by omega) B64.o (by omega) (rha_n (O95.2 (by omega)) H120 (FR.tr FR.rf F143 rfl) F143 (by first | rfl | omega) b83 (by omega) o143 (fun q => ⟨rfl, rfl⟩) (fun q => absurd q (by omega)))) | exact rho_6 R35 (by omega) B64.o (by omega) rfl)⟩
            · exfalso; omega
          · refine y_aload_n rfl rfl ?_
            refine y_gfr rfl rfl rfl rfl rfl (hHU18.r 899 0 876 rfl) ?_
            refine y_iload_n rfl rfl ?_
            refine y_iconst rfl ?_
            refine y_iadd rfl ?_
            refine y_callV rfl rfl rfl (t_to_runEnd__p hHU18 (z242 + 1) ⟨by omega, by omega⟩ _) ?_
            rintro _ _ ⟨rfl, z297, rfl, w297, w295, w296⟩
            show Pl _ _ _ _ _ _ [iv z297, .ref 899] _ _
            have gq113 := w295
            rw [FRT hFU18 rfl rfl] at gq113
            try rw [show Xi U18 890 1 = Xi S 890 1 by omega] at gq113
            clear w295
            have b113 : z297 = re7 (ty7 U18) (re7 (ty7 U18) (Xi U18 899 5) + 1) := by rw [← b83, ty7_F hFU18 rfl]; exact gq113.symm
            refine y_goto rfl rfl ?_
            refine y_pfi rfl rfl rfl rfl ?_
            obtain ⟨U22, eU22⟩ : ∃ T : sS, T = uI U18 899 5 (Int32.ofInt z297) := ⟨_, rfl⟩
            rw [← eU22]
            have hHU22 : RI U22 := by rw [eU22]; exact RI_w hHU18
            have hFU22 : FR md_rr_ruleHead__p S U22 := by rw [eU22]; exact FR.wI hFU18 (mdf_i (r := (899, 900, 5, 6)) (List.mem_of_getElem? (i := 25) rfl) (inR_i (by omega) (by omega) (by omega) (by omega)))
            have w298 : Xi U22 899 5 = z297 := by rw [eU22]; exact Xi_same (by unfold rg; omega)
            have H120 : U22 = hdB U18 := by first | (have t := b113; exact hdB_y (O95.1 (by omega)) eU22 b113) | exact hdB_n (O95.2 (by omega)) eU22 b83
            refine y_iload rfl rfl ?_
            refine y_if_eq rfl rfl (by unfold rg; omega) (fun w299 => ?_) (fun w300 => ?_)
            · exfalso; omega
            · refine y_aload_n rfl rfl ?_
              refine y_iload_n rfl rfl ?_
              refine y_iload_n rfl rfl ?_
              have w301 : Xi U22 1 3 = Xi S 1 3 := (show Xi U22 1 3 = Xi U18 1 3 from by rw [eU22]; exact Xi_ne (by omega)).trans ( (show Xi U18 1 3 = Xi T3 1 3 from by rw [eU18]; exact Xi_ne (by omega)).trans ( (show Xi T3 1 3 = Xi U2 1 3 from w21.x _ _ rfl).trans ( (show Xi U2 1 3 = Xi T1 1 3 from by rw [eU2]; rfl).trans ((show Xi T1 1 3 = Xi S 1 3 from w13.x _ _ rfl)))))
              have w302 : Xi U22 246 2 = Xi S 246 2 := (show Xi U22 246 2 = Xi U18 246 2 from by rw [eU22]; exact Xi_ne (by omega)).trans ( (show Xi U18 246 2 = Xi T3 246 2 from by rw [eU18]; exact Xi_ne (by omega)).trans ( (show Xi T3 246 2 = Xi U2 246 2 from w21.x _ _ rfl).trans ( (show Xi U2 246 2 = Xi T1 246 2 from by rw [eU2]; rfl).trans ((show Xi T1 246 2 = Xi S 246 2 from w13.x _ _ rfl)))))
              have w303 : Xi U22 246 5 = Xi S 246 5 := (show Xi U22 246 5 = Xi U18 246 5 from by rw [eU22]; exact Xi_ne (by omega)).trans ( (show Xi U18 246 5 = Xi T3 246 5 from by rw [eU18]; exact Xi_ne (by omega)).trans ( (show Xi T3 246 5 = Xi U2 246 5 from w21.x _ _ rfl).trans ( (show Xi U2 246 5 = Xi T1 246 5 from by rw [eU2]; rfl).trans ((show Xi T1 246 5 = Xi S 246 5 from w13.x _ _ rfl)))))
              have w304 : Xi U22 876 7 = Xi S 876 7 := (show Xi U22 876 7 = Xi U18 876 7 from by rw [eU22]; exact Xi_ne (by omega)).trans ( (show Xi U18 876 7 = Xi T3 876 7 from by rw [eU18]; exact Xi_ne (by omega)).trans ( (show Xi T3 876 7 = Xi U2 876 7 from w21.x _ _ rfl).trans ( (show Xi U2 876 7 = Xi T1 876 7 from by rw [eU2]; rfl).trans ((show Xi T1 876 7 = Xi S 876 7 from w13.x _ _ rfl)))))
              have w305 : Xi U22 876 8 = Xi S 876 8 := (show Xi U22 876 8 = Xi U18 876 8 from by rw [eU22]; exact Xi_ne (by omega)).trans ( (show Xi U18 876 8 = Xi T3 876 8 from by rw [eU18]; exact Xi_ne (by omega)).trans ( (show Xi T3 876 8 = Xi U2 876 8 from w21.x _ _ rfl).trans ( (show Xi U2 876 8 = Xi T1 876 8 from by rw [eU2]; rfl).trans ((show Xi T1 876 8 = Xi S 876 8 from w13.x _ _ rfl)))))
              have w306 : Xi U22 895 3 = Xi T3 895 3 := (show Xi U22 895 3 = Xi U18 895 3 from by rw [eU22]; exact Xi_ne (by omega)).trans ((show Xi U18 895 3 = Xi T3 895 3 from by rw [eU18]; exact Xi_ne (by omega)))
              have w307 : Xi U22 895 4 = Xi T3 895 4 := (show Xi U22 895 4 = Xi U18 895 4 from by rw [eU22]; exact Xi_ne (by omega)).trans ((show Xi U18 895 4 = Xi T3 895 4 from by rw [eU18]; exact Xi_ne (by omega)))
              refine y_callV rfl rfl rfl (t_rr_actingOn__p hHU22 z12 (Xi U18 899 5) z242 ⟨by omega, by omega⟩ ⟨by omega, by omega⟩ ((show U22.2.2 899 4 = U18.2.2 899 4 from by rw [eU22]; rfl).trans ((show U18.2.2 899 4 = T3.2.2 899 4 from by rw [eU18]; rfl).trans ((w21 899 4 rfl).2.2.trans (show U2.2.2 899 4 = some (248 + z12) from by rw [eU2]; exact uR_s)))) (by omega) (by first | assumption | omega) (by first | assumption | exact (CEN_FR hFU22 rfl rfl (by assumption : CEN S))) (by first | assumption | omega) (by first | assumption | omega) (by first | assumption | omega) (by first | assumption | omega) (fun j => by rw [(hFU22.cx 19 rfl _).1]; exact hak.o j) _) ?_
              rintro _ T23 ⟨hHT23, w309, z308, rfl, w308, o131⟩
              have hFT23 : FR md_rr_ruleHead__p S T23 := FR.tr hFU22 w309 rfl
              show Pl _ _ _ _ _ _ [iv z308] _ _
              have F131 := (by assumption : FR md_rr_actingOn__p U22 T23)
              refine y_if_eq rfl rfl (by unfold rg; omega) (fun w310 => ?_) (fun w311 => ?_)
              · refine y_iconst rfl ?_
                refine y_ireturn rfl rfl ?_
                have w312 : Xi T23 246 2 = Xi S 246 2 := (show Xi T23 246 2 = Xi U22 246 2 from w309.x _ _ rfl).trans ( (show Xi U22 246 2 = Xi U18 246 2 from by rw [eU22]; exact Xi_ne (by omega)).trans ( (show Xi U18 246 2 = Xi T3 246 2 from by rw [eU18]; exact Xi_ne (by omega)).trans ( (show Xi T3 246 2 = Xi U2 246 2 from w21.x _ _ rfl).trans ( (show Xi U2 246 2 = Xi T1 246 2 from by rw [eU2]; rfl).trans ((show Xi T1 246 2 = Xi S 246 2 from w13.x _ _ rfl))))))
                have w313 : Xi T23 895 3 = Xi T3 895 3 := (show Xi T23 895 3 = Xi U22 895 3 from w309.x _ _ rfl).trans ( (show Xi U22 895 3 = Xi U18 895 3 from by rw [eU22]; exact Xi_ne (by omega)).trans ((show Xi U18 895 3 = Xi T3 895 3 from by rw [eU18]; exact Xi_ne (by omega))))
                have w314 : Xi T23 895 4 = Xi T3 895 4 := (show Xi T23 895 4 = Xi U22 895 4 from w309.x _ _ rfl).trans ( (show Xi U22 895 4 = Xi U18 895 4 from by rw [eU22]; exact Xi_ne (by omega)).trans ((show Xi U18 895 4 = Xi T3 895 4 from by rw [eU18]; exact Xi_ne (by omega))))
                have w315 : Xi T23 899 5 = Xi U22 899 5 := (show Xi T23 899 5 = Xi U22 899 5 from w309.x _ _ rfl)
                exact ⟨hHT23, hFT23, _, rfl, ⟨by omega, by omega⟩, (by first | (have u := Y19; exact ⟨fun _ => ⟨by omega, Y19⟩, fun q => absurd q (by omega)⟩) | (have u := K152; first | (have u := F131; exact rho_a R35 (by omega) B64.o (by omega) (rha_y (O95.1 (by omega)) H120 (FR.tr FR.rf F131 rfl) F131 (by first | rfl | omega) b83 rfl (by omega) o131 (fun q => absurd q (by omega)) (fun q => ⟨rfl, e152⟩))) | exact rho_a R35 (by omega) B64.o (by omega) (rha_n (O95.2 (by omega)) H120 (FR.tr FR.rf F143 rfl) F143 (by first | rfl | omega) b83 (by omega) o143 (fun q => absurd q (by omega)) (fun q => ⟨rfl, e152⟩))) | (have u := F131; exact rho_a R35 (by omega) B64.o (by omega) (rha_y (O95.1 (by omega)) H120 (FR.tr FR.rf F131 rfl) F131 (by first | rfl | omega) b83 rfl (by omega) o131 (fun q => ⟨rfl, rfl⟩) (fun q => absurd q (by omega)))) | (have u := F143; exact rho_a R35 (by omega) B64.o (by omega) (rha_n (O95.2 (by omega)) H120 (FR.tr FR.rf F143 rfl) F143 (by first | rfl | omega) b83 (by omega) o143 (fun q => ⟨rfl, rfl⟩) (fun q => absurd q (by omega)))) | exact rho_6 R35 (by omega) B64.o (by omega) rfl)⟩
              · refine y_goto rfl rfl ?_
                refine y_aload_n rfl rfl ?_
                have w316 : Xi T23 246 2 = Xi S 246 2 := (show Xi T23 246 2 = Xi U22 246 2 from w309.x _ _ rfl).trans ( (show Xi U22 246 2 = Xi U18 246 2 from by rw [eU22]; exact Xi_ne (by omega)).trans ( (show Xi U18 246 2 = Xi T3 246 2 from by rw [eU18]; exact Xi_ne (by omega)).trans ( (show Xi T3 246 2 = Xi U2 246 2 from w21.x _ _ rfl).trans ( (show Xi U2 246 2 = Xi T1 246 2 from by rw [eU2]; rfl).trans ((show Xi T1 246 2 = Xi S 246 2 from w13.x _ _ rfl))))))
                have w317 : Xi T23 895 3 = Xi T3 895 3 := (show Xi T23 895 3 = Xi U22 895 3 from w309.x _ _ rfl).trans ( (show Xi U22 895 3 = Xi U18 895 3 from by rw [eU22]; exact Xi_ne (by omega)).trans ((show Xi U18 895 3 = Xi T3 895 3 from by rw [eU18]; exact Xi_ne (by omega))))
                have w318 : Xi T23 895 4 = Xi T3 895 4 := (show Xi T23 895 4 = Xi U22 895 4 from w309.x _ _ rfl).trans ( (show Xi U22 895 4 = Xi U18 895 4 from by rw [eU22]; exact Xi_ne (by omega)).trans ((show Xi U18 895 4 = Xi T3 895 4 from by rw [eU18]; exact Xi_ne (by omega))))
                have w319 : Xi T23 899 5 = Xi U22 899 5 := (show Xi T23 899 5 = Xi U22 899 5 from w309.x _ _ rfl)
                refine y_callV rfl rfl rfl (t_rr_nameNoun__p hHT23 z12 ((w309 899 4 rfl).2.2.trans ((show U22.2.2 899 4 = U18.2.2 899 4 from by rw [eU22]; rfl).trans ((show U18.2.2 899 4 = T3.2.2 899 4 from by rw [eU18]; rfl).trans ((w21 899 4 rfl).2.2.trans (show U2.2.2 899 4 = some (248 + z12) from by rw [eU2]; exact uR_s))))) (by omega) _) ?_
                rintro _ T24 ⟨hHT24, w321, rfl, e152⟩
                have hFT24 : FR md_rr_ruleHead__p S T24 := FR.tr hFT23 w321 rfl
                show Pl _ _ _ _ _ _ [] _ _
                have K152 : True := trivial
                refine y_iconst rfl ?_
                refine y_ireturn rfl rfl ?_
                have w322 : Xi T24 246 2 = Xi S 246 2 := (show Xi T24 246 2 = Xi T23 246 2 from w321.x _ _ rfl).trans ( (show Xi T23 246 2 = Xi U22 246 2 from w309.x _ _ rfl).trans ( (show Xi U22 246 2 = Xi U18 246 2 from by rw [eU22]; exact Xi_ne (by omega)).trans ( (show Xi U18 246 2 = Xi T3 246 2 from by rw [eU18]; exact Xi_ne (by omega)).trans ( (show Xi T3 246 2 = Xi U2 246 2 from w21.x _ _ rfl).trans ( (show Xi U2 246 2 = Xi T1 246 2 from by rw [eU2]; rfl).trans ((show Xi T1 246 2 = Xi S 246 2 from w13.x _ _ rfl)))))))
                have w323 : Xi T24 246 5 = Xi T23 246 5 := (show Xi T24 246 5 = Xi T23 246 5 from w321.x _ _ rfl)
                have w324 : Xi T24 876 8 = Xi T23 876 8 := (show Xi T24 876 8 = Xi T23 876 8 from w321.x _ _ rfl)
                have w325 : Xi T24 899 5 = Xi U22 899 5 := (show Xi T24 899 5 = Xi T23 899 5 from w321.x _ _ rfl).trans ((show Xi T23 899 5 = Xi U22 899 5 from w309.x _ _ rfl))
                exact ⟨hHT24, hFT24, _, rfl, ⟨by omega, by omega⟩, (by first | (have u := Y19; exact ⟨fun _ => ⟨by omega, Y19⟩, fun q => absurd q (by omega)⟩) | (have u := K152; first | (have u := F131; exact rho_a R35 (by omega) B64.o (by omega) (rha_y (O95.1 (by omega)) H120 (FR.tr FR.rf F131 rfl) F131 (by first | rfl | omega) b83 rfl (by omega) o131 (fun q => absurd q (by omega)) (fun q => ⟨rfl, e152⟩))) | exact rho_a R35 (by omega) B64.o (by omega) (rha_n (O95.2 (by omega)) H120 (FR.tr FR.rf F143 rfl) F143 (by first | rfl | omega) b83 (by omega) o143 (fun q => absurd q (by omega)) (fun q => ⟨rfl, e152⟩))) | (have u := F131; exact rho_a R35 (by omega) B64.o (by omega) (rha_y (O95.1 (by omega)) H120 (FR.tr FR.rf F131 rfl) F131 (by first | rfl | omega) b83 rfl (by omega) o131 (fun q => ⟨rfl, rfl⟩) (fun q => absurd q (by omega)))) | (have u := F143; exact rho_a R35 (by omega) B64.o (by omega) (rha_n (O95.2 (by omega)) H120 (FR.tr FR.rf F143 rfl) F143 (by first | rfl | omega) b83 (by omega) o143 (fun q => ⟨rfl, rfl⟩) (fun q => absurd q (by omega)))) | exact rho_6 R35 (by omega) B64.o (by omega) rfl)⟩
  · refine y_aload_n rfl rfl ?_
    refine y_gfr rfl rfl rfl rfl rfl (hH.r 899 0 876 rfl) ?_
    refine y_bipush rfl rfl ?_
    refine y_iconst rfl ?_
    refine y_callV rfl rfl rfl (t_to_wrong__p hH 9 0 ⟨by omega, by omega⟩ ⟨by omega, by omega⟩ _) ?_
    rintro _ T25 ⟨hHT25, w329, z328, rfl, w328, w326, f19, w327⟩
    have hFT25 : FR md_rr_ruleHead__p S T25 := FR.tr hF w329 rfl
    show Pl _ _ _ _ _ _ [iv z328] _ _
    have Y19 : FTO S T25 9 0 := f19 hf
    refine y_ireturn rfl (retI_z (by omega)) ?_
    have w330 : Xi T25 246 2 = Xi S 246 2 := (show Xi T25 246 2 = Xi S 246 2 from w329.x _ _ rfl)
    have w331 : Xi T25 246 5 = Xi S 246 5 := (show Xi T25 246 5 = Xi S 246 5 from w329.x _ _ rfl)
    have w332 : Xi T25 895 3 = Xi S 895 3 := (show Xi T25 895 3 = Xi S 895 3 from w329.x _ _ rfl)
    have w333 : Xi T25 895 4 = Xi S 895 4 := (show Xi T25 895 4 = Xi S 895 4 from w329.x _ _ rfl)
    have w334 : Xi T25 899 5 = Xi S 899 5 := (show Xi T25 899 5 = Xi S 899 5 from w329.x _ _ rfl)
    exact ⟨hHT25, hFT25, _, rfl, ⟨by omega, by omega⟩, (by first | (have u := Y19; exact ⟨fun _ => ⟨by omega, Y19⟩, fun q => absurd q (by omega)⟩) | (have u := K152; first | (have u := F131; exact rho_a R35 (by omega) B64.o (by omega) (rha_y (O95.1 (by omega)) H120 (FR.tr FR.rf F131 rfl) F131 (by first | rfl | omega) b83 rfl (by omega) o131 (fun q => absurd q (by omega)) (fun q => ⟨rfl, e152⟩))) | exact rho_a R35 (by omega) B64.o (by omega) (rha_n (O95.2 (by omega)) H120 (FR.tr FR.rf F143 rfl) F143 (by first | rfl | omega) b83 (by omega) o143 (fun q => absurd q (by omega)) (fun q => ⟨rfl, e152⟩))) | (have u := F131; exact rho_a R35 (by omega) B64.o (by omega) (rha_y (O95.1 (by omega)) H120 (FR.tr FR.rf F131 rfl) F131 (by first | rfl | omega) b83 rfl (by omega) o131 (fun q => ⟨rfl, rfl⟩) (fun q => absurd q (by omega)))) | (have u := F143; exact rho_a R35 (by omega) B64.o (by omega) (rha_n (O95.2 (by omega)) H120 (FR.tr FR.rf F143 rfl) F143 (by first | rfl | omega) b83 (by omega) o143 (fun q => ⟨rfl, rfl⟩) (fun q => absurd q (by omega)))) | exact rho_6 R35 (by omega) B64.o (by omega) rfl)⟩
end
