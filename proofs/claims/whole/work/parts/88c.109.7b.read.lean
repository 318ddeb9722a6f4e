section
theorem gT_at {W : sS} {f : Nat} {T : Int → Int} {k a : Int} (e : gT T k a = cu W f) (b : Xi W 904 65 = 0) : Xi W 904 8 - f = a + 1 ∧ T a = k := by
  rw [cu_ok b] at e
  by_cases h : T a = k
  · rw [gT_1 h] at e
    exact ⟨(congrArg Prod.snd e).symm, h⟩
  · rw [gT_0 h] at e
    have t := congrArg Prod.fst e
    simp at t
/-- the sort by how a sentence begins -/
def SOR (S : sS) (T : Int → Int) : Prop := (T 0 = 33 → Xi S 904 70 = 1) ∧ (T 0 = 35 → Xi S 904 70 = 2) ∧ (T 0 = 38 → Xi S 904 70 = 3) ∧ (T 0 = 40 → Xi S 904 70 = 4) ∧ (T 0 = 39 → Xi S 904 70 = 5) ∧ (T 0 = 41 → Xi S 904 70 = 6) ∧ (T 0 = 2 → T 1 = 25 → Xi S 904 70 = 7) ∧ (T 0 = 2 → T 1 = 19 → Xi S 904 70 = 8)
def CMN (T : Int → Int) : Prop := (T 0 ≠ 33 ∧ T 0 ≠ 35 ∧ T 0 ≠ 38 ∧ T 0 ≠ 40 ∧ T 0 ≠ 39 ∧ T 0 ≠ 41) ∧ ¬ (T 0 = 2 ∧ T 1 = 25) ∧ ¬ (T 0 = 2 ∧ T 1 = 19)
/-- what is kept of a sentence that is told by its is, are, has, can, relates -/
def CMR (S : sS) (T : Int → Int) (f : Nat) : Prop := ((kt7 T = 4 ∨ kt7 T = 5) → ¬ bp7 T 0 → CRS S T) ∧ ((kt7 T = 4 ∨ kt7 T = 5) → bp7 T 0 → C9S S T f) ∧ (¬ (kt7 T = 4 ∨ kt7 T = 5) → (kt7 T = 12 → Xi S 904 70 = 17) ∧ (kt7 T = 13 → Xi S 904 70 = 18) ∧ (kt7 T = 21 → Xi S 904 70 = 19) ∧ (kt7 T ≠ 12 → kt7 T ≠ 13 → kt7 T ≠ 21 → Xi S 904 70 = 20))
theorem RSR_eq {S U : sS} {T : Int → Int} {a r : Int} (h : ∀ j, 70 ≤ j → j ≤ 78 → Xi U 904 j = Xi S 904 j) (q : RSR S T a r) : RSR U T a r := by
  unfold RSR
  rw [h 70 (by omega) (by omega), h 73 (by omega) (by omega), h 74 (by omega) (by omega), h 75 (by omega) (by omega), h 76 (by omega) (by omega), h 78 (by omega) (by omega)]
  exact q
theorem CMR_eq {S U : sS} {T : Int → Int} {f : Nat} (h : ∀ j, 70 ≤ j → j ≤ 78 → Xi U 904 j = Xi S 904 j) (q : CMR S T f) : CMR U T f := by
  obtain ⟨q1, q2, q3⟩ := q
  refine ⟨fun a b => ?_, fun a b => ?_, ?_⟩
  · obtain ⟨c, x, c1, c2, c3, c4, c5⟩ := q1 a b
    refine ⟨by rw [h 71 (by omega) (by omega)]; exact c, x, c1, ?_, ?_, ?_, by rw [h 72 (by omega) (by omega)]; exact c5⟩
    · rw [h 72 (by omega) (by omega)]; exact RSR_eq h c2
    · rw [h 77 (by omega) (by omega)]; exact c3
    · rw [h 70 (by omega) (by omega), h 75 (by omega) (by omega), h 76 (by omega) (by omega)]; exact c4
  · obtain ⟨c, x, c1, c2⟩ := q2 a b
    exact ⟨by rw [h 70 (by omega) (by omega)]; exact c, x, c1, by rw [h 78 (by omega) (by omega)]; exact c2⟩
  · rw [h 70 (by omega) (by omega)]; exact q3
theorem SOR_eq {S U : sS} {T : Int → Int} (h : Xi U 904 70 = Xi S 904 70) (q : SOR S T) : SOR U T := by
  unfold SOR; rw [h]; exact q
theorem sor_c {S : sS} {T : Int → Int} (h : T 0 ≠ 33 ∧ T 0 ≠ 35 ∧ T 0 ≠ 38 ∧ T 0 ≠ 40 ∧ T 0 ≠ 39 ∧ T 0 ≠ 41) (h7 : ¬ (T 0 = 2 ∧ T 1 = 25)) (h8 : ¬ (T 0 = 2 ∧ T 1 = 19)) : SOR S T := by
  obtain ⟨a, b, c, d, e, f⟩ := h
  exact ⟨fun q => absurd q a, fun q => absurd q b, fun q => absurd q c, fun q => absurd q d, fun q => absurd q e, fun q => absurd q f, fun q r => absurd ⟨q, r⟩ h7, fun q r => absurd ⟨q, r⟩ h8⟩

def md_mo_partOne__q : List rec := [(904, 905, 8, 9), (904, 905, 65, 66), (904, 905, 66, 67), (904, 905, 69, 70), (904, 905, 81, 82), (950, 951, 0, 100000), (951, 952, 0, 100000)]
abbrev Q_mo_partOne__q (S : sS) (fs : Nat) (ns : Nat) : pst := fun r S1 => RI S1 ∧ FR md_mo_partOne__q S S1 ∧ (r = none ∧ (gO1 (tR S fs ns) = cu S1 fs) ∧ (Xi S 904 69 ≤ Xi S1 904 69) ∧ (Xi S1 904 65 = 0 → Xi S1 904 81 = fs + 1) ∧ (Xi S1 904 65 = 0 → Xi S 904 65 = 0 ∧ Xi S 904 8 ≤ Xi S1 904 8) ∧ (JR S1 fs ns))
set_option maxRecDepth 100000 in
theorem t_mo_partOne__q {S : sS} (hH : RI S) (fs : Nat) (ns : Nat) (hvl : VLR S fs ns) (hJR : JR S fs ns) (hb : Xi S 904 65 = 0) (h0 : Xi S 904 8 = fs) (hk : tR S fs ns 0 ≠ 100 ∧ tR S fs ns 0 ≠ 103 ∧ tR S fs ns 0 ≠ 107) (d : Nat) : Mp lay0 (d + 3) m_mo_partOne [.ref 904] S (Q_mo_partOne__q S fs ns) := by
  refine Mp_R rfl rfl (fun fu => ?_)
  have hF : FR md_mo_partOne__q S S := FR.rf
  have w1 : -2147483648 ≤ Xi S 904 65 ∧ Xi S 904 65 ≤ 2147483647 := Xi_rgI
  have w2 : -2147483648 ≤ Xi S 904 66 ∧ Xi S 904 66 ≤ 2147483647 := Xi_rgI
  have w3 : -2147483648 ≤ Xi S 904 69 ∧ Xi S 904 69 ≤ 2147483647 := Xi_rgI
  have w4 : -2147483648 ≤ Xi S 904 8 ∧ Xi S 904 8 ≤ 2147483647 := Xi_rgI
  have w5 : -2147483648 ≤ Xi S 904 81 ∧ Xi S 904 81 ≤ 2147483647 := Xi_rgI
  have w6 : -2147483648 ≤ Xi S 904 93 ∧ Xi S 904 93 ≤ 2147483647 := Xi_rgI
  have : Xi S 904 65 = 0 → (fs : Int) ≤ Xi S 904 8 ∧ Xi S 904 8 ≤ fs + ns := JR.i (by assumption)
  have hbd := hvl.2.2.2
  refine y_aload_n rfl rfl ?_
  refine y_dup rfl rfl ?_
  refine y_gfi rfl rfl rfl rfl rfl ?_
  refine y_iconst rfl ?_
  refine y_iadd rfl ?_
  refine y_pfi rfl rfl rfl rfl ?_
  obtain ⟨U1, eU1⟩ : ∃ T : sS, T = uI S 904 8 (Int32.ofInt ((Xi S 904 8) + 1)) := ⟨_, rfl⟩
  rw [← eU1]
  have hHU1 : RI U1 := by rw [eU1]; exact RI_w hH
  have hFU1 : FR md_mo_partOne__q S U1 := by rw [eU1]; exact FR.wI hF (mdf_i (r := (904, 905, 8, 9)) (List.mem_of_getElem? (i := 0) rfl) (inR_i (by omega) (by omega) (by omega) (by omega)))
  have w7 : Xi U1 904 8 = ((Xi S 904 8) + 1) := by rw [eU1]; exact Xi_same (by unfold rg; omega)
  have b7_ : Xi U1 904 65 = Xi S 904 65 := (by rw [eU1, Xi_ne (by omega)]); have J7 : JR U1 fs ns := jr_up (by assumption : JR S _ _) (VLR_FR hF rfl (by assumption : VLR S _ _)) eU1 (by omega) (fun b => by rw [FRR hF rfl, show Xi S 904 8 - (fs : Int) = 0 by omega]; omega)
  have : Xi U1 904 65 = 0 → (fs : Int) ≤ Xi U1 904 8 ∧ Xi U1 904 8 ≤ fs + ns := JR.i (by assumption)
  refine y_aload_n rfl rfl ?_
  refine y_iconst rfl ?_
  have w8 : Xi U1 904 65 = Xi S 904 65 := (show Xi U1 904 65 = Xi S 904 65 from by rw [eU1]; exact Xi_ne (by omega))
  have w9 : Xi U1 904 66 = Xi S 904 66 := (show Xi U1 904 66 = Xi S 904 66 from by rw [eU1]; exact Xi_ne (by omega))
  have w10 : Xi U1 904 69 = Xi S 904 69 := (show Xi U1 904 69 = Xi S 904 69 from by rw [eU1]; exact Xi_ne (by omega))
  have w11 : Xi U1 904 81 = Xi S 904 81 := (show Xi U1 904 81 = Xi S 904 81 from by rw [eU1]; exact Xi_ne (by omega))
  have w12 : Xi U1 904 93 = Xi S 904 93 := (show Xi U1 904 93 = Xi S 904 93 from by rw [eU1]; exact Xi_ne (by omega))
  refine y_callV rfl rfl rfl (t_mo_take__p hHU1 fs ns 5 ⟨by omega, by omega⟩ (by first | assumption | exact (VLR_FR hFU1 rfl (by assumption : VLR S _ _))) (by first | assumption | exact (by assumption : JR U1 _ _)) (rfl) (by decide) _) ?_
  rintro _ T2 ⟨hHT2, w17, rfl, w13, w14, w15⟩
  have hFT2 : FR md_mo_partOne__q S T2 := FR.tr hFU1 w17 rfl
  show Pl _ _ _ _ _ _ [] _ _
  have : Xi T2 904 65 = 0 → (fs : Int) ≤ Xi T2 904 8 ∧ Xi T2 904 8 ≤ fs + ns := JR.i (by assumption)
  have gp12 := w13
  try rw [FRR hFU1 rfl] at gp12
  try rw [show un7 5 = 102 from rfl] at gp12
  clear w13
  have t12 : Xi T2 904 65 = 0 → Xi T2 904 8 - fs = 2 := fun b => (gT_at (a := 1) (k := 102) (cu_go gp12 (by omega) (by omega)) b).1
  refine y_aload_n rfl rfl ?_
  refine y_aload_n rfl rfl ?_
  refine y_gfi rfl rfl rfl rfl rfl ?_
  have w18 : -2147483648 ≤ (Xi T2 904 8) ∧ (Xi T2 904 8) ≤ 2147483647 := Xi_rgI
  refine y_iconst rfl ?_
  refine y_isub rfl ?_
  refine y_pfi rfl rfl rfl rfl ?_
  obtain ⟨U3, eU3⟩ : ∃ T : sS, T = uI T2 904 81 (Int32.ofInt ((Xi T2 904 8) - 1)) := ⟨_, rfl⟩
  rw [← eU3]
  have hHU3 : RI U3 := by rw [eU3]; exact RI_w hHT2
  have hFU3 : FR md_mo_partOne__q S U3 := by rw [eU3]; exact FR.wI hFT2 (mdf_i (r := (904, 905, 81, 82)) (List.mem_of_getElem? (i := 4) rfl) (inR_i (by omega) (by omega) (by omega) (by omega)))
  have y22 : Xi T2 904 65 = 0 → Xi U3 904 81 = fs + 1 := fun b => by rw [eU3]; exact (Xi_same (by unfold rg; omega)).trans (by omega)
  refine y_aload_n rfl rfl ?_
  refine y_sipush rfl rfl ?_
  have w19 : Xi U3 904 65 = Xi T2 904 65 := (show Xi U3 904 65 = Xi T2 904 65 from by rw [eU3]; exact Xi_ne (by omega))
  have w20 : Xi U3 904 66 = Xi T2 904 66 := (show Xi U3 904 66 = Xi T2 904 66 from by rw [eU3]; exact Xi_ne (by omega))
  have w21 : Xi U3 904 69 = Xi S 904 69 := (show Xi U3 904 69 = Xi T2 904 69 from by rw [eU3]; exact Xi_ne (by omega)).trans ( (show Xi T2 904 69 = Xi U1 904 69 from w17.x _ _ rfl).trans ((show Xi U1 904 69 = Xi S 904 69 from by rw [eU1]; exact Xi_ne (by omega))))
  have w22 : Xi U3 904 8 = Xi T2 904 8 := (show Xi U3 904 8 = Xi T2 904 8 from by rw [eU3]; exact Xi_ne (by omega))
  have w23 : Xi U3 904 93 = Xi S 904 93 := (show Xi U3 904 93 = Xi T2 904 93 from by rw [eU3]; exact Xi_ne (by omega)).trans ( (show Xi T2 904 93 = Xi U1 904 93 from w17.x _ _ rfl).trans ((show Xi U1 904 93 = Xi S 904 93 from by rw [eU1]; exact Xi_ne (by omega))))
  refine y_callV rfl rfl rfl (t_mo_take__p hHU3 fs ns 134 ⟨by omega, by omega⟩ (by first | assumption | exact (VLR_FR hFU3 rfl (by assumption : VLR S _ _))) (by first | assumption | exact (JR_FR (FR_e eU3) rfl rfl rfl (by assumption : JR T2 _ _))) (rfl) (by decide) _) ?_
  rintro _ T4 ⟨hHT4, w28, rfl, w24, w25, w26⟩
  have hFT4 : FR md_mo_partOne__q S T4 := FR.tr hFU3 w28 rfl
  show Pl _ _ _ _ _ _ [] _ _
  have : Xi T4 904 65 = 0 → (fs : Int) ≤ Xi T4 904 8 ∧ Xi T4 904 8 ≤ fs + ns := JR.i (by assumption)
  have gp29 := w24
  try rw [FRR hFU3 rfl] at gp29
  try rw [show cu U3 fs = cu T2 fs from cu_eq (by omega) (by omega) (by omega)] at gp29
  try rw [show un7 134 = 34 from rfl] at gp29
  clear w24
  refine y_aload_n rfl rfl ?_
  have w29 : Xi T4 904 69 = Xi S 904 69 := (show Xi T4 904 69 = Xi U3 904 69 from w28.x _ _ rfl).trans ( (show Xi U3 904 69 = Xi T2 904 69 from by rw [eU3]; exact Xi_ne (by omega)).trans ( (show Xi T2 904 69 = Xi U1 904 69 from w17.x _ _ rfl).trans ((show Xi U1 904 69 = Xi S 904 69 from by rw [eU1]; exact Xi_ne (by omega)))))
  have w30 : Xi T4 904 81 = Xi U3 904 81 := (show Xi T4 904 81 = Xi U3 904 81 from w28.x _ _ rfl)
  have w31 : Xi T4 904 93 = Xi S 904 93 := (show Xi T4 904 93 = Xi U3 904 93 from w28.x _ _ rfl).trans ( (show Xi U3 904 93 = Xi T2 904 93 from by rw [eU3]; exact Xi_ne (by omega)).trans ( (show Xi T2 904 93 = Xi U1 904 93 from w17.x _ _ rfl).trans ((show Xi U1 904 93 = Xi S 904 93 from by rw [eU1]; exact Xi_ne (by omega)))))
  refine y_callV rfl rfl rfl (t_mo_run__p hHT4 fs ns (by first | assumption | exact (VLR_FR hFT4 rfl (by assumption : VLR S _ _))) (by first | assumption | exact (by assumption : JR T4 _ _)) _) ?_
  rintro _ T5 ⟨hHT5, w39, z38, rfl, w38, w32, w33, w34, w35, w36, w37⟩
  have hFT5 : FR md_mo_partOne__q S T5 := FR.tr hFT4 w39 rfl
  show Pl _ _ _ _ _ _ [iv z38] _ _
  have : Xi T5 904 65 = 0 → (fs : Int) ≤ Xi T5 904 8 ∧ Xi T5 904 8 ≤ fs + ns := JR.i (by assumption)
  have gp33 := w32
  try rw [FRR hFT4 rfl] at gp33
  clear w32
  refine y_pop rfl rfl ?_
  refine y_return rfl rfl ?_
  have w40 : Xi T5 904 81 = Xi U3 904 81 := (show Xi T5 904 81 = Xi T4 904 81 from w39.x _ _ rfl).trans ((show Xi T4 904 81 = Xi U3 904 81 from w28.x _ _ rfl))
  have w41 : Xi T5 904 93 = Xi S 904 93 := (show Xi T5 904 93 = Xi T4 904 93 from w39.x _ _ rfl).trans ( (show Xi T4 904 93 = Xi U3 904 93 from w28.x _ _ rfl).trans ( (show Xi U3 904 93 = Xi T2 904 93 from by rw [eU3]; exact Xi_ne (by omega)).trans ( (show Xi T2 904 93 = Xi U1 904 93 from w17.x _ _ rfl).trans ((show Xi U1 904 93 = Xi S 904 93 from by rw [eU1]; exact Xi_ne (by omega))))))
  exact ⟨hHT5, hFT5, rfl, (by unfold gO1; rw [cu_go gp12 (by omega) (by omega), gp29, gp33]), (by omega), (by omega), (by omega), (by first | assumption | exact (by assumption : JR T5 _ _))⟩
def md_mo_rule__q : List rec := [(904, 905, 8, 9), (904, 905, 65, 66), (904, 905, 66, 67), (904, 905, 69, 70), (904, 905, 70, 71), (904, 905, 78, 79), (904, 905, 93, 94), (904, 905, 94, 95), (904, 905, 98, 99), (904, 905, 99, 100), (904, 905, 100, 101), (904, 905, 101, 102), (904, 905, 102, 103), (904, 905, 103, 104), (950, 951, 0, 100000), (951, 952, 0, 100000), (952, 953, 0, 100000), (953, 954, 0, 100000), (954, 955, 0, 100000), (955, 956, 0, 100000), (956, 957, 0, 100000), (957, 958, 0, 100000), (958, 959, 0, 100000), (959, 960, 0, 100000), (960, 961, 0, 100000), (961, 962, 0, 100000), (962, 963, 0, 100000), (963, 964, 0, 100000), (964, 965, 0, 100000), (965, 966, 0, 100000)]
abbrev Q_mo_rule__q (S : sS) (fs : Nat) (ns : Nat) (s : Int) : pst := fun r S1 => RI S1 ∧ FR md_mo_rule__q S S1 ∧ (r = none ∧ (gRuR (tR S fs ns) s = cu S1 fs) ∧ (Xi S 904 69 ≤ Xi S1 904 69) ∧ (Xi S1 904 65 = 0 → Xi S 904 65 = 0 ∧ Xi S 904 8 ≤ Xi S1 904 8) ∧ (JR S1 fs ns) ∧ (Xi S1 904 70 = s))
set_option maxRecDepth 100000 in
theorem c107_mo_rule__q {S : sS} (hH : RI S) (fs : Nat) (ns : Nat) (s : Int) (hs : 3 ≤ s ∧ s ≤ 6) (hvl : VLR S fs ns) (hJR : JR S fs ns) (hb : Xi S 904 65 = 0) (h0 : Xi S 904 8 = fs) (hk : tR S fs ns 0 ≠ 100 ∧ tR S fs ns 0 ≠ 103 ∧ tR S fs ns 0 ≠ 107) (d : Nat) (fu : Nat) : ∀  (T1 : sS) (_ : RI T1) (_ : FR md_mo_rule__q S T1), (JR T1 fs ns) → (Xi T1 904 65 = 0 → (fs : Int) ≤ Xi T1 904 8 ∧ Xi T1 904 8 ≤ fs + ns) → (Xi T1 904 65 = 0 → Xi S 904 8 ≤ Xi T1 904 8) → (Xi S 904 69 ≤ Xi T1 904 69) → (gSq (if s = 6 then gT (tR S fs ns) 42 1 else if s = 5 then gSq (gT (tR S fs ns) 7 1) (gAcR (tR S fs ns)) else gAcR (tR S fs ns) 1) (gWe (tR S fs ns)) = cu T1 fs) → (Xi T1 904 70 = s) → Pl fu lay0 (d + 8) m_mo_rule 107 [(0, .ref 904)] [] T1 (Q_mo_rule__q S fs ns s) := by
  have hF : FR md_mo_rule__q S S := FR.rf
  have w1 : -2147483648 ≤ Xi S 904 65 ∧ Xi S 904 65 ≤ 2147483647 := Xi_rgI
  have w2 : -2147483648 ≤ Xi S 904 66 ∧ Xi S 904 66 ≤ 2147483647 := Xi_rgI
  have w3 : -2147483648 ≤ Xi S 904 69 ∧ Xi S 904 69 ≤ 2147483647 := Xi_rgI
  have w4 : -2147483648 ≤ Xi S 904 70 ∧ Xi S 904 70 ≤ 2147483647 := Xi_rgI
  have w5 : -2147483648 ≤ Xi S 904 8 ∧ Xi S 904 8 ≤ 2147483647 := Xi_rgI
  have w6 : -2147483648 ≤ Xi S 904 93 ∧ Xi S 904 93 ≤ 2147483647 := Xi_rgI
  have : Xi S 904 65 = 0 → (fs : Int) ≤ Xi S 904 8 ∧ Xi S 904 8 ≤ fs + ns := JR.i (by assumption)
  have hbd := hvl.2.2.2
  intro T1 hHT1 hFT1 J107 j107 w7 w8 W107 w9
  have w10 : -2147483648 ≤ Xi T1 904 65 ∧ Xi T1 904 65 ≤ 2147483647 := Xi_rgI
  have w11 : -2147483648 ≤ Xi T1 904 66 ∧ Xi T1 904 66 ≤ 2147483647 := Xi_rgI
  have w12 : -2147483648 ≤ Xi T1 904 69 ∧ Xi T1 904 69 ≤ 2147483647 := Xi_rgI
  have w13 : -2147483648 ≤ Xi T1 904 70 ∧ Xi T1 904 70 ≤ 2147483647 := Xi_rgI
  have w14 : -2147483648 ≤ Xi T1 904 8 ∧ Xi T1 904 8 ≤ 2147483647 := Xi_rgI
  have w15 : -2147483648 ≤ Xi T1 904 93 ∧ Xi T1 904 93 ≤ 2147483647 := Xi_rgI
  refine y_aload_n rfl rfl ?_
  refine y_bipush rfl rfl ?_
  refine y_callV rfl rfl rfl (t_mo_take__p hHT1 fs ns 58 ⟨by omega, by omega⟩ (by first | assumption | exact (VLR_FR hFT1 rfl (by assumption : VLR S _ _))) (by first | assumption | exact (by assumption : JR T1 _ _)) (rfl) (by decide) _) ?_
  rintro _ T2 ⟨hHT2, w20, rfl, w16, w17, w18⟩
  have hFT2 : FR md_mo_rule__q S T2 := FR.tr hFT1 w20 rfl
  show Pl _ _ _ _ _ _ [] _ _
  have : Xi T2 904 65 = 0 → (fs : Int) ≤ Xi T2 904 8 ∧ Xi T2 904 8 ≤ fs + ns := JR.i (by assumption)
  have gp110 := w16
  try rw [FRR hFT1 rfl] at gp110
  try rw [show un7 58 = 106 from rfl] at gp110
  clear w16
  refine y_aload_n rfl rfl ?_
  have w21 : Xi T2 904 69 = Xi T1 904 69 := (show Xi T2 904 69 = Xi T1 904 69 from w20.x _ _ rfl)
  refine y_callV rfl rfl rfl (t_mo_phrases__p hHT2 fs ns (by first | assumption | exact (VLR_FR hFT2 rfl (by assumption : VLR S _ _))) (by first | assumption | exact (by assumption : JR T2 _ _)) _) ?_
  rintro _ T3 ⟨hHT3, w29, rfl, w24, w25, w26, w27⟩
  have hFT3 : FR md_mo_rule__q S T3 := FR.tr hFT2 w29 rfl
  show Pl _ _ _ _ _ _ [] _ _
  have : Xi T3 904 65 = 0 → (fs : Int) ≤ Xi T3 904 8 ∧ Xi T3 904 8 ≤ fs + ns := JR.i (by assumption)
  have gp114 := w24
  try rw [FRR hFT2 rfl] at gp114
  clear w24
  refine y_return rfl rfl ?_
  have w30 : Xi T3 904 70 = Xi T1 904 70 := (show Xi T3 904 70 = Xi T2 904 70 from w29.x _ _ rfl).trans ((show Xi T2 904 70 = Xi T1 904 70 from w20.x _ _ rfl))
  exact ⟨hHT3, hFT3, rfl, (by unfold gRuR; rw [W107, gp110, gp114]), (by omega), (by omega), (by first | assumption | exact (by assumption : JR T3 _ _)), (by omega)⟩
set_option maxRecDepth 100000 in
theorem c83_mo_rule__q {S : sS} (hH : RI S) (fs : Nat) (ns : Nat) (s : Int) (hs : 3 ≤ s ∧ s ≤ 6) (hvl : VLR S fs ns) (hJR : JR S fs ns) (hb : Xi S 904 65 = 0) (h0 : Xi S 904 8 = fs) (hk : tR S fs ns 0 ≠ 100 ∧ tR S fs ns 0 ≠ 103 ∧ tR S fs ns 0 ≠ 107) (d : Nat) (fu : Nat) : ∀  (T4 : sS) (_ : RI T4) (_ : FR md_mo_rule__q S T4), (JR T4 fs ns) → (Xi T4 904 65 = 0 → (fs : Int) ≤ Xi T4 904 8 ∧ Xi T4 904 8 ≤ fs + ns) → (Xi T4 904 65 = 0 → Xi S 904 8 ≤ Xi T4 904 8) → (Xi S 904 69 ≤ Xi T4 904 69) → ((if s = 6 then gT (tR S fs ns) 42 1 else if s = 5 then gSq (gT (tR S fs ns) 7 1) (gAcR (tR S fs ns)) else gAcR (tR S fs ns) 1) = cu T4 fs) → (Xi T4 904 70 = s) → Pl fu lay0 (d + 8) m_mo_rule 83 [(0, .ref 904)] [] T4 (Q_mo_rule__q S fs ns s) := by
  have C107 := c107_mo_rule__q hH fs ns s hs hvl hJR hb h0 hk d  fu
  have hF : FR md_mo_rule__q S S := FR.rf
  have w1 : -2147483648 ≤ Xi S 904 65 ∧ Xi S 904 65 ≤ 2147483647 := Xi_rgI
  have w2 : -2147483648 ≤ Xi S 904 66 ∧ Xi S 904 66 ≤ 2147483647 := Xi_rgI
  have w3 : -2147483648 ≤ Xi S 904 69 ∧ Xi S 904 69 ≤ 2147483647 := Xi_rgI
  have w4 : -2147483648 ≤ Xi S 904 70 ∧ Xi S 904 70 ≤ 2147483647 := Xi_rgI
  have w5 : -2147483648 ≤ Xi S 904 8 ∧ Xi S 904 8 ≤ 2147483647 := Xi_rgI
  have w6 : -2147483648 ≤ Xi S 904 93 ∧ Xi S 904 93 ≤ 2147483647 := Xi_rgI
  have : Xi S 904 65 = 0 → (fs : Int) ≤ Xi S 904 8 ∧ Xi S 904 8 ≤ fs + ns := JR.i (by assumption)
  have hbd := hvl.2.2.2
  intro T4 hHT4 hFT4 J83 j83 w31 w32 R83 w33
  have w34 : -2147483648 ≤ Xi T4 904 65 ∧ Xi T4 904 65 ≤ 2147483647 := Xi_rgI
  have w35 : -2147483648 ≤ Xi T4 904 66 ∧ Xi T4 904 66 ≤ 2147483647 := Xi_rgI
  have w36 : -2147483648 ≤ Xi T4 904 69 ∧ Xi T4 904 69 ≤ 2147483647 := Xi_rgI
  have w37 : -2147483648 ≤ Xi T4 904 70 ∧ Xi T4 904 70 ≤ 2147483647 := Xi_rgI
  have w38 : -2147483648 ≤ Xi T4 904 8 ∧ Xi T4 904 8 ≤ 2147483647 := Xi_rgI
  have w39 : -2147483648 ≤ Xi T4 904 93 ∧ Xi T4 904 93 ≤ 2147483647 := Xi_rgI
  refine y_aload_n rfl rfl ?_
  refine y_sipush rfl rfl ?_
  refine y_callV rfl rfl rfl (t_mo_isNext__p hHT4 fs ns 137 ⟨by omega, by omega⟩ (by first | assumption | exact (VLR_FR hFT4 rfl (by assumption : VLR S _ _))) (by first | assumption | exact JR.i (by first | assumption | exact (by assumption : JR T4 _ _))) (rfl) _) ?_
  rintro _ _ ⟨rfl, z41, rfl, w41, w40⟩
  show Pl _ _ _ _ _ _ [iv z41] _ _
  have gb87 := w40
  try rw [FRR hFT4 rfl] at gb87
  try rw [show un7 137 = 37 from rfl] at gb87
  clear w40
  refine y_if_eq rfl rfl (by unfold rg; omega) (fun w42 => ?_) (fun w43 => ?_)
  · exact Pl_weak (C107 T4 hHT4 hFT4  (by first | assumption | exact (by assumption : JR T4 _ _)) (by omega) (by omega) (by omega) (by rw [R83]; first | (have t := gp104; exact cu_br (fun b => by unfold gWe; rw [if_pos (by omega)]; exact cu_go gp104 (by omega) (by omega)) (fun b => absurd (by omega) b)) | exact cu_br (fun b => by unfold gWe; rw [if_neg (by omega)]; exact cu_1 (by omega) rfl) (fun b => rfl)) (by omega)) (by omega) (And.intro rfl (True.intro))
  · refine y_aload_n rfl rfl ?_
    refine y_dup rfl rfl ?_
    refine y_gfi rfl rfl rfl rfl rfl ?_
    refine y_iconst rfl ?_
    refine y_iadd rfl ?_
    refine y_pfi rfl rfl rfl rfl ?_
    obtain ⟨U5, eU5⟩ : ∃ T : sS, T = uI T4 904 8 (Int32.ofInt ((Xi T4 904 8) + 1)) := ⟨_, rfl⟩
    rw [← eU5]
    have hHU5 : RI U5 := by rw [eU5]; exact RI_w hHT4
    have hFU5 : FR md_mo_rule__q S U5 := by rw [eU5]; exact FR.wI hFT4 (mdf_i (r := (904, 905, 8, 9)) (List.mem_of_getElem? (i := 0) rfl) (inR_i (by omega) (by omega) (by omega) (by omega)))
    have w44 : Xi U5 904 8 = ((Xi T4 904 8) + 1) := by rw [eU5]; exact Xi_same (by unfold rg; omega)
    have b100_ : Xi U5 904 65 = Xi T4 904 65 := (by rw [eU5, Xi_ne (by omega)]); have J100 : JR U5 fs ns := jr_up (by assumption : JR T4 _ _) (VLR_FR hFT4 rfl (by assumption : VLR S _ _)) eU5 (by omega) (fun b => by rw [FRR hFT4 rfl]; omega)
    have : Xi U5 904 65 = 0 → (fs : Int) ≤ Xi U5 904 8 ∧ Xi U5 904 8 ≤ fs + ns := JR.i (by assumption)
    refine y_aload_n rfl rfl ?_
    have w45 : Xi U5 904 65 = Xi T4 904 65 := (show Xi U5 904 65 = Xi T4 904 65 from by rw [eU5]; exact Xi_ne (by omega))
    have w47 : Xi U5 904 69 = Xi T4 904 69 := (show Xi U5 904 69 = Xi T4 904 69 from by rw [eU5]; exact Xi_ne (by omega))
    refine y_callV rfl rfl rfl (t_mo_tests__p hHU5 fs ns (by first | assumption | exact (VLR_FR hFU5 rfl (by assumption : VLR S _ _))) (by first | assumption | exact (by assumption : JR U5 _ _)) _) ?_
    rintro _ T6 ⟨hHT6, w55, rfl, w50, w51, w52, w53⟩
    have hFT6 : FR md_mo_rule__q S T6 := FR.tr hFU5 w55 rfl
    show Pl _ _ _ _ _ _ [] _ _
    have : Xi T6 904 65 = 0 → (fs : Int) ≤ Xi T6 904 8 ∧ Xi T6 904 8 ≤ fs + ns := JR.i (by assumption)
    have gp104 := w50
    try rw [FRR hFU5 rfl] at gp104
    clear w50
    have w56 : Xi T6 904 70 = Xi T4 904 70 := (show Xi T6 904 70 = Xi U5 904 70 from w55.x _ _ rfl).trans ((show Xi U5 904 70 = Xi T4 904 70 from by rw [eU5]; exact Xi_ne (by omega)))
    exact Pl_weak (C107 T6 hHT6 hFT6  (by first | assumption | exact (by assumption : JR T6 _ _)) (by omega) (by omega) (by omega) (by rw [R83]; first | (have t := gp104; exact cu_br (fun b => by unfold gWe; rw [if_pos (by omega)]; exact cu_go gp104 (by omega) (by omega)) (fun b => absurd (by omega) b)) | exact cu_br (fun b => by unfold gWe; rw [if_neg (by omega)]; exact cu_1 (by omega) rfl) (fun b => rfl)) (by omega)) (by omega) (And.intro rfl (True.intro))
set_option maxRecDepth 100000 in
theorem t_mo_rule__q {S : sS} (hH : RI S) (fs : Nat) (ns : Nat) (s : Int) (hs : 3 ≤ s ∧ s ≤ 6) (hvl : VLR S fs ns) (hJR : JR S fs ns) (hb : Xi S 904 65 = 0) (h0 : Xi S 904 8 = fs) (hk : tR S fs ns 0 ≠ 100 ∧ tR S fs ns 0 ≠ 103 ∧ tR S fs ns 0 ≠ 107) (d : Nat) : Mp lay0 (d + 9) m_mo_rule [.ref 904, iv s] S (Q_mo_rule__q S fs ns s) := by
  refine Mp_R rfl rfl (fun fu => ?_)
  have C107 := c107_mo_rule__q hH fs ns s hs hvl hJR hb h0 hk d  fu
  have C83 := c83_mo_rule__q hH fs ns s hs hvl hJR hb h0 hk d  fu
  have hF : FR md_mo_rule__q S S := FR.rf
  have w1 : -2147483648 ≤ Xi S 904 65 ∧ Xi S 904 65 ≤ 2147483647 := Xi_rgI
  have w2 : -2147483648 ≤ Xi S 904 66 ∧ Xi S 904 66 ≤ 2147483647 := Xi_rgI
  have w3 : -2147483648 ≤ Xi S 904 69 ∧ Xi S 904 69 ≤ 2147483647 := Xi_rgI
  have w4 : -2147483648 ≤ Xi S 904 70 ∧ Xi S 904 70 ≤ 2147483647 := Xi_rgI
  have w5 : -2147483648 ≤ Xi S 904 8 ∧ Xi S 904 8 ≤ 2147483647 := Xi_rgI
  have w6 : -2147483648 ≤ Xi S 904 93 ∧ Xi S 904 93 ≤ 2147483647 := Xi_rgI
  have : Xi S 904 65 = 0 → (fs : Int) ≤ Xi S 904 8 ∧ Xi S 904 8 ≤ fs + ns := JR.i (by assumption)
  have hbd := hvl.2.2.2
  refine y_aload_n rfl rfl ?_
  refine y_iload_n rfl rfl ?_
  refine y_pfi rfl rfl rfl rfl ?_
  obtain ⟨U7, eU7⟩ : ∃ T : sS, T = uI S 904 70 (Int32.ofInt s) := ⟨_, rfl⟩
  rw [← eU7]
  have hHU7 : RI U7 := by rw [eU7]; exact RI_w hH
  have hFU7 : FR md_mo_rule__q S U7 := by rw [eU7]; exact FR.wI hF (mdf_i (r := (904, 905, 70, 71)) (List.mem_of_getElem? (i := 4) rfl) (inR_i (by omega) (by omega) (by omega) (by omega)))
  have w57 : Xi U7 904 70 = s := by rw [eU7]; exact Xi_same (by unfold rg; omega)
  refine y_aload_n rfl rfl ?_
  refine y_dup rfl rfl ?_
  refine y_gfi rfl rfl rfl rfl rfl ?_
  have w58 : (Xi U7 904 8) = (Xi S 904 8) := (show Xi U7 904 8 = Xi S 904 8 from by rw [eU7]; exact Xi_ne (by omega))
  rw [w58]
  refine y_iconst rfl ?_
  refine y_iadd rfl ?_
  refine y_pfi rfl rfl rfl rfl ?_
  obtain ⟨U8, eU8⟩ : ∃ T : sS, T = uI U7 904 8 (Int32.ofInt ((Xi S 904 8) + 1)) := ⟨_, rfl⟩
  rw [← eU8]
  have hHU8 : RI U8 := by rw [eU8]; exact RI_w hHU7
  have hFU8 : FR md_mo_rule__q S U8 := by rw [eU8]; exact FR.wI hFU7 (mdf_i (r := (904, 905, 8, 9)) (List.mem_of_getElem? (i := 0) rfl) (inR_i (by omega) (by omega) (by omega) (by omega)))
  have w59 : Xi U8 904 8 = ((Xi S 904 8) + 1) := by rw [eU8]; exact Xi_same (by unfold rg; omega)
  have b12_ : Xi U8 904 65 = Xi U7 904 65 := (by rw [eU8, Xi_ne (by omega)]); have J12 : JR U8 fs ns := jr_up (JR_FR (FR_e eU7) rfl rfl rfl (by assumption : JR S _ _)) (VLR_FR hFU7 rfl (by assumption : VLR S _ _)) eU8 (by omega) (fun b => by rw [FRR hFU7 rfl, show Xi U7 904 8 - (fs : Int) = 0 by omega]; omega)
  have : Xi U8 904 65 = 0 → (fs : Int) ≤ Xi U8 904 8 ∧ Xi U8 904 8 ≤ fs + ns := JR.i (by assumption)
  refine y_iload_n rfl rfl ?_
  refine y_iconst rfl ?_
  refine y_icmp_ne rfl rfl (by unfold rg; omega) (by unfold rg; omega) (fun w60 => ?_) (fun w61 => ?_)
  · refine y_iload_n rfl rfl ?_
    refine y_bipush rfl rfl ?_
    refine y_icmp_ne rfl rfl (by unfold rg; omega) (by unfold rg; omega) (fun w62 => ?_) (fun w63 => ?_)
    · refine y_aload_n rfl rfl ?_
      refine y_aload_n rfl rfl ?_
      have w64 : Xi U8 904 65 = Xi S 904 65 := (show Xi U8 904 65 = Xi U7 904 65 from by rw [eU8]; exact Xi_ne (by omega)).trans ((show Xi U7 904 65 = Xi S 904 65 from by rw [eU7]; exact Xi_ne (by omega)))
      have w65 : Xi U8 904 66 = Xi S 904 66 := (show Xi U8 904 66 = Xi U7 904 66 from by rw [eU8]; exact Xi_ne (by omega)).trans ((show Xi U7 904 66 = Xi S 904 66 from by rw [eU7]; exact Xi_ne (by omega)))
      have w66 : Xi U8 904 69 = Xi S 904 69 := (show Xi U8 904 69 = Xi U7 904 69 from by rw [eU8]; exact Xi_ne (by omega)).trans ((show Xi U7 904 69 = Xi S 904 69 from by rw [eU7]; exact Xi_ne (by omega)))
      have w67 : Xi U8 904 70 = Xi U7 904 70 := (show Xi U8 904 70 = Xi U7 904 70 from by rw [eU8]; exact Xi_ne (by omega))
      have w68 : Xi U8 904 93 = Xi S 904 93 := (show Xi U8 904 93 = Xi U7 904 93 from by rw [eU8]; exact Xi_ne (by omega)).trans ((show Xi U7 904 93 = Xi S 904 93 from by rw [eU7]; exact Xi_ne (by omega)))
      refine y_callV rfl rfl rfl (t_mo_run__p hHU8 fs ns (by first | assumption | exact (VLR_FR hFU8 rfl (by assumption : VLR S _ _))) (by first | assumption | exact (by assumption : JR U8 _ _)) _) ?_
      rintro _ T9 ⟨hHT9, w76, z75, rfl, w75, w69, w70, w71, w72, w73, w74⟩
      have hFT9 : FR md_mo_rule__q S T9 := FR.tr hFU8 w76 rfl
      show Pl _ _ _ _ _ _ [iv z75, .ref 904] _ _
      have : Xi T9 904 65 = 0 → (fs : Int) ≤ Xi T9 904 8 ∧ Xi T9 904 8 ≤ fs + ns := JR.i (by assumption)
      have gp44 := w69
      try rw [FRR hFU8 rfl] at gp44
      clear w69
      have A44 : (if s = 6 then gT (tR S fs ns) 42 1 else if s = 5 then gSq (gT (tR S fs ns) 7 1) (gAcR (tR S fs ns)) else gAcR (tR S fs ns) 1) = gSq (cu T9 fs) (fun b => if art7 ((tR S fs ns) b) then gR (tR S fs ns) (b + 1) else (1, b)) := by first | (have t := gp23; rw [if_neg (by omega), if_pos (by omega), cu_go gp23 (by omega) (by omega)]; unfold gAcR; rw [← gSq_as, gp44]) | (rw [if_neg (by omega), if_neg (by omega)]; unfold gAcR; rw [cu_go gp44 (by omega) (by omega)])
      refine y_pfi rfl rfl rfl rfl ?_
      obtain ⟨U10, eU10⟩ : ∃ T : sS, T = uI T9 904 102 (Int32.ofInt z75) := ⟨_, rfl⟩
      rw [← eU10]
      have hHU10 : RI U10 := by rw [eU10]; exact RI_w hHT9
      have hFU10 : FR md_mo_rule__q S U10 := by rw [eU10]; exact FR.wI hFT9 (mdf_i (r := (904, 905, 102, 103)) (List.mem_of_getElem? (i := 12) rfl) (inR_i (by omega) (by omega) (by omega) (by omega)))
      have w77 : Xi U10 904 102 = z75 := by rw [eU10]; exact Xi_same (by unfold rg; omega)
      refine y_aload_n rfl rfl ?_
      refine y_iconst rfl ?_
      refine y_pfi rfl rfl rfl rfl ?_
      obtain ⟨U11, eU11⟩ : ∃ T : sS, T = uI U10 904 103 (Int32.ofInt (-1)) := ⟨_, rfl⟩
      rw [← eU11]
      have hHU11 : RI U11 := by rw [eU11]; exact RI_w hHU10
      have hFU11 : FR md_mo_rule__q S U11 := by rw [eU11]; exact FR.wI hFU10 (mdf_i (r := (904, 905, 103, 104)) (List.mem_of_getElem? (i := 13) rfl) (inR_i (by omega) (by omega) (by omega) (by omega)))
      have w78 : Xi U11 904 103 = (-1) := by rw [eU11]; exact Xi_same (by unfold rg; omega)
      refine y_aload_n rfl rfl ?_
      have w79 : Xi U11 904 65 = Xi T9 904 65 := (show Xi U11 904 65 = Xi U10 904 65 from by rw [eU11]; exact Xi_ne (by omega)).trans ((show Xi U10 904 65 = Xi T9 904 65 from by rw [eU10]; exact Xi_ne (by omega)))
      have w80 : Xi U11 904 66 = Xi T9 904 66 := (show Xi U11 904 66 = Xi U10 904 66 from by rw [eU11]; exact Xi_ne (by omega)).trans ((show Xi U10 904 66 = Xi T9 904 66 from by rw [eU10]; exact Xi_ne (by omega)))
      have w81 : Xi U11 904 69 = Xi T9 904 69 := (show Xi U11 904 69 = Xi U10 904 69 from by rw [eU11]; exact Xi_ne (by omega)).trans ((show Xi U10 904 69 = Xi T9 904 69 from by rw [eU10]; exact Xi_ne (by omega)))
      have w82 : Xi U11 904 70 = Xi U7 904 70 := (show Xi U11 904 70 = Xi U10 904 70 from by rw [eU11]; exact Xi_ne (by omega)).trans ( (show Xi U10 904 70 = Xi T9 904 70 from by rw [eU10]; exact Xi_ne (by omega)).trans ( (show Xi T9 904 70 = Xi U8 904 70 from w76.x _ _ rfl).trans ((show Xi U8 904 70 = Xi U7 904 70 from by rw [eU8]; exact Xi_ne (by omega)))))
      have w83 : Xi U11 904 8 = Xi T9 904 8 := (show Xi U11 904 8 = Xi U10 904 8 from by rw [eU11]; exact Xi_ne (by omega)).trans ((show Xi U10 904 8 = Xi T9 904 8 from by rw [eU10]; exact Xi_ne (by omega)))
      have w84 : Xi U11 904 93 = Xi S 904 93 := (show Xi U11 904 93 = Xi U10 904 93 from by rw [eU11]; exact Xi_ne (by omega)).trans ( (show Xi U10 904 93 = Xi T9 904 93 from by rw [eU10]; exact Xi_ne (by omega)).trans ( (show Xi T9 904 93 = Xi U8 904 93 from w76.x _ _ rfl).trans ( (show Xi U8 904 93 = Xi U7 904 93 from by rw [eU8]; exact Xi_ne (by omega)).trans ((show Xi U7 904 93 = Xi S 904 93 from by rw [eU7]; exact Xi_ne (by omega))))))
      refine y_callV rfl rfl rfl (t_mo_look__p hHU11 fs ns (by first | assumption | exact (VLR_FR hFU11 rfl (by assumption : VLR S _ _))) (by first | assumption | exact JR.i (by first | assumption | exact (JR_FR (FR_e eU11) rfl rfl rfl (JR_FR (FR_e eU10) rfl rfl rfl (by assumption : JR T9 _ _))))) _) ?_
      rintro _ _ ⟨rfl, z86, rfl, w86, w85⟩
      show Pl _ _ _ _ _ _ [iv z86] _ _
      have := un_ab z86
      have gb56 := w85
      try rw [FRR hFU11 rfl] at gb56
      try rw [show Xi U11 904 8 = Xi T9 904 8 by omega] at gb56
      clear w85
      refine y_callS rfl rfl (by decide) rfl (t_mo_isArt__p hHU11 z86 ⟨by omega, by omega⟩ _) ?_
      rintro _ _ ⟨rfl, z95, rfl, w95, w93, w94⟩
      show Pl _ _ _ _ _ _ [iv z95] _ _
      refine y_if_eq rfl rfl (by unfold rg; omega) (fun w96 => ?_) (fun w97 => ?_)
      · have w98 : Xi U11 904 65 = Xi T9 904 65 := (show Xi U11 904 65 = Xi U10 904 65 from by rw [eU11]; exact Xi_ne (by omega)).trans ((show Xi U10 904 65 = Xi T9 904 65 from by rw [eU10]; exact Xi_ne (by omega)))
        exact Pl_weak (C83 U11 hHU11 hFU11  (by first | assumption | exact (JR_FR (FR_e eU11) rfl rfl rfl (JR_FR (FR_e eU10) rfl rfl rfl (by assumption : JR T9 _ _)))) (by omega) (by omega) (by omega) (by first | exact RX | exact RX.trans (cu_eq (by omega) (by omega) (by omega)).symm | (rw [A44]; exact (cu_br (U := T9) (fun b => by rw [if_neg (by unfold art7; omega)]; exact cu_1 (by omega) (by omega)) (fun b => rfl)).trans (cu_eq (by omega) (by omega) (by omega)).symm)) (by omega)) (by omega) (And.intro rfl (True.intro))
      · refine y_aload_n rfl rfl ?_
        refine y_dup rfl rfl ?_
        refine y_gfi rfl rfl rfl rfl rfl ?_
        have w104 : -2147483648 ≤ (Xi U11 904 8) ∧ (Xi U11 904 8) ≤ 2147483647 := Xi_rgI
        refine y_iconst rfl ?_
        refine y_iadd rfl ?_
        refine y_pfi rfl rfl rfl rfl ?_
        obtain ⟨U12, eU12⟩ : ∃ T : sS, T = uI U11 904 8 (Int32.ofInt ((Xi U11 904 8) + 1)) := ⟨_, rfl⟩
        rw [← eU12]
        have hHU12 : RI U12 := by rw [eU12]; exact RI_w hHU11
        have hFU12 : FR md_mo_rule__q S U12 := by rw [eU12]; exact FR.wI hFU11 (mdf_i (r := (904, 905, 8, 9)) (List.mem_of_getElem? (i := 0) rfl) (inR_i (by omega) (by omega) (by omega) (by omega)))
        have w105 : Xi U12 904 8 = ((Xi U11 904 8) + 1) := by rw [eU12]; exact Xi_same (by unfold rg; omega)
        have b72_ : Xi U12 904 65 = Xi U11 904 65 := (by rw [eU12, Xi_ne (by omega)]); have J72 : JR U12 fs ns := jr_up (JR_FR (FR_e eU11) rfl rfl rfl (JR_FR (FR_e eU10) rfl rfl rfl (by assumption : JR T9 _ _))) (VLR_FR hFU11 rfl (by assumption : VLR S _ _)) eU12 (by omega) (fun b => by rw [FRR hFU11 rfl, show Xi U11 904 8 = Xi T9 904 8 by omega]; omega)
        have : Xi U12 904 65 = 0 → (fs : Int) ≤ Xi U12 904 8 ∧ Xi U12 904 8 ≤ fs + ns := JR.i (by assumption)
        refine y_aload_n rfl rfl ?_
        refine y_aload_n rfl rfl ?_
        have w106 : Xi U12 904 65 = Xi T9 904 65 := (show Xi U12 904 65 = Xi U11 904 65 from by rw [eU12]; exact Xi_ne (by omega)).trans ( (show Xi U11 904 65 = Xi U10 904 65 from by rw [eU11]; exact Xi_ne (by omega)).trans ((show Xi U10 904 65 = Xi T9 904 65 from by rw [eU10]; exact Xi_ne (by omega))))
        have w107 : Xi U12 904 66 = Xi T9 904 66 := (show Xi U12 904 66 = Xi U11 904 66 from by rw [eU12]; exact Xi_ne (by omega)).trans ( (show Xi U11 904 66 = Xi U10 904 66 from by rw [eU11]; exact Xi_ne (by omega)).trans ((show Xi U10 904 66 = Xi T9 904 66 from by rw [eU10]; exact Xi_ne (by omega))))
        have w108 : Xi U12 904 69 = Xi T9 904 69 := (show Xi U12 904 69 = Xi U11 904 69 from by rw [eU12]; exact Xi_ne (by omega)).trans ( (show Xi U11 904 69 = Xi U10 904 69 from by rw [eU11]; exact Xi_ne (by omega)).trans ((show Xi U10 904 69 = Xi T9 904 69 from by rw [eU10]; exact Xi_ne (by omega))))
        have w109 : Xi U12 904 70 = Xi U7 904 70 := (show Xi U12 904 70 = Xi U11 904 70 from by rw [eU12]; exact Xi_ne (by omega)).trans ( (show Xi U11 904 70 = Xi U10 904 70 from by rw [eU11]; exact Xi_ne (by omega)).trans ( (show Xi U10 904 70 = Xi T9 904 70 from by rw [eU10]; exact Xi_ne (by omega)).trans ( (show Xi T9 904 70 = Xi U8 904 70 from w76.x _ _ rfl).trans ((show Xi U8 904 70 = Xi U7 904 70 from by rw [eU8]; exact Xi_ne (by omega))))))
        have w110 : Xi U12 904 93 = Xi S 904 93 := (show Xi U12 904 93 = Xi U11 904 93 from by rw [eU12]; exact Xi_ne (by omega)).trans ( (show Xi U11 904 93 = Xi U10 904 93 from by rw [eU11]; exact Xi_ne (by omega)).trans ( (show Xi U10 904 93 = Xi T9 904 93 from by rw [eU10]; exact Xi_ne (by omega)).trans ( (show Xi T9 904 93 = Xi U8 904 93 from w76.x _ _ rfl).trans ( (show Xi U8 904 93 = Xi U7 904 93 from by rw [eU8]; exact Xi_ne (by omega)).trans ((show Xi U7 904 93 = Xi S 904 93 from by rw [eU7]; exact Xi_ne (by omega)))))))
        refine y_callV rfl rfl rfl (t_mo_run__p hHU12 fs ns (by first | assumption | exact (VLR_FR hFU12 rfl (by assumption : VLR S _ _))) (by first | assumption | exact (by assumption : JR U12 _ _)) _) ?_
        rintro _ T13 ⟨hHT13, w118, z117, rfl, w117, w111, w112, w113, w114, w115, w116⟩
        have hFT13 : FR md_mo_rule__q S T13 := FR.tr hFU12 w118 rfl
        show Pl _ _ _ _ _ _ [iv z117, .ref 904] _ _
        have : Xi T13 904 65 = 0 → (fs : Int) ≤ Xi T13 904 8 ∧ Xi T13 904 8 ≤ fs + ns := JR.i (by assumption)
        have gp77 := w111
        try rw [FRR hFU12 rfl] at gp77
        clear w111
        have RX : (if s = 6 then gT (tR S fs ns) 42 1 else if s = 5 then gSq (gT (tR S fs ns) 7 1) (gAcR (tR S fs ns)) else gAcR (tR S fs ns) 1) = cu T13 fs := by rw [A44]; exact cu_br (fun b => by rw [if_pos (by unfold art7; omega)]; exact cu_go gp77 (by omega) (by omega)) (fun b => absurd (by omega) b)
        refine y_pfi rfl rfl rfl rfl ?_
        obtain ⟨U14, eU14⟩ : ∃ T : sS, T = uI T13 904 103 (Int32.ofInt z117) := ⟨_, rfl⟩
        rw [← eU14]
        have hHU14 : RI U14 := by rw [eU14]; exact RI_w hHT13
        have hFU14 : FR md_mo_rule__q S U14 := by rw [eU14]; exact FR.wI hFT13 (mdf_i (r := (904, 905, 103, 104)) (List.mem_of_getElem? (i := 13) rfl) (inR_i (by omega) (by omega) (by omega) (by omega)))
        have w119 : Xi U14 904 103 = z117 := by rw [eU14]; exact Xi_same (by unfold rg; omega)
        have w120 : Xi U14 904 65 = Xi T13 904 65 := (show Xi U14 904 65 = Xi T13 904 65 from by rw [eU14]; exact Xi_ne (by omega))
        have w121 : Xi U14 904 66 = Xi T13 904 66 := (show Xi U14 904 66 = Xi T13 904 66 from by rw [eU14]; exact Xi_ne (by omega))
        have w122 : Xi U14 904 69 = Xi T13 904 69 := (show Xi U14 904 69 = Xi T13 904 69 from by rw [eU14]; exact Xi_ne (by omega))
        have w123 : Xi U14 904 70 = Xi U7 904 70 := (show Xi U14 904 70 = Xi T13 904 70 from by rw [eU14]; exact Xi_ne (by omega)).trans ( (show Xi T13 904 70 = Xi U12 904 70 from w118.x _ _ rfl).trans ( (show Xi U12 904 70 = Xi U11 904 70 from by rw [eU12]; exact Xi_ne (by omega)).trans ( (show Xi U11 904 70 = Xi U10 904 70 from by rw [eU11]; exact Xi_ne (by omega)).trans ( (show Xi U10 904 70 = Xi T9 904 70 from by rw [eU10]; exact Xi_ne (by omega)).trans ( (show Xi T9 904 70 = Xi U8 904 70 from w76.x _ _ rfl).trans ((show Xi U8 904 70 = Xi U7 904 70 from by rw [eU8]; exact Xi_ne (by omega))))))))
        have w124 : Xi U14 904 8 = Xi T13 904 8 := (show Xi U14 904 8 = Xi T13 904 8 from by rw [eU14]; exact Xi_ne (by omega))
        have w125 : Xi U14 904 93 = Xi S 904 93 := (show Xi U14 904 93 = Xi T13 904 93 from by rw [eU14]; exact Xi_ne (by omega)).trans ( (show Xi T13 904 93 = Xi U12 904 93 from w118.x _ _ rfl).trans ( (show Xi U12 904 93 = Xi U11 904 93 from by rw [eU12]; exact Xi_ne (by omega)).trans ( (show Xi U11 904 93 = Xi U10 904 93 from by rw [eU11]; exact Xi_ne (by omega)).trans ( (show Xi U10 904 93 = Xi T9 904 93 from by rw [eU10]; exact Xi_ne (by omega)).trans ( (show Xi T9 904 93 = Xi U8 904 93 from w76.x _ _ rfl).trans ( (show Xi U8 904 93 = Xi U7 904 93 from by rw [eU8]; exact Xi_ne (by omega)).trans ((show Xi U7 904 93 = Xi S 904 93 from by rw [eU7]; exact Xi_ne (by omega)))))))))
        exact Pl_weak (C83 U14 hHU14 hFU14  (by first | assumption | exact (JR_FR (FR_e eU14) rfl rfl rfl (by assumption : JR T13 _ _))) (by omega) (by omega) (by omega) (by first | exact RX | exact RX.trans (cu_eq (by omega) (by omega) (by omega)).symm | (rw [A44]; exact (cu_br (U := T9) (fun b => by rw [if_neg (by unfold art7; omega)]; exact cu_1 (by omega) (by omega)) (fun b => rfl)).trans (cu_eq (by omega) (by omega) (by omega)).symm)) (by omega)) (by omega) (And.intro rfl (True.intro))
    · refine y_aload_n rfl rfl ?_
      refine y_sipush rfl rfl ?_
      have w126 : Xi U8 904 65 = Xi S 904 65 := (show Xi U8 904 65 = Xi U7 904 65 from by rw [eU8]; exact Xi_ne (by omega)).trans ((show Xi U7 904 65 = Xi S 904 65 from by rw [eU7]; exact Xi_ne (by omega)))
      have w127 : Xi U8 904 66 = Xi S 904 66 := (show Xi U8 904 66 = Xi U7 904 66 from by rw [eU8]; exact Xi_ne (by omega)).trans ((show Xi U7 904 66 = Xi S 904 66 from by rw [eU7]; exact Xi_ne (by omega)))
      have w128 : Xi U8 904 69 = Xi S 904 69 := (show Xi U8 904 69 = Xi U7 904 69 from by rw [eU8]; exact Xi_ne (by omega)).trans ((show Xi U7 904 69 = Xi S 904 69 from by rw [eU7]; exact Xi_ne (by omega)))
      have w129 : Xi U8 904 70 = Xi U7 904 70 := (show Xi U8 904 70 = Xi U7 904 70 from by rw [eU8]; exact Xi_ne (by omega))
      have w130 : Xi U8 904 93 = Xi S 904 93 := (show Xi U8 904 93 = Xi U7 904 93 from by rw [eU8]; exact Xi_ne (by omega)).trans ((show Xi U7 904 93 = Xi S 904 93 from by rw [eU7]; exact Xi_ne (by omega)))
      refine y_callV rfl rfl rfl (t_mo_take__p hHU8 fs ns 142 ⟨by omega, by omega⟩ (by first | assumption | exact (VLR_FR hFU8 rfl (by assumption : VLR S _ _))) (by first | assumption | exact (by assumption : JR U8 _ _)) (rfl) (by decide) _) ?_
      rintro _ T15 ⟨hHT15, w135, rfl, w131, w132, w133⟩
      have hFT15 : FR md_mo_rule__q S T15 := FR.tr hFU8 w135 rfl
      show Pl _ _ _ _ _ _ [] _ _
      have : Xi T15 904 65 = 0 → (fs : Int) ≤ Xi T15 904 8 ∧ Xi T15 904 8 ≤ fs + ns := JR.i (by assumption)
      have gp36 := w131
      try rw [FRR hFU8 rfl] at gp36
      try rw [show un7 142 = 42 from rfl] at gp36
      clear w131
      have RX : (if s = 6 then gT (tR S fs ns) 42 1 else if s = 5 then gSq (gT (tR S fs ns) 7 1) (gAcR (tR S fs ns)) else gAcR (tR S fs ns) 1) = cu T15 fs := by rw [if_pos (by omega)]; exact cu_go gp36 (by omega) (by omega)
      refine y_goto rfl rfl ?_
      have w136 : Xi T15 904 69 = Xi S 904 69 := (show Xi T15 904 69 = Xi U8 904 69 from w135.x _ _ rfl).trans ( (show Xi U8 904 69 = Xi U7 904 69 from by rw [eU8]; exact Xi_ne (by omega)).trans ((show Xi U7 904 69 = Xi S 904 69 from by rw [eU7]; exact Xi_ne (by omega))))
      have w137 : Xi T15 904 70 = Xi U7 904 70 := (show Xi T15 904 70 = Xi U8 904 70 from w135.x _ _ rfl).trans ((show Xi U8 904 70 = Xi U7 904 70 from by rw [eU8]; exact Xi_ne (by omega)))
      have w138 : Xi T15 904 93 = Xi S 904 93 := (show Xi T15 904 93 = Xi U8 904 93 from w135.x _ _ rfl).trans ( (show Xi U8 904 93 = Xi U7 904 93 from by rw [eU8]; exact Xi_ne (by omega)).trans ((show Xi U7 904 93 = Xi S 904 93 from by rw [eU7]; exact Xi_ne (by omega))))
      exact Pl_weak (C83 T15 hHT15 hFT15  (by first | assumption | exact (by assumption : JR T15 _ _)) (by omega) (by omega) (by omega) (by first | exact RX | exact RX.trans (cu_eq (by omega) (by omega) (by omega)).symm | (rw [A44]; exact (cu_br (U := T9) (fun b => by rw [if_neg (by unfold art7; omega)]; exact cu_1 (by omega) (by omega)) (fun b => rfl)).trans (cu_eq (by omega) (by omega) (by omega)).symm)) (by omega)) (by omega) (And.intro rfl (True.intro))
  · refine y_aload_n rfl rfl ?_
    refine y_bipush rfl rfl ?_
    have w139 : Xi U8 904 65 = Xi S 904 65 := (show Xi U8 904 65 = Xi U7 904 65 from by rw [eU8]; exact Xi_ne (by omega)).trans ((show Xi U7 904 65 = Xi S 904 65 from by rw [eU7]; exact Xi_ne (by omega)))
    have w140 : Xi U8 904 66 = Xi S 904 66 := (show Xi U8 904 66 = Xi U7 904 66 from by rw [eU8]; exact Xi_ne (by omega)).trans ((show Xi U7 904 66 = Xi S 904 66 from by rw [eU7]; exact Xi_ne (by omega)))
    have w141 : Xi U8 904 69 = Xi S 904 69 := (show Xi U8 904 69 = Xi U7 904 69 from by rw [eU8]; exact Xi_ne (by omega)).trans ((show Xi U7 904 69 = Xi S 904 69 from by rw [eU7]; exact Xi_ne (by omega)))
    have w142 : Xi U8 904 70 = Xi U7 904 70 := (show Xi U8 904 70 = Xi U7 904 70 from by rw [eU8]; exact Xi_ne (by omega))
    have w143 : Xi U8 904 93 = Xi S 904 93 := (show Xi U8 904 93 = Xi U7 904 93 from by rw [eU8]; exact Xi_ne (by omega)).trans ((show Xi U7 904 93 = Xi S 904 93 from by rw [eU7]; exact Xi_ne (by omega)))
    refine y_callV rfl rfl rfl (t_mo_take__p hHU8 fs ns 107 ⟨by omega, by omega⟩ (by first | assumption | exact (VLR_FR hFU8 rfl (by assumption : VLR S _ _))) (by first | assumption | exact (by assumption : JR U8 _ _)) (rfl) (by decide) _) ?_
    rintro _ T16 ⟨hHT16, w148, rfl, w144, w145, w146⟩
    have hFT16 : FR md_mo_rule__q S T16 := FR.tr hFU8 w148 rfl
    show Pl _ _ _ _ _ _ [] _ _
    have : Xi T16 904 65 = 0 → (fs : Int) ≤ Xi T16 904 8 ∧ Xi T16 904 8 ≤ fs + ns := JR.i (by assumption)
    have gp23 := w144
    try rw [FRR hFU8 rfl] at gp23
    try rw [show un7 107 = 7 from rfl] at gp23
    clear w144
    refine y_iload_n rfl rfl ?_
    refine y_bipush rfl rfl ?_
    refine y_icmp_ne rfl rfl (by unfold rg; omega) (by unfold rg; omega) (fun w149 => ?_) (fun w150 => ?_)
    · refine y_aload_n rfl rfl ?_
      refine y_aload_n rfl rfl ?_
      have w151 : Xi T16 904 69 = Xi S 904 69 := (show Xi T16 904 69 = Xi U8 904 69 from w148.x _ _ rfl).trans ( (show Xi U8 904 69 = Xi U7 904 69 from by rw [eU8]; exact Xi_ne (by omega)).trans ((show Xi U7 904 69 = Xi S 904 69 from by rw [eU7]; exact Xi_ne (by omega))))
      have w152 : Xi T16 904 70 = Xi U7 904 70 := (show Xi T16 904 70 = Xi U8 904 70 from w148.x _ _ rfl).trans ((show Xi U8 904 70 = Xi U7 904 70 from by rw [eU8]; exact Xi_ne (by omega)))
      have w153 : Xi T16 904 93 = Xi S 904 93 := (show Xi T16 904 93 = Xi U8 904 93 from w148.x _ _ rfl).trans ( (show Xi U8 904 93 = Xi U7 904 93 from by rw [eU8]; exact Xi_ne (by omega)).trans ((show Xi U7 904 93 = Xi S 904 93 from by rw [eU7]; exact Xi_ne (by omega))))
      refine y_callV rfl rfl rfl (t_mo_run__p hHT16 fs ns (by first | assumption | exact (VLR_FR hFT16 rfl (by assumption : VLR S _ _))) (by first | assumption | exact (by assumption : JR T16 _ _)) _) ?_
      rintro _ T17 ⟨hHT17, w161, z160, rfl, w160, w154, w155, w156, w157, w158, w159⟩
      have hFT17 : FR md_mo_rule__q S T17 := FR.tr hFT16 w161 rfl
      show Pl _ _ _ _ _ _ [iv z160, .ref 904] _ _
      have : Xi T17 904 65 = 0 → (fs : Int) ≤ Xi T17 904 8 ∧ Xi T17 904 8 ≤ fs + ns := JR.i (by assumption)
      have gp44 := w154
      try rw [FRR hFT16 rfl] at gp44
      clear w154
      have A44 : (if s = 6 then gT (tR S fs ns) 42 1 else if s = 5 then gSq (gT (tR S fs ns) 7 1) (gAcR (tR S fs ns)) else gAcR (tR S fs ns) 1) = gSq (cu T17 fs) (fun b => if art7 ((tR S fs ns) b) then gR (tR S fs ns) (b + 1) else (1, b)) := by first | (have t := gp23; rw [if_neg (by omega), if_pos (by omega), cu_go gp23 (by omega) (by omega)]; unfold gAcR; rw [← gSq_as, gp44]) | (rw [if_neg (by omega), if_neg (by omega)]; unfold gAcR; rw [cu_go gp44 (by omega) (by omega)])
      refine y_pfi rfl rfl rfl rfl ?_
      obtain ⟨U18, eU18⟩ : ∃ T : sS, T = uI T17 904 102 (Int32.ofInt z160) := ⟨_, rfl⟩
      rw [← eU18]
      have hHU18 : RI U18 := by rw [eU18]; exact RI_w hHT17
      have hFU18 : FR md_mo_rule__q S U18 := by rw [eU18]; exact FR.wI hFT17 (mdf_i (r := (904, 905, 102, 103)) (List.mem_of_getElem? (i := 12) rfl) (inR_i (by omega) (by omega) (by omega) (by omega)))
      have w162 : Xi U18 904 102 = z160 := by rw [eU18]; exact Xi_same (by unfold rg; omega)
      refine y_aload_n rfl rfl ?_
      refine y_iconst rfl ?_
      refine y_pfi rfl rfl rfl rfl ?_
      obtain ⟨U19, eU19⟩ : ∃ T : sS, T = uI U18 904 103 (Int32.ofInt (-1)) := ⟨_, rfl⟩
      rw [← eU19]
      have hHU19 : RI U19 := by rw [eU19]; exact RI_w hHU18
      have hFU19 : FR md_mo_rule__q S U19 := by rw [eU19]; exact FR.wI hFU18 (mdf_i (r := (904, 905, 103, 104)) (List.mem_of_getElem? (i := 13) rfl) (inR_i (by omega) (by omega) (by omega) (by omega)))
      have w163 : Xi U19 904 103 = (-1) := by rw [eU19]; exact Xi_same (by unfold rg; omega)
      refine y_aload_n rfl rfl ?_
      have w164 : Xi U19 904 65 = Xi T17 904 65 := (show Xi U19 904 65 = Xi U18 904 65 from by rw [eU19]; exact Xi_ne (by omega)).trans ((show Xi U18 904 65 = Xi T17 904 65 from by rw [eU18]; exact Xi_ne (by omega)))
      have w165 : Xi U19 904 66 = Xi T17 904 66 := (show Xi U19 904 66 = Xi U18 904 66 from by rw [eU19]; exact Xi_ne (by omega)).trans ((show Xi U18 904 66 = Xi T17 904 66 from by rw [eU18]; exact Xi_ne (by omega)))
      have w166 : Xi U19 904 69 = Xi T17 904 69 := (show Xi U19 904 69 = Xi U18 904 69 from by rw [eU19]; exact Xi_ne (by omega)).trans ((show Xi U18 904 69 = Xi T17 904 69 from by rw [eU18]; exact Xi_ne (by omega)))
      have w167 : Xi U19 904 70 = Xi U7 904 70 := (show Xi U19 904 70 = Xi U18 904 70 from by rw [eU19]; exact Xi_ne (by omega)).trans ( (show Xi U18 904 70 = Xi T17 904 70 from by rw [eU18]; exact Xi_ne (by omega)).trans ( (show Xi T17 904 70 = Xi T16 904 70 from w161.x _ _ rfl).trans ( (show Xi T16 904 70 = Xi U8 904 70 from w148.x _ _ rfl).trans ((show Xi U8 904 70 = Xi U7 904 70 from by rw [eU8]; exact Xi_ne (by omega))))))
      have w168 : Xi U19 904 8 = Xi T17 904 8 := (show Xi U19 904 8 = Xi U18 904 8 from by rw [eU19]; exact Xi_ne (by omega)).trans ((show Xi U18 904 8 = Xi T17 904 8 from by rw [eU18]; exact Xi_ne (by omega)))
      have w169 : Xi U19 904 93 = Xi S 904 93 := (show Xi U19 904 93 = Xi U18 904 93 from by rw [eU19]; exact Xi_ne (by omega)).trans ( (show Xi U18 904 93 = Xi T17 904 93 from by rw [eU18]; exact Xi_ne (by omega)).trans ( (show Xi T17 904 93 = Xi T16 904 93 from w161.x _ _ rfl).trans ( (show Xi T16 904 93 = Xi U8 904 93 from w148.x _ _ rfl).trans ( (show Xi U8 904 93 = Xi U7 904 93 from by rw [eU8]; exact Xi_ne (by omega)).trans ((show Xi U7 904 93 = Xi S 904 93 from by rw [eU7]; exact Xi_ne (by omega)))))))
      refine y_callV rfl rfl rfl (t_mo_look__p hHU19 fs ns (by first | assumption | exact (VLR_FR hFU19 rfl (by assumption : VLR S _ _))) (by first | assumption | exact JR.i (by first | assumption | exact (JR_FR (FR_e eU19) rfl rfl rfl (JR_FR (FR_e eU18) rfl rfl rfl (by assumption : JR T17 _ _))))) _) ?_
      rintro _ _ ⟨rfl, z171, rfl, w171, w170⟩
      show Pl _ _ _ _ _ _ [iv z171] _ _
      have := un_ab z171
      have gb56 := w170
      try rw [FRR hFU19 rfl] at gb56
      try rw [show Xi U19 904 8 = Xi T17 904 8 by omega] at gb56
      clear w170
      refine y_callS rfl rfl (by decide) rfl (t_mo_isArt__p hHU19 z171 ⟨by omega, by omega⟩ _) ?_
      rintro _ _ ⟨rfl, z180, rfl, w180, w178, w179⟩
      show Pl _ _ _ _ _ _ [iv z180] _ _
      refine y_if_eq rfl rfl (by unfold rg; omega) (fun w181 => ?_) (fun w182 => ?_)
      · have w183 : Xi U19 904 65 = Xi T17 904 65 := (show Xi U19 904 65 = Xi U18 904 65 from by rw [eU19]; exact Xi_ne (by omega)).trans ((show Xi U18 904 65 = Xi T17 904 65 from by rw [eU18]; exact Xi_ne (by omega)))
        exact Pl_weak (C83 U19 hHU19 hFU19  (by first | assumption | exact (JR_FR (FR_e eU19) rfl rfl rfl (JR_FR (FR_e eU18) rfl rfl rfl (by assumption : JR T17 _ _)))) (by omega) (by omega) (by omega) (by first | exact RX | exact RX.trans (cu_eq (by omega) (by omega) (by omega)).symm | (rw [A44]; exact (cu_br (U := T17) (fun b => by rw [if_neg (by unfold art7; omega)]; exact cu_1 (by omega) (by omega)) (fun b => rfl)).trans (cu_eq (by omega) (by omega) (by omega)).symm)) (by omega)) (by omega) (And.intro rfl (True.intro))
      · refine y_aload_n rfl rfl ?_
        refine y_dup rfl rfl ?_
        refine y_gfi rfl rfl rfl rfl rfl ?_
        have w189 : -2147483648 ≤ (Xi U19 904 8) ∧ (Xi U19 904 8) ≤ 2147483647 := Xi_rgI
        refine y_iconst rfl ?_
        refine y_iadd rfl ?_
        refine y_pfi rfl rfl rfl rfl ?_
        obtain ⟨U20, eU20⟩ : ∃ T : sS, T = uI U19 904 8 (Int32.ofInt ((Xi U19 904 8) + 1)) := ⟨_, rfl⟩
        rw [← eU20]
        have hHU20 : RI U20 := by rw [eU20]; exact RI_w hHU19
        have hFU20 : FR md_mo_rule__q S U20 := by rw [eU20]; exact FR.wI hFU19 (mdf_i (r := (904, 905, 8, 9)) (List.mem_of_getElem? (i := 0) rfl) (inR_i (by omega) (by omega) (by omega) (by omega)))
        have w190 : Xi U20 904 8 = ((Xi U19 904 8) + 1) := by rw [eU20]; exact Xi_same (by unfold rg; omega)
        have b72_ : Xi U20 904 65 = Xi U19 904 65 := (by rw [eU20, Xi_ne (by omega)]); have J72 : JR U20 fs ns := jr_up (JR_FR (FR_e eU19) rfl rfl rfl (JR_FR (FR_e eU18) rfl rfl rfl (by assumption : JR T17 _ _))) (VLR_FR hFU19 rfl (by assumption : VLR S _ _)) eU20 (by omega) (fun b => by rw [FRR hFU19 rfl, show Xi U19 904 8 = Xi T17 904 8 by omega]; omega)
        have : Xi U20 904 65 = 0 → (fs : Int) ≤ Xi U20 904 8 ∧ Xi U20 904 8 ≤ fs + ns := JR.i (by assumption)
        refine y_aload_n rfl rfl ?_
        refine y_aload_n rfl rfl ?_
        have w191 : Xi U20 904 65 = Xi T17 904 65 := (show Xi U20 904 65 = Xi U19 904 65 from by rw [eU20]; exact Xi_ne (by omega)).trans ( (show Xi U19 904 65 = Xi U18 904 65 from by rw [eU19]; exact Xi_ne (by omega)).trans ((show Xi U18 904 65 = Xi T17 904 65 from by rw [eU18]; exact Xi_ne (by omega))))
        have w192 : Xi U20 904 66 = Xi T17 904 66 := (show Xi U20 904 66 = Xi U19 904 66 from by rw [eU20]; exact Xi_ne (by omega)).trans ( (show Xi U19 904 66 = Xi U18 904 66 from by rw [eU19]; exact Xi_ne (by omega)).trans ((show Xi U18 904 66 = Xi T17 904 66 from by rw [eU18]; exact Xi_ne (by omega))))
        have w193 : Xi U20 904 69 = Xi T17 904 69 := (show Xi U20 904 69 = Xi U19 904 69 from by rw [eU20]; exact Xi_ne (by omega)).trans ( (show Xi U19 904 69 = Xi U18 904 69 from by rw [eU19]; exact Xi_ne (by omega)).trans ((show Xi U18 904 69 = Xi T17 904 69 from by rw [eU18]; exact Xi_ne (by omega))))
        have w194 : Xi U20 904 70 = Xi U7 904 70 := (show Xi U20 904 70 = Xi U19 904 70 from by rw [eU20]; exact Xi_ne (by omega)).trans ( (show Xi U19 904 70 = Xi U18 904 70 from by rw [eU19]; exact Xi_ne (by omega)).trans ( (show Xi U18 904 70 = Xi T17 904 70 from by rw [eU18]; exact Xi_ne (by omega)).trans ( (show Xi T17 904 70 = Xi T16 904 70 from w161.x _ _ rfl).trans ( (show Xi T16 904 70 = Xi U8 904 70 from w148.x _ _ rfl).trans ((show Xi U8 904 70 = Xi U7 904 70 from by rw [eU8]; exact Xi_ne (by omega)))))))
        have w195 : Xi U20 904 93 = Xi S 904 93 := (show Xi U20 904 93 = Xi U19 904 93 from by rw [eU20]; exact Xi_ne (by omega)).trans ( (show Xi U19 904 93 = Xi U18 904 93 from by rw [eU19]; exact Xi_ne (by omega)).trans ( (show Xi U18 904 93 = Xi T17 904 93 from by rw [eU18]; exact Xi_ne (by omega)).trans ( (show Xi T17 904 93 = Xi T16 904 93 from w161.x _ _ rfl).trans ( (show Xi T16 904 93 = Xi U8 904 93 from w148.x _ _ rfl).trans ( (show Xi U8 904 93 = Xi U7 904 93 from by rw [eU8]; exact Xi_ne (by omega)).trans ((show Xi U7 904 93 = Xi S 904 93 from by rw [eU7]; exact Xi_ne (by omega))))))))
        refine y_callV rfl rfl rfl (t_mo_run__p hHU20 fs ns (by first | assumption | exact (VLR_FR hFU20 rfl (by assumption : VLR S _ _))) (by first | assumption | exact (by assumption : JR U20 _ _)) _) ?_
        rintro _ T21 ⟨hHT21, w203, z202, rfl, w202, w196, w197, w198, w199, w200, w201⟩
        have hFT21 : FR md_mo_rule__q S T21 := FR.tr hFU20 w203 rfl
        show Pl _ _ _ _ _ _ [iv z202, .ref 904] _ _
        have : Xi T21 904 65 = 0 → (fs : Int) ≤ Xi T21 904 8 ∧ Xi T21 904 8 ≤ fs + ns := JR.i (by assumption)
        have gp77 := w196
        try rw [FRR hFU20 rfl] at gp77
        clear w196
        have RX : (if s = 6 then gT (tR S fs ns) 42 1 else if s = 5 then gSq (gT (tR S fs ns) 7 1) (gAcR (tR S fs ns)) else gAcR (tR S fs ns) 1) = cu T21 fs := by rw [A44]; exact cu_br (fun b => by rw [if_pos (by unfold art7; omega)]; exact cu_go gp77 (by omega) (by omega)) (fun b => absurd (by omega) b)
        refine y_pfi rfl rfl rfl rfl ?_
        obtain ⟨U22, eU22⟩ : ∃ T : sS, T = uI T21 904 103 (Int32.ofInt z202) := ⟨_, rfl⟩
        rw [← eU22]
        have hHU22 : RI U22 := by rw [eU22]; exact RI_w hHT21
        have hFU22 : FR md_mo_rule__q S U22 := by rw [eU22]; exact FR.wI hFT21 (mdf_i (r := (904, 905, 103, 104)) (List.mem_of_getElem? (i := 13) rfl) (inR_i (by omega) (by omega) (by omega) (by omega)))
        have w204 : Xi U22 904 103 = z202 := by rw [eU22]; exact Xi_same (by unfold rg; omega)
        have w205 : Xi U22 904 65 = Xi T21 904 65 := (show Xi U22 904 65 = Xi T21 904 65 from by rw [eU22]; exact Xi_ne (by omega))
        have w206 : Xi U22 904 66 = Xi T21 904 66 := (show Xi U22 904 66 = Xi T21 904 66 from by rw [eU22]; exact Xi_ne (by omega))
        have w207 : Xi U22 904 69 = Xi T21 904 69 := (show Xi U22 904 69 = Xi T21 904 69 from by rw [eU22]; exact Xi_ne (by omega))
        have w208 : Xi U22 904 70 = Xi U7 904 70 := (show Xi U22 904 70 = Xi T21 904 70 from by rw [eU22]; exact Xi_ne (by omega)).trans ( (show Xi T21 904 70 = Xi U20 904 70 from w203.x _ _ rfl).trans ( (show Xi U20 904 70 = Xi U19 904 70 from by rw [eU20]; exact Xi_ne (by omega)).trans ( (show Xi U19 904 70 = Xi U18 904 70 from by rw [eU19]; exact Xi_ne (by omega)).trans ( (show Xi U18 904 70 = Xi T17 904 70 from by rw [eU18]; exact Xi_ne (by omega)).trans ( (show Xi T17 904 70 = Xi T16 904 70 from w161.x _ _ rfl).trans ( (show Xi T16 904 70 = Xi U8 904 70 from w148.x _ _ rfl).trans ((show Xi U8 904 70 = Xi U7 904 70 from by rw [eU8]; exact Xi_ne (by omega)))))))))
        have w209 : Xi U22 904 8 = Xi T21 904 8 := (show Xi U22 904 8 = Xi T21 904 8 from by rw [eU22]; exact Xi_ne (by omega))
        have w210 : Xi U22 904 93 = Xi S 904 93 := (show Xi U22 904 93 = Xi T21 904 93 from by rw [eU22]; exact Xi_ne (by omega)).trans ( (show Xi T21 904 93 = Xi U20 904 93 from w203.x _ _ rfl).trans ( (show Xi U20 904 93 = Xi U19 904 93 from by rw [eU20]; exact Xi_ne (by omega)).trans ( (show Xi U19 904 93 = Xi U18 904 93 from by rw [eU19]; exact Xi_ne (by omega)).trans ( (show Xi U18 904 93 = Xi T17 904 93 from by rw [eU18]; exact Xi_ne (by omega)).trans ( (show Xi T17 904 93 = Xi T16 904 93 from w161.x _ _ rfl).trans ( (show Xi T16 904 93 = Xi U8 904 93 from w148.x _ _ rfl).trans ( (show Xi U8 904 93 = Xi U7 904 93 from by rw [eU8]; exact Xi_ne (by omega)).trans ((show Xi U7 904 93 = Xi S 904 93 from by rw [eU7]; exact Xi_ne (by omega))))))))))
        exact Pl_weak (C83 U22 hHU22 hFU22  (by first | assumption | exact (JR_FR (FR_e eU22) rfl rfl rfl (by assumption : JR T21 _ _))) (by omega) (by omega) (by omega) (by first | exact RX | exact RX.trans (cu_eq (by omega) (by omega) (by omega)).symm | (rw [A44]; exact (cu_br (U := T17) (fun b => by rw [if_neg (by unfold art7; omega)]; exact cu_1 (by omega) (by omega)) (fun b => rfl)).trans (cu_eq (by omega) (by omega) (by omega)).symm)) (by omega)) (by omega) (And.intro rfl (True.intro))
    · refine y_aload_n rfl rfl ?_
      refine y_sipush rfl rfl ?_
      have w211 : Xi T16 904 69 = Xi S 904 69 := (show Xi T16 904 69 = Xi U8 904 69 from w148.x _ _ rfl).trans ( (show Xi U8 904 69 = Xi U7 904 69 from by rw [eU8]; exact Xi_ne (by omega)).trans ((show Xi U7 904 69 = Xi S 904 69 from by rw [eU7]; exact Xi_ne (by omega))))
      have w212 : Xi T16 904 70 = Xi U7 904 70 := (show Xi T16 904 70 = Xi U8 904 70 from w148.x _ _ rfl).trans ((show Xi U8 904 70 = Xi U7 904 70 from by rw [eU8]; exact Xi_ne (by omega)))
      have w213 : Xi T16 904 93 = Xi S 904 93 := (show Xi T16 904 93 = Xi U8 904 93 from w148.x _ _ rfl).trans ( (show Xi U8 904 93 = Xi U7 904 93 from by rw [eU8]; exact Xi_ne (by omega)).trans ((show Xi U7 904 93 = Xi S 904 93 from by rw [eU7]; exact Xi_ne (by omega))))
      refine y_callV rfl rfl rfl (t_mo_take__p hHT16 fs ns 142 ⟨by omega, by omega⟩ (by first | assumption | exact (VLR_FR hFT16 rfl (by assumption : VLR S _ _))) (by first | assumption | exact (by assumption : JR T16 _ _)) (rfl) (by decide) _) ?_
      rintro _ T23 ⟨hHT23, w218, rfl, w214, w215, w216⟩
      have hFT23 : FR md_mo_rule__q S T23 := FR.tr hFT16 w218 rfl
      show Pl _ _ _ _ _ _ [] _ _
      have : Xi T23 904 65 = 0 → (fs : Int) ≤ Xi T23 904 8 ∧ Xi T23 904 8 ≤ fs + ns := JR.i (by assumption)
      have gp36 := w214
      try rw [FRR hFT16 rfl] at gp36
      try rw [show un7 142 = 42 from rfl] at gp36
      clear w214
      have RX : (if s = 6 then gT (tR S fs ns) 42 1 else if s = 5 then gSq (gT (tR S fs ns) 7 1) (gAcR (tR S fs ns)) else gAcR (tR S fs ns) 1) = cu T23 fs := by rw [if_pos (by omega)]; exact cu_go gp36 (by omega) (by omega)
      refine y_goto rfl rfl ?_
      have w219 : Xi T23 904 69 = Xi S 904 69 := (show Xi T23 904 69 = Xi T16 904 69 from w218.x _ _ rfl).trans ( (show Xi T16 904 69 = Xi U8 904 69 from w148.x _ _ rfl).trans ( (show Xi U8 904 69 = Xi U7 904 69 from by rw [eU8]; exact Xi_ne (by omega)).trans ((show Xi U7 904 69 = Xi S 904 69 from by rw [eU7]; exact Xi_ne (by omega)))))
      have w220 : Xi T23 904 70 = Xi U7 904 70 := (show Xi T23 904 70 = Xi T16 904 70 from w218.x _ _ rfl).trans ( (show Xi T16 904 70 = Xi U8 904 70 from w148.x _ _ rfl).trans ((show Xi U8 904 70 = Xi U7 904 70 from by rw [eU8]; exact Xi_ne (by omega))))
      have w221 : Xi T23 904 93 = Xi S 904 93 := (show Xi T23 904 93 = Xi T16 904 93 from w218.x _ _ rfl).trans ( (show Xi T16 904 93 = Xi U8 904 93 from w148.x _ _ rfl).trans ( (show Xi U8 904 93 = Xi U7 904 93 from by rw [eU8]; exact Xi_ne (by omega)).trans ((show Xi U7 904 93 = Xi S 904 93 from by rw [eU7]; exact Xi_ne (by omega)))))
      exact Pl_weak (C83 T23 hHT23 hFT23  (by first | assumption | exact (by assumption : JR T23 _ _)) (by omega) (by omega) (by omega) (by first | exact RX | exact RX.trans (cu_eq (by omega) (by omega) (by omega)).symm | (rw [A44]; exact (cu_br (U := T17) (fun b => by rw [if_neg (by unfold art7; omega)]; exact cu_1 (by omega) (by omega)) (fun b => rfl)).trans (cu_eq (by omega) (by omega) (by omega)).symm)) (by omega)) (by omega) (And.intro rfl (True.intro))
def md_mo_sentence__p : List rec := [(904, 905, 8, 9), (904, 905, 65, 66), (904, 905, 66, 67), (904, 905, 69, 70), (904, 905, 70, 71), (904, 905, 71, 72), (904, 905, 72, 73), (904, 905, 73, 74), (904, 905, 74, 75), (904, 905, 75, 76), (904, 905, 76, 77), (904, 905, 77, 78), (904, 905, 78, 79), (904, 905, 79, 80), (904, 905, 80, 81), (904, 905, 81, 82), (904, 905, 93, 94), (904, 905, 94, 95), (904, 905, 98, 99), (904, 905, 99, 100), (904, 905, 100, 101), (904, 905, 101, 102), (904, 905, 102, 103), (904, 905, 103, 104), (950, 951, 0, 100000), (951, 952, 0, 100000), (952, 953, 0, 100000), (953, 954, 0, 100000), (954, 955, 0, 100000), (955, 956, 0, 100000), (956, 957, 0, 100000), (957, 958, 0, 100000), (958, 959, 0, 100000), (959, 960, 0, 100000), (960, 961, 0, 100000), (961, 962, 0, 100000), (962, 963, 0, 100000), (963, 964, 0, 100000), (964, 965, 0, 100000), (965, 966, 0, 100000)]
abbrev Q_mo_sentence__p (S : sS) (fs : Nat) (ns : Nat) : pst := fun r S1 => RI S1 ∧ FR md_mo_sentence__p S S1 ∧ (r = none ∧ (tR S fs ns 0 ≠ 102 → gSq (gSe (tR S fs ns)) (gT (tR S fs ns) 103) = cu S1 fs) ∧ (tR S fs ns 0 = 102 → Xi S1 904 65 = 0 ∧ Xi S1 904 70 = 0 ∧ Xi S1 904 81 = fs ∧ (tR S fs ns 1 = 103 → Xi S1 904 8 = fs + 2) ∧ (tR S fs ns 1 ≠ 103 → Xi S1 904 8 = fs + 1)) ∧ (tR S fs ns 0 ≠ 102 → SOR S1 (tR S fs ns)) ∧ (tR S fs ns 0 ≠ 102 → Xi S1 904 65 = 0 → Xi S1 904 70 ≠ 20 → Xi S1 904 93 = 0 → KRS S1 fs ns) ∧ (tR S fs ns 0 ≠ 102 → Xi S1 904 65 = 0 → CMN (tR S fs ns) → CMR S1 (tR S fs ns) fs) ∧ (tR S fs ns 0 = 33 → Xi S1 904 65 = 0 → Xi S1 904 81 = fs + 1) ∧ (tR S fs ns 0 ≠ 102 → Xi S1 904 65 = 0 → CMN (tR S fs ns) → kt7 (tR S fs ns) = 21 → ONR S1 (tR S fs ns)) ∧ (tR S fs ns 0 ≠ 102 → tR S fs ns 0 ≠ 35 → tR S fs ns 0 ≠ 38 → tR S fs ns 0 ≠ 39 → tR S fs ns 0 ≠ 40 → tR S fs ns 0 ≠ 41 → Xi S1 904 93 = 0) ∧ (tR S fs ns 0 ≠ 102 → Xi S1 904 65 = 0 → Xi S1 904 70 ≠ 20 → Xi S1 904 93 = 0 → kr7 (tR S fs ns) (Xi S1 904 69).toNat = nf7 (tR S fs ns) (Xi S1 904 8 - 1 - fs)))
set_option maxRecDepth 100000 in
theorem c50_mo_sentence__p {S : sS} (hH : RI S) (fs : Nat) (ns : Nat) (hvl : VLR S fs ns) (h0 : Xi S 904 8 = fs) (d : Nat) (fu : Nat) : ∀  (T1 : sS) (_ : RI T1) (_ : FR md_mo_sentence__p S T1), (Xi T1 904 8 = Xi S 904 8) → (Xi T1 904 65 = 0) → (Xi T1 904 69 = 0) → (Xi T1 904 93 = 0) → (Xi T1 904 75 = 0) → (Xi T1 904 76 = 0) → (JR T1 fs ns) → (tR S fs ns 0 = 102) → Pl fu lay0 (d + 9) m_mo_sentence 50 [(0, .ref 904)] [] T1 (Q_mo_sentence__p S fs ns) := by
  have hF : FR md_mo_sentence__p S S := FR.rf
  have w1 : -2147483648 ≤ Xi S 904 65 ∧ Xi S 904 65 ≤ 2147483647 := Xi_rgI
  have w2 : -2147483648 ≤ Xi S 904 66 ∧ Xi S 904 66 ≤ 2147483647 := Xi_rgI
  have w3 : -2147483648 ≤ Xi S 904 69 ∧ Xi S 904 69 ≤ 2147483647 := Xi_rgI
  have w4 : -2147483648 ≤ Xi S 904 70 ∧ Xi S 904 70 ≤ 2147483647 := Xi_rgI
  have w5 : -2147483648 ≤ Xi S 904 75 ∧ Xi S 904 75 ≤ 2147483647 := Xi_rgI
  have w6 : -2147483648 ≤ Xi S 904 76 ∧ Xi S 904 76 ≤ 2147483647 := Xi_rgI
  have w7 : -2147483648 ≤ Xi S 904 8 ∧ Xi S 904 8 ≤ 2147483647 := Xi_rgI
  have w8 : -2147483648 ≤ Xi S 904 81 ∧ Xi S 904 81 ≤ 2147483647 := Xi_rgI
  have w9 : -2147483648 ≤ Xi S 904 93 ∧ Xi S 904 93 ≤ 2147483647 := Xi_rgI
  have hbd := hvl.2.2.2
  intro T1 hHT1 hFT1 w10 w11 w12 w13 w14 w15 J50 t50
  have w16 : -2147483648 ≤ Xi T1 904 65 ∧ Xi T1 904 65 ≤ 2147483647 := Xi_rgI
  have w17 : -2147483648 ≤ Xi T1 904 66 ∧ Xi T1 904 66 ≤ 2147483647 := Xi_rgI
  have w18 : -2147483648 ≤ Xi T1 904 69 ∧ Xi T1 904 69 ≤ 2147483647 := Xi_rgI
  have w19 : -2147483648 ≤ Xi T1 904 70 ∧ Xi T1 904 70 ≤ 2147483647 := Xi_rgI
  have w20 : -2147483648 ≤ Xi T1 904 75 ∧ Xi T1 904 75 ≤ 2147483647 := Xi_rgI
  have w21 : -2147483648 ≤ Xi T1 904 76 ∧ Xi T1 904 76 ≤ 2147483647 := Xi_rgI
  have w22 : -2147483648 ≤ Xi T1 904 8 ∧ Xi T1 904 8 ≤ 2147483647 := Xi_rgI
  have w23 : -2147483648 ≤ Xi T1 904 81 ∧ Xi T1 904 81 ≤ 2147483647 := Xi_rgI
  have w24 : -2147483648 ≤ Xi T1 904 93 ∧ Xi T1 904 93 ≤ 2147483647 := Xi_rgI
  refine y_aload_n rfl rfl ?_
  refine y_iconst rfl ?_
  refine y_pfi rfl rfl rfl rfl ?_
  obtain ⟨U2, eU2⟩ : ∃ T : sS, T = uI T1 904 70 (Int32.ofInt 0) := ⟨_, rfl⟩
  rw [← eU2]
  have hHU2 : RI U2 := by rw [eU2]; exact RI_w hHT1
  have hFU2 : FR md_mo_sentence__p S U2 := by rw [eU2]; exact FR.wI hFT1 (mdf_i (r := (904, 905, 70, 71)) (List.mem_of_getElem? (i := 4) rfl) (inR_i (by omega) (by omega) (by omega) (by omega)))
  have w25 : Xi U2 904 70 = 0 := by rw [eU2]; exact Xi_same (by unfold rg; omega)
  refine y_aload_n rfl rfl ?_
  refine y_aload_n rfl rfl ?_
  refine y_gfi rfl rfl rfl rfl rfl ?_
  have w26 : (Xi U2 904 8) = (Xi T1 904 8) := (show Xi U2 904 8 = Xi T1 904 8 from by rw [eU2]; exact Xi_ne (by omega))
  rw [w26]
  refine y_pfi rfl rfl rfl rfl ?_
  obtain ⟨U3, eU3⟩ : ∃ T : sS, T = uI U2 904 81 (Int32.ofInt (Xi T1 904 8)) := ⟨_, rfl⟩
  rw [← eU3]
  have hHU3 : RI U3 := by rw [eU3]; exact RI_w hHU2
  have hFU3 : FR md_mo_sentence__p S U3 := by rw [eU3]; exact FR.wI hFU2 (mdf_i (r := (904, 905, 81, 82)) (List.mem_of_getElem? (i := 15) rfl) (inR_i (by omega) (by omega) (by omega) (by omega)))
  have w27 : Xi U3 904 81 = (Xi T1 904 8) := by rw [eU3]; exact Xi_same (by unfold rg; omega)
  refine y_aload_n rfl rfl ?_
  refine y_dup rfl rfl ?_
  refine y_gfi rfl rfl rfl rfl rfl ?_
  have w28 : (Xi U3 904 8) = (Xi T1 904 8) := (show Xi U3 904 8 = Xi U2 904 8 from by rw [eU3]; exact Xi_ne (by omega)).trans ((show Xi U2 904 8 = Xi T1 904 8 from by rw [eU2]; exact Xi_ne (by omega)))
  rw [w28]
  refine y_iconst rfl ?_
  refine y_iadd rfl ?_
  refine y_pfi rfl rfl rfl rfl ?_
  obtain ⟨U4, eU4⟩ : ∃ T : sS, T = uI U3 904 8 (Int32.ofInt ((Xi T1 904 8) + 1)) := ⟨_, rfl⟩
  rw [← eU4]
  have hHU4 : RI U4 := by rw [eU4]; exact RI_w hHU3
  have hFU4 : FR md_mo_sentence__p S U4 := by rw [eU4]; exact FR.wI hFU3 (mdf_i (r := (904, 905, 8, 9)) (List.mem_of_getElem? (i := 0) rfl) (inR_i (by omega) (by omega) (by omega) (by omega)))
  have w29 : Xi U4 904 8 = ((Xi T1 904 8) + 1) := by rw [eU4]; exact Xi_same (by unfold rg; omega)
  have b70_ : Xi U4 904 65 = Xi U3 904 65 := (by rw [eU4, Xi_ne (by omega)]); have J70 : JR U4 fs ns := jr_up (JR_FR (FR_e eU3) rfl rfl rfl (JR_FR (FR_e eU2) rfl rfl rfl (by assumption : JR T1 _ _))) (VLR_FR hFU3 rfl (by assumption : VLR S _ _)) eU4 (by omega) (fun b => by rw [FRR hFU3 rfl, show Xi U3 904 8 - (fs : Int) = 0 by omega]; omega)
  have : Xi U4 904 65 = 0 → (fs : Int) ≤ Xi U4 904 8 ∧ Xi U4 904 8 ≤ fs + ns := JR.i (by assumption)
  have b70 : Xi U4 904 65 = 0 := by have t := ((show Xi U4 904 65 = Xi U3 904 65 from by rw [eU4]; exact Xi_ne (by omega)).trans ((show Xi U3 904 65 = Xi U2 904 65 from by rw [eU3]; exact Xi_ne (by omega)).trans ((show Xi U2 904 65 = Xi T1 904 65 from by rw [eU2]; exact Xi_ne (by omega))))); omega
  have x70 : Xi U4 904 8 = fs + 1 := by rw [eU4]; exact (Xi_same (by unfold rg; omega)).trans (by omega)
  refine y_aload_n rfl rfl ?_
  refine y_dup rfl rfl ?_
  refine y_gfi rfl rfl rfl rfl rfl ?_
  refine y_aload_n rfl rfl ?_
  refine y_gfr rfl rfl rfl rfl rfl (hHU4.r 904 4 907 rfl) ?_
  refine y_aload_n rfl rfl ?_
  refine y_gfi rfl rfl rfl rfl rfl ?_
  refine y_ialoadP (n := 5002) rfl rfl (by unfold rg; omega) (fun w30 w31 => ?_)
  have w32 : -2147483648 ≤ (Xi U4 907 (((Xi U4 904 8)).toNat)) ∧ (Xi U4 907 (((Xi U4 904 8)).toNat)) ≤ 2147483647 := Xi_rgI
  have T86 : ((Xi U4 907 (((Xi U4 904 8)).toNat)) = 46 → tR S fs ns 1 = 103) ∧ ((Xi U4 907 (((Xi U4 904 8)).toNat)) ≠ 46 → tR S fs ns 1 ≠ 103) := by have t := tR_k (k := 46) (z := (Xi U4 907 (((Xi U4 904 8)).toNat))) (a := Xi U4 904 8) hvl (by omega) (by omega) rfl (by first | exact ((hFU4.cx 907 rfl _).1).symm | rfl); rw [show un7 46 = 103 from rfl, show Xi U4 904 8 - (fs : Int) = 1 by omega] at t; exact t
  refine y_bipush rfl rfl ?_
  refine y_icmp_ne rfl rfl (by unfold rg; omega) (by unfold rg; omega) (fun w33 => ?_) (fun w34 => ?_)
  · refine y_iconst rfl ?_
    refine y_iadd rfl ?_
    refine y_pfi rfl rfl rfl rfl ?_
    obtain ⟨U5, eU5⟩ : ∃ T : sS, T = uI U4 904 8 (Int32.ofInt ((Xi U4 904 8) + 0)) := ⟨_, rfl⟩
    rw [← eU5]
    have hHU5 : RI U5 := by rw [eU5]; exact RI_w hHU4
    have hFU5 : FR md_mo_sentence__p S U5 := by rw [eU5]; exact FR.wI hFU4 (mdf_i (r := (904, 905, 8, 9)) (List.mem_of_getElem? (i := 0) rfl) (inR_i (by omega) (by omega) (by omega) (by omega)))
    have w35 : Xi U5 904 8 = ((Xi U4 904 8) + 0) := by rw [eU5]; exact Xi_same (by unfold rg; omega)
    refine y_return rfl rfl ?_
    have w36 : Xi U5 904 65 = Xi T1 904 65 := (show Xi U5 904 65 = Xi U4 904 65 from by rw [eU5]; exact Xi_ne (by omega)).trans ( (show Xi U4 904 65 = Xi U3 904 65 from by rw [eU4]; exact Xi_ne (by omega)).trans ( (show Xi U3 904 65 = Xi U2 904 65 from by rw [eU3]; exact Xi_ne (by omega)).trans ((show Xi U2 904 65 = Xi T1 904 65 from by rw [eU2]; exact Xi_ne (by omega)))))
    have w37 : Xi U5 904 66 = Xi T1 904 66 := (show Xi U5 904 66 = Xi U4 904 66 from by rw [eU5]; exact Xi_ne (by omega)).trans ( (show Xi U4 904 66 = Xi U3 904 66 from by rw [eU4]; exact Xi_ne (by omega)).trans ( (show Xi U3 904 66 = Xi U2 904 66 from by rw [eU3]; exact Xi_ne (by omega)).trans ((show Xi U2 904 66 = Xi T1 904 66 from by rw [eU2]; exact Xi_ne (by omega)))))
    have w38 : Xi U5 904 69 = Xi T1 904 69 := (show Xi U5 904 69 = Xi U4 904 69 from by rw [eU5]; exact Xi_ne (by omega)).trans ( (show Xi U4 904 69 = Xi U3 904 69 from by rw [eU4]; exact Xi_ne (by omega)).trans ( (show Xi U3 904 69 = Xi U2 904 69 from by rw [eU3]; exact Xi_ne (by omega)).trans ((show Xi U2 904 69 = Xi T1 904 69 from by rw [eU2]; exact Xi_ne (by omega)))))
    have w39 : Xi U5 904 70 = Xi U2 904 70 := (show Xi U5 904 70 = Xi U4 904 70 from by rw [eU5]; exact Xi_ne (by omega)).trans ( (show Xi U4 904 70 = Xi U3 904 70 from by rw [eU4]; exact Xi_ne (by omega)).trans ((show Xi U3 904 70 = Xi U2 904 70 from by rw [eU3]; exact Xi_ne (by omega))))
    have w40 : Xi U5 904 75 = Xi T1 904 75 := (show Xi U5 904 75 = Xi U4 904 75 from by rw [eU5]; exact Xi_ne (by omega)).trans ( (show Xi U4 904 75 = Xi U3 904 75 from by rw [eU4]; exact Xi_ne (by omega)).trans ( (show Xi U3 904 75 = Xi U2 904 75 from by rw [eU3]; exact Xi_ne (by omega)).trans ((show Xi U2 904 75 = Xi T1 904 75 from by rw [eU2]; exact Xi_ne (by omega)))))
    have w41 : Xi U5 904 76 = Xi T1 904 76 := (show Xi U5 904 76 = Xi U4 904 76 from by rw [eU5]; exact Xi_ne (by omega)).trans ( (show Xi U4 904 76 = Xi U3 904 76 from by rw [eU4]; exact Xi_ne (by omega)).trans ( (show Xi U3 904 76 = Xi U2 904 76 from by rw [eU3]; exact Xi_ne (by omega)).trans ((show Xi U2 904 76 = Xi T1 904 76 from by rw [eU2]; exact Xi_ne (by omega)))))
    have w42 : Xi U5 904 81 = Xi U3 904 81 := (show Xi U5 904 81 = Xi U4 904 81 from by rw [eU5]; exact Xi_ne (by omega)).trans ((show Xi U4 904 81 = Xi U3 904 81 from by rw [eU4]; exact Xi_ne (by omega)))
    have w43 : Xi U5 904 93 = Xi T1 904 93 := (show Xi U5 904 93 = Xi U4 904 93 from by rw [eU5]; exact Xi_ne (by omega)).trans ( (show Xi U4 904 93 = Xi U3 904 93 from by rw [eU4]; exact Xi_ne (by omega)).trans ( (show Xi U3 904 93 = Xi U2 904 93 from by rw [eU3]; exact Xi_ne (by omega)).trans ((show Xi U2 904 93 = Xi T1 904 93 from by rw [eU2]; exact Xi_ne (by omega)))))
    exact ⟨hHU5, hFU5, rfl, (by first | exact (fun q => absurd t50 q) | exact (fun _ => by rw [G350, gp353])), (by first | (have t := t50; exact (fun _ => ⟨by omega, by omega, by omega, by omega, by omega⟩)) | exact (fun q => absurd q t350.o)), (by first | exact (fun q => absurd t50 q) | exact (fun _ => SOR_eq (by omega) s350)), (by first | exact (fun q => absurd t50 q) | exact (fun _ a b c => KRS_FR (by assumption : FR md_mo_take__q U4 U5) rfl rfl rfl (r350.o (by omega) (by omega) (by omega)))), (by first | exact (fun q => absurd t50 q) | exact (fun _ b c => CMR_eq (fun j _ _ => (by assumption : FR md_mo_take__q U4 U5).x 904 j (by rcases (by omega : j = 70 ∨ j = 71 ∨ j = 72 ∨ j = 73 ∨ j = 74 ∨ j = 75 ∨ j = 76 ∨ j = 77 ∨ j = 78) with h | h | h | h | h | h | h | h | h <;> subst h <;> rfl)) (c350.o (by omega) c))), (by first | (have t := t50; exact (fun q => by omega)) | exact (fun q b => by have t := e350.o q (by omega); omega)), (by first | exact (fun q => absurd t50 q) | exact (fun _ b c e => onr_e (n350.o (by omega) c e) ((by assumption : FR md_mo_take__q U4 U5).x 904 79 rfl) ((by assumption : FR md_mo_take__q U4 U5).x 904 80 rfl))), (by first | exact (fun q => absurd t50 q) | exact (fun _ a b c d e => by have t := z350.o a b c d e; omega)), (by first | exact (fun q => absurd t50 q) | exact (fun _ a b c => by have t := x350.o (by omega) (by omega) (by omega); rw [show Xi U5 904 69 = Xi U4 904 69 by omega, show Xi U5 904 8 - 1 - (fs : Int) = Xi U4 904 8 - fs by omega]; exact t))⟩
  · refine y_iconst rfl ?_
    refine y_goto rfl rfl ?_
    refine y_iadd rfl ?_
    refine y_pfi rfl rfl rfl rfl ?_
    obtain ⟨U6, eU6⟩ : ∃ T : sS, T = uI U4 904 8 (Int32.ofInt ((Xi U4 904 8) + 1)) := ⟨_, rfl⟩
    rw [← eU6]
    have hHU6 : RI U6 := by rw [eU6]; exact RI_w hHU4
    have hFU6 : FR md_mo_sentence__p S U6 := by rw [eU6]; exact FR.wI hFU4 (mdf_i (r := (904, 905, 8, 9)) (List.mem_of_getElem? (i := 0) rfl) (inR_i (by omega) (by omega) (by omega) (by omega)))
    have w44 : Xi U6 904 8 = ((Xi U4 904 8) + 1) := by rw [eU6]; exact Xi_same (by unfold rg; omega)
    refine y_return rfl rfl ?_
    have w45 : Xi U6 904 65 = Xi T1 904 65 := (show Xi U6 904 65 = Xi U4 904 65 from by rw [eU6]; exact Xi_ne (by omega)).trans ( (show Xi U4 904 65 = Xi U3 904 65 from by rw [eU4]; exact Xi_ne (by omega)).trans ( (show Xi U3 904 65 = Xi U2 904 65 from by rw [eU3]; exact Xi_ne (by omega)).trans ((show Xi U2 904 65 = Xi T1 904 65 from by rw [eU2]; exact Xi_ne (by omega)))))
    have w46 : Xi U6 904 66 = Xi T1 904 66 := (show Xi U6 904 66 = Xi U4 904 66 from by rw [eU6]; exact Xi_ne (by omega)).trans ( (show Xi U4 904 66 = Xi U3 904 66 from by rw [eU4]; exact Xi_ne (by omega)).trans ( (show Xi U3 904 66 = Xi U2 904 66 from by rw [eU3]; exact Xi_ne (by omega)).trans ((show Xi U2 904 66 = Xi T1 904 66 from by rw [eU2]; exact Xi_ne (by omega)))))
    have w47 : Xi U6 904 69 = Xi T1 904 69 := (show Xi U6 904 69 = Xi U4 904 69 from by rw [eU6]; exact Xi_ne (by omega)).trans ( (show Xi U4 904 69 = Xi U3 904 69 from by rw [eU4]; exact Xi_ne (by omega)).trans ( (show Xi U3 904 69 = Xi U2 904 69 from by rw [eU3]; exact Xi_ne (by omega)).trans ((show Xi U2 904 69 = Xi T1 904 69 from by rw [eU2]; exact Xi_ne (by omega)))))
    have w48 : Xi U6 904 70 = Xi U2 904 70 := (show Xi U6 904 70 = Xi U4 904 70 from by rw [eU6]; exact Xi_ne (by omega)).trans ( (show Xi U4 904 70 = Xi U3 904 70 from by rw [eU4]; exact Xi_ne (by omega)).trans ((show Xi U3 904 70 = Xi U2 904 70 from by rw [eU3]; exact Xi_ne (by omega))))
    have w49 : Xi U6 904 75 = Xi T1 904 75 := (show Xi U6 904 75 = Xi U4 904 75 from by rw [eU6]; exact Xi_ne (by omega)).trans ( (show Xi U4 904 75 = Xi U3 904 75 from by rw [eU4]; exact Xi_ne (by omega)).trans ( (show Xi U3 904 75 = Xi U2 904 75 from by rw [eU3]; exact Xi_ne (by omega)).trans ((show Xi U2 904 75 = Xi T1 904 75 from by rw [eU2]; exact Xi_ne (by omega)))))
    have w50 : Xi U6 904 76 = Xi T1 904 76 := (show Xi U6 904 76 = Xi U4 904 76 from by rw [eU6]; exact Xi_ne (by omega)).trans ( (show Xi U4 904 76 = Xi U3 904 76 from by rw [eU4]; exact Xi_ne (by omega)).trans ( (show Xi U3 904 76 = Xi U2 904 76 from by rw [eU3]; exact Xi_ne (by omega)).trans ((show Xi U2 904 76 = Xi T1 904 76 from by rw [eU2]; exact Xi_ne (by omega)))))
    have w51 : Xi U6 904 81 = Xi U3 904 81 := (show Xi U6 904 81 = Xi U4 904 81 from by rw [eU6]; exact Xi_ne (by omega)).trans ((show Xi U4 904 81 = Xi U3 904 81 from by rw [eU4]; exact Xi_ne (by omega)))
    have w52 : Xi U6 904 93 = Xi T1 904 93 := (show Xi U6 904 93 = Xi U4 904 93 from by rw [eU6]; exact Xi_ne (by omega)).trans ( (show Xi U4 904 93 = Xi U3 904 93 from by rw [eU4]; exact Xi_ne (by omega)).trans ( (show Xi U3 904 93 = Xi U2 904 93 from by rw [eU3]; exact Xi_ne (by omega)).trans ((show Xi U2 904 93 = Xi T1 904 93 from by rw [eU2]; exact Xi_ne (by omega)))))
    exact ⟨hHU6, hFU6, rfl, (by first | exact (fun q => absurd t50 q) | exact (fun _ => by rw [G350, gp353])), (by first | (have t := t50; exact (fun _ => ⟨by omega, by omega, by omega, by omega, by omega⟩)) | exact (fun q => absurd q t350.o)), (by first | exact (fun q => absurd t50 q) | exact (fun _ => SOR_eq (by omega) s350)), (by first | exact (fun q => absurd t50 q) | exact (fun _ a b c => KRS_FR (by assumption : FR md_mo_take__q U4 U6) rfl rfl rfl (r350.o (by omega) (by omega) (by omega)))), (by first | exact (fun q => absurd t50 q) | exact (fun _ b c => CMR_eq (fun j _ _ => (by assumption : FR md_mo_take__q U4 U6).x 904 j (by rcases (by omega : j = 70 ∨ j = 71 ∨ j = 72 ∨ j = 73 ∨ j = 74 ∨ j = 75 ∨ j = 76 ∨ j = 77 ∨ j = 78) with h | h | h | h | h | h | h | h | h <;> subst h <;> rfl)) (c350.o (by omega) c))), (by first | (have t := t50; exact (fun q => by omega)) | exact (fun q b => by have t := e350.o q (by omega); omega)), (by first | exact (fun q => absurd t50 q) | exact (fun _ b c e => onr_e (n350.o (by omega) c e) ((by assumption : FR md_mo_take__q U4 U6).x 904 79 rfl) ((by assumption : FR md_mo_take__q U4 U6).x 904 80 rfl))), (by first | exact (fun q => absurd t50 q) | exact (fun _ a b c d e => by have t := z350.o a b c d e; omega)), (by first | exact (fun q => absurd t50 q) | exact (fun _ a b c => by have t := x350.o (by omega) (by omega) (by omega); rw [show Xi U6 904 69 = Xi U4 904 69 by omega, show Xi U6 904 8 - 1 - (fs : Int) = Xi U4 904 8 - fs by omega]; exact t))⟩
set_option maxRecDepth 100000 in
theorem c350_mo_sentence__p {S : sS} (hH : RI S) (fs : Nat) (ns : Nat) (hvl : VLR S fs ns) (h0 : Xi S 904 8 = fs) (d : Nat) (fu : Nat) : ∀  (T7 : sS) (_ : RI T7) (_ : FR md_mo_sentence__p S T7), (gSe (tR S fs ns) = cu T7 fs) → (INR T7 fs ns) → (Xi T7 904 65 = 0 → (fs : Int) ≤ Xi T7 904 8 ∧ Xi T7 904 8 ≤ fs + ns) → (Hid (tR S fs ns 0 ≠ 102)) → (SOR T7 (tR S fs ns)) → (Hid (Xi T7 904 65 = 0 → Xi T7 904 70 ≠ 20 → Xi T7 904 93 = 0 → KRS T7 fs ns)) → (Hid (Xi T7 904 65 = 0 → CMN (tR S fs ns) → CMR T7 (tR S fs ns) fs)) → (Hid (tR S fs ns 0 = 33 → Xi T7 904 65 = 0 → Xi T7 904 81 = fs + 1)) → (Hid (Xi T7 904 65 = 0 → CMN (tR S fs ns) → kt7 (tR S fs ns) = 21 → ONR T7 (tR S fs ns))) → (Hid (tR S fs ns 0 ≠ 35 → tR S fs ns 0 ≠ 38 → tR S fs ns 0 ≠ 39 → tR S fs ns 0 ≠ 40 → tR S fs ns 0 ≠ 41 → Xi T7 904 93 = 0)) → (Hid (Xi T7 904 65 = 0 → Xi T7 904 70 ≠ 20 → Xi T7 904 93 = 0 → kr7 (tR S fs ns) (Xi T7 904 69).toNat = nf7 (tR S fs ns) (Xi T7 904 8 - fs))) → Pl fu lay0 (d + 9) m_mo_sentence 350 [(0, .ref 904)] [] T7 (Q_mo_sentence__p S fs ns) := by
  have hF : FR md_mo_sentence__p S S := FR.rf
  have w1 : -2147483648 ≤ Xi S 904 65 ∧ Xi S 904 65 ≤ 2147483647 := Xi_rgI
  have w2 : -2147483648 ≤ Xi S 904 66 ∧ Xi S 904 66 ≤ 2147483647 := Xi_rgI
  have w3 : -2147483648 ≤ Xi S 904 69 ∧ Xi S 904 69 ≤ 2147483647 := Xi_rgI
  have w4 : -2147483648 ≤ Xi S 904 70 ∧ Xi S 904 70 ≤ 2147483647 := Xi_rgI
  have w5 : -2147483648 ≤ Xi S 904 75 ∧ Xi S 904 75 ≤ 2147483647 := Xi_rgI
  have w6 : -2147483648 ≤ Xi S 904 76 ∧ Xi S 904 76 ≤ 2147483647 := Xi_rgI
  have w7 : -2147483648 ≤ Xi S 904 8 ∧ Xi S 904 8 ≤ 2147483647 := Xi_rgI
  have w8 : -2147483648 ≤ Xi S 904 81 ∧ Xi S 904 81 ≤ 2147483647 := Xi_rgI
  have w9 : -2147483648 ≤ Xi S 904 93 ∧ Xi S 904 93 ≤ 2147483647 := Xi_rgI
  have hbd := hvl.2.2.2
  intro T7 hHT7 hFT7 G350 I350 i350 t350 s350 r350 c350 e350 n350 z350 x350
  have w53 : -2147483648 ≤ Xi T7 904 65 ∧ Xi T7 904 65 ≤ 2147483647 := Xi_rgI
  have w54 : -2147483648 ≤ Xi T7 904 66 ∧ Xi T7 904 66 ≤ 2147483647 := Xi_rgI
  have w55 : -2147483648 ≤ Xi T7 904 69 ∧ Xi T7 904 69 ≤ 2147483647 := Xi_rgI
  have w56 : -2147483648 ≤ Xi T7 904 70 ∧ Xi T7 904 70 ≤ 2147483647 := Xi_rgI
  have w57 : -2147483648 ≤ Xi T7 904 75 ∧ Xi T7 904 75 ≤ 2147483647 := Xi_rgI
  have w58 : -2147483648 ≤ Xi T7 904 76 ∧ Xi T7 904 76 ≤ 2147483647 := Xi_rgI
  have w59 : -2147483648 ≤ Xi T7 904 8 ∧ Xi T7 904 8 ≤ 2147483647 := Xi_rgI
  have w60 : -2147483648 ≤ Xi T7 904 81 ∧ Xi T7 904 81 ≤ 2147483647 := Xi_rgI
  have w61 : -2147483648 ≤ Xi T7 904 93 ∧ Xi T7 904 93 ≤ 2147483647 := Xi_rgI
  refine y_aload_n rfl rfl ?_
  refine y_bipush rfl rfl ?_
  refine y_callV rfl rfl rfl (t_mo_take__q hHT7 fs ns 46 ⟨by omega, by omega⟩ (by first | assumption | exact (VLR_FR hFT7 rfl (by assumption : VLR S _ _))) (by first | assumption | exact JR.i (by first | assumption | exact (by assumption : JR T7 _ _))) (by omega) _) ?_
  rintro _ T8 ⟨hHT8, w65, rfl, w62, w63⟩
  have hFT8 : FR md_mo_sentence__p S T8 := FR.tr hFT7 w65 rfl
  show Pl _ _ _ _ _ _ [] _ _
  have gp353 := w62
  try rw [FRR hFT7 rfl] at gp353
  try rw [show un7 46 = 103 from rfl] at gp353
  clear w62
  refine y_return rfl rfl ?_
  have w66 : Xi T8 904 69 = Xi T7 904 69 := (show Xi T8 904 69 = Xi T7 904 69 from w65.x _ _ rfl)
  have w67 : Xi T8 904 70 = Xi T7 904 70 := (show Xi T8 904 70 = Xi T7 904 70 from w65.x _ _ rfl)
  have w68 : Xi T8 904 75 = Xi T7 904 75 := (show Xi T8 904 75 = Xi T7 904 75 from w65.x _ _ rfl)
  have w69 : Xi T8 904 76 = Xi T7 904 76 := (show Xi T8 904 76 = Xi T7 904 76 from w65.x _ _ rfl)
  have w70 : Xi T8 904 81 = Xi T7 904 81 := (show Xi T8 904 81 = Xi T7 904 81 from w65.x _ _ rfl)
  have w71 : Xi T8 904 93 = Xi T7 904 93 := (show Xi T8 904 93 = Xi T7 904 93 from w65.x _ _ rfl)
  exact ⟨hHT8, hFT8, rfl, (by first | exact (fun q => absurd t50 q) | exact (fun _ => by rw [G350, gp353])), (by first | (have t := t50; exact (fun _ => ⟨by omega, by omega, by omega, by omega, by omega⟩)) | exact (fun q => absurd q t350.o)), (by first | exact (fun q => absurd t50 q) | exact (fun _ => SOR_eq (by omega) s350)), (by first | exact (fun q => absurd t50 q) | exact (fun _ a b c => KRS_FR (by assumption : FR md_mo_take__q T7 T8) rfl rfl rfl (r350.o (by omega) (by omega) (by omega)))), (by first | exact (fun q => absurd t50 q) | exact (fun _ b c => CMR_eq (fun j _ _ => (by assumption : FR md_mo_take__q T7 T8).x 904 j (by rcases (by omega : j = 70 ∨ j = 71 ∨ j = 72 ∨ j = 73 ∨ j = 74 ∨ j = 75 ∨ j = 76 ∨ j = 77 ∨ j = 78) with h | h | h | h | h | h | h | h | h <;> subst h <;> rfl)) (c350.o (by omega) c))), (by first | (have t := t50; exact (fun q => by omega)) | exact (fun q b => by have t := e350.o q (by omega); omega)), (by first | exact (fun q => absurd t50 q) | exact (fun _ b c e => onr_e (n350.o (by omega) c e) ((by assumption : FR md_mo_take__q T7 T8).x 904 79 rfl) ((by assumption : FR md_mo_take__q T7 T8).x 904 80 rfl))), (by first | exact (fun q => absurd t50 q) | exact (fun _ a b c d e => by have t := z350.o a b c d e; omega)), (by first | exact (fun q => absurd t50 q) | exact (fun _ a b c => by have t := x350.o (by omega) (by omega) (by omega); rw [show Xi T8 904 69 = Xi T7 904 69 by omega, show Xi T8 904 8 - 1 - (fs : Int) = Xi T7 904 8 - fs by omega]; exact t))⟩
set_option maxRecDepth 100000 in
theorem c109_mo_sentence__p {S : sS} (hH : RI S) (fs : Nat) (ns : Nat) (hvl : VLR S fs ns) (h0 : Xi S 904 8 = fs) (d : Nat) (fu : Nat) : ∀  (T9 : sS) (_ : RI T9) (_ : FR md_mo_sentence__p S T9), (Xi T9 904 8 = Xi S 904 8) → (Xi T9 904 65 = 0) → (Xi T9 904 69 = 0) → (Xi T9 904 93 = 0) → (Xi T9 904 75 = 0) → (Xi T9 904 76 = 0) → (JR T9 fs ns) → (tR S fs ns 0 = 33) → Pl fu lay0 (d + 9) m_mo_sentence 109 [(0, .ref 904)] [] T9 (Q_mo_sentence__p S fs ns) := by
  have C350 := c350_mo_sentence__p hH fs ns hvl h0 d  fu
  have hF : FR md_mo_sentence__p S S := FR.rf
  have w1 : -2147483648 ≤ Xi S 904 65 ∧ Xi S 904 65 ≤ 2147483647 := Xi_rgI
  have w2 : -2147483648 ≤ Xi S 904 66 ∧ Xi S 904 66 ≤ 2147483647 := Xi_rgI
  have w3 : -2147483648 ≤ Xi S 904 69 ∧ Xi S 904 69 ≤ 2147483647 := Xi_rgI
  have w4 : -2147483648 ≤ Xi S 904 70 ∧ Xi S 904 70 ≤ 2147483647 := Xi_rgI
  have w5 : -2147483648 ≤ Xi S 904 75 ∧ Xi S 904 75 ≤ 2147483647 := Xi_rgI
  have w6 : -2147483648 ≤ Xi S 904 76 ∧ Xi S 904 76 ≤ 2147483647 := Xi_rgI
  have w7 : -2147483648 ≤ Xi S 904 8 ∧ Xi S 904 8 ≤ 2147483647 := Xi_rgI
  have w8 : -2147483648 ≤ Xi S 904 81 ∧ Xi S 904 81 ≤ 2147483647 := Xi_rgI
  have w9 : -2147483648 ≤ Xi S 904 93 ∧ Xi S 904 93 ≤ 2147483647 := Xi_rgI
  have hbd := hvl.2.2.2
  intro T9 hHT9 hFT9 w72 w73 w74 w75 w76 w77 J109 a109
  have w78 : -2147483648 ≤ Xi T9 904 65 ∧ Xi T9 904 65 ≤ 2147483647 := Xi_rgI
  have w79 : -2147483648 ≤ Xi T9 904 66 ∧ Xi T9 904 66 ≤ 2147483647 := Xi_rgI
  have w80 : -2147483648 ≤ Xi T9 904 69 ∧ Xi T9 904 69 ≤ 2147483647 := Xi_rgI
  have w81 : -2147483648 ≤ Xi T9 904 70 ∧ Xi T9 904 70 ≤ 2147483647 := Xi_rgI
  have w82 : -2147483648 ≤ Xi T9 904 75 ∧ Xi T9 904 75 ≤ 2147483647 := Xi_rgI
  have w83 : -2147483648 ≤ Xi T9 904 76 ∧ Xi T9 904 76 ≤ 2147483647 := Xi_rgI
  have w84 : -2147483648 ≤ Xi T9 904 8 ∧ Xi T9 904 8 ≤ 2147483647 := Xi_rgI
  have w85 : -2147483648 ≤ Xi T9 904 81 ∧ Xi T9 904 81 ≤ 2147483647 := Xi_rgI
  have w86 : -2147483648 ≤ Xi T9 904 93 ∧ Xi T9 904 93 ≤ 2147483647 := Xi_rgI
  refine y_aload_n rfl rfl ?_
  refine y_iconst rfl ?_
  refine y_pfi rfl rfl rfl rfl ?_
  obtain ⟨U10, eU10⟩ : ∃ T : sS, T = uI T9 904 70 (Int32.ofInt 1) := ⟨_, rfl⟩
  rw [← eU10]
  have hHU10 : RI U10 := by rw [eU10]; exact RI_w hHT9
  have hFU10 : FR md_mo_sentence__p S U10 := by rw [eU10]; exact FR.wI hFT9 (mdf_i (r := (904, 905, 70, 71)) (List.mem_of_getElem? (i := 4) rfl) (inR_i (by omega) (by omega) (by omega) (by omega)))
  have w87 : Xi U10 904 70 = 1 := by rw [eU10]; exact Xi_same (by unfold rg; omega)
  refine y_aload_n rfl rfl ?_
  have w88 : Xi U10 904 65 = Xi T9 904 65 := (show Xi U10 904 65 = Xi T9 904 65 from by rw [eU10]; exact Xi_ne (by omega))
  have w90 : Xi U10 904 69 = Xi T9 904 69 := (show Xi U10 904 69 = Xi T9 904 69 from by rw [eU10]; exact Xi_ne (by omega))
  have w93 : Xi U10 904 8 = Xi T9 904 8 := (show Xi U10 904 8 = Xi T9 904 8 from by rw [eU10]; exact Xi_ne (by omega))
  have w94 : Xi U10 904 81 = Xi T9 904 81 := (show Xi U10 904 81 = Xi T9 904 81 from by rw [eU10]; exact Xi_ne (by omega))
  refine y_callV rfl rfl rfl (t_mo_partOne__q hHU10 fs ns (by first | assumption | exact (VLR_FR hFU10 rfl (by assumption : VLR S _ _))) (by first | assumption | exact (JR_FR (FR_e eU10) rfl rfl rfl (by assumption : JR T9 _ _))) (by first | assumption | omega) (by first | assumption | omega) (by rw [FRR hFU10 rfl]; omega) _) ?_
  rintro _ T11 ⟨hHT11, w102, rfl, w96, w97, w98, w99, w100⟩
  have hFT11 : FR md_mo_sentence__p S T11 := FR.tr hFU10 w102 rfl
  show Pl _ _ _ _ _ _ [] _ _
  have : Xi T11 904 65 = 0 → (fs : Int) ≤ Xi T11 904 8 ∧ Xi T11 904 8 ≤ fs + ns := JR.i (by assumption)
  have gp115 := w96
  try rw [FRR hFU10 rfl] at gp115
  try rw [show cu U10 fs = cu T9 fs from cu_eq (by omega) (by omega) (by omega)] at gp115
  clear w96
  refine y_goto rfl rfl ?_
  have w103 : Xi T11 904 70 = Xi U10 904 70 := (show Xi T11 904 70 = Xi U10 904 70 from w102.x _ _ rfl)
  have w104 : Xi T11 904 75 = Xi T9 904 75 := (show Xi T11 904 75 = Xi U10 904 75 from w102.x _ _ rfl).trans ((show Xi U10 904 75 = Xi T9 904 75 from by rw [eU10]; exact Xi_ne (by omega)))
  have w105 : Xi T11 904 76 = Xi T9 904 76 := (show Xi T11 904 76 = Xi U10 904 76 from w102.x _ _ rfl).trans ((show Xi U10 904 76 = Xi T9 904 76 from by rw [eU10]; exact Xi_ne (by omega)))
  have w106 : Xi T11 904 93 = Xi T9 904 93 := (show Xi T11 904 93 = Xi U10 904 93 from w102.x _ _ rfl).trans ((show Xi U10 904 93 = Xi T9 904 93 from by rw [eU10]; exact Xi_ne (by omega)))
  exact Pl_weak (C350 T11 hHT11 hFT11  (by first | (have t := gp115; rw [gSe_1 (by omega)]; exact gp115) | (have t := gp134; rw [gSe_2 (by omega)]; exact gp134) | (have t := gp204; exact (gSe_r (by omega)).trans gp204) | (have t := gp251; rw [gSe_7 (by omega) (by omega)]; unfold gO7; rw [cu_go gp251 (by omega) (by omega), gp255, gp262, gp268, gp272, gp279]) | (have t := gp326; rw [gSe_8 (by omega) (by omega)]; unfold gO8; rw [cu_go gp326 (by omega) (by omega), gp330, gp335, gp339]) | (have t := gp347; rw [gSe_c a346.o n346.o o346.o]; exact gp347)) (by first | exact JR.i (by first | assumption | exact (by assumption : JR T11 _ _)) | exact (by assumption : INR T11 fs ns)) (by first | exact JR.i (by first | assumption | exact (by assumption : JR T11 _ _)) | exact (by assumption : INR T11 fs ns)) (by unfold Hid; omega) (by first | (have t := gp347; exact sor_c a346.o n346.o o346.o) | (unfold SOR; omega)) (fun b c e => by first | (have t := gp347; exact JR.ks (j347 (by omega) (by omega)) b e) | exact JR.ks (by first | assumption | exact (by assumption : JR T11 _ _)) b e) (by first | (have t := gp347; exact (fun b c => ⟨cr347 b, c9347 b, co347⟩)) | exact (fun b c => absurd c (fun q => by unfold CMN at q; omega))) (by first | (have t := gp115; exact (fun _ b => by omega)) | (have t := gp347; exact (fun q => absurd q a346.o.1)) | exact (fun q => by exfalso; omega)) (by first | (have t := gp347; exact (fun b c => on347 b)) | exact (fun b c => absurd c (fun q => by unfold CMN at q; omega))) (by first | (have t := gp134; exact (fun q => absurd (by omega) q)) | (have t := gp204; exact (fun _ q1 q2 q3 q4 => by exfalso; omega)) | exact (fun _ _ _ _ _ => by omega)) (fun b c e => by have t := ((by first | (have t := gp347; exact j347 (by omega) (by omega)) | assumption | exact (by assumption : JR T11 _ _) : JR T11 fs ns) b).2 e; have u := t.1; rw [FRR hFT11 rfl] at u; exact u)) (by omega) (And.intro rfl (True.intro))
set_option maxRecDepth 100000 in
theorem c128_mo_sentence__p {S : sS} (hH : RI S) (fs : Nat) (ns : Nat) (hvl : VLR S fs ns) (h0 : Xi S 904 8 = fs) (d : Nat) (fu : Nat) : ∀  (T12 : sS) (_ : RI T12) (_ : FR md_mo_sentence__p S T12), (Xi T12 904 8 = Xi S 904 8) → (Xi T12 904 65 = 0) → (Xi T12 904 69 = 0) → (Xi T12 904 93 = 0) → (Xi T12 904 75 = 0) → (Xi T12 904 76 = 0) → (JR T12 fs ns) → (tR S fs ns 0 = 35) → Pl fu lay0 (d + 9) m_mo_sentence 128 [(0, .ref 904)] [] T12 (Q_mo_sentence__p S fs ns) := by
  have C350 := c350_mo_sentence__p hH fs ns hvl h0 d  fu
  have hF : FR md_mo_sentence__p S S := FR.rf
  have w1 : -2147483648 ≤ Xi S 904 65 ∧ Xi S 904 65 ≤ 2147483647 := Xi_rgI
  have w2 : -2147483648 ≤ Xi S 904 66 ∧ Xi S 904 66 ≤ 2147483647 := Xi_rgI
  have w3 : -2147483648 ≤ Xi S 904 69 ∧ Xi S 904 69 ≤ 2147483647 := Xi_rgI
  have w4 : -2147483648 ≤ Xi S 904 70 ∧ Xi S 904 70 ≤ 2147483647 := Xi_rgI
  have w5 : -2147483648 ≤ Xi S 904 75 ∧ Xi S 904 75 ≤ 2147483647 := Xi_rgI
  have w6 : -2147483648 ≤ Xi S 904 76 ∧ Xi S 904 76 ≤ 2147483647 := Xi_rgI
  have w7 : -2147483648 ≤ Xi S 904 8 ∧ Xi S 904 8 ≤ 2147483647 := Xi_rgI
  have w8 : -2147483648 ≤ Xi S 904 81 ∧ Xi S 904 81 ≤ 2147483647 := Xi_rgI
  have w9 : -2147483648 ≤ Xi S 904 93 ∧ Xi S 904 93 ≤ 2147483647 := Xi_rgI
  have hbd := hvl.2.2.2
  intro T12 hHT12 hFT12 w107 w108 w109 w110 w111 w112 J128 a128
  have w113 : -2147483648 ≤ Xi T12 904 65 ∧ Xi T12 904 65 ≤ 2147483647 := Xi_rgI
  have w114 : -2147483648 ≤ Xi T12 904 66 ∧ Xi T12 904 66 ≤ 2147483647 := Xi_rgI
  have w115 : -2147483648 ≤ Xi T12 904 69 ∧ Xi T12 904 69 ≤ 2147483647 := Xi_rgI
  have w116 : -2147483648 ≤ Xi T12 904 70 ∧ Xi T12 904 70 ≤ 2147483647 := Xi_rgI
  have w117 : -2147483648 ≤ Xi T12 904 75 ∧ Xi T12 904 75 ≤ 2147483647 := Xi_rgI
  have w118 : -2147483648 ≤ Xi T12 904 76 ∧ Xi T12 904 76 ≤ 2147483647 := Xi_rgI
  have w119 : -2147483648 ≤ Xi T12 904 8 ∧ Xi T12 904 8 ≤ 2147483647 := Xi_rgI
  have w120 : -2147483648 ≤ Xi T12 904 81 ∧ Xi T12 904 81 ≤ 2147483647 := Xi_rgI
  have w121 : -2147483648 ≤ Xi T12 904 93 ∧ Xi T12 904 93 ≤ 2147483647 := Xi_rgI
  refine y_aload_n rfl rfl ?_
  refine y_iconst rfl ?_
  refine y_pfi rfl rfl rfl rfl ?_
  obtain ⟨U13, eU13⟩ : ∃ T : sS, T = uI T12 904 70 (Int32.ofInt 2) := ⟨_, rfl⟩
  rw [← eU13]
  have hHU13 : RI U13 := by rw [eU13]; exact RI_w hHT12
  have hFU13 : FR md_mo_sentence__p S U13 := by rw [eU13]; exact FR.wI hFT12 (mdf_i (r := (904, 905, 70, 71)) (List.mem_of_getElem? (i := 4) rfl) (inR_i (by omega) (by omega) (by omega) (by omega)))
  have w122 : Xi U13 904 70 = 2 := by rw [eU13]; exact Xi_same (by unfold rg; omega)
  refine y_aload_n rfl rfl ?_
  have w123 : Xi U13 904 65 = Xi T12 904 65 := (show Xi U13 904 65 = Xi T12 904 65 from by rw [eU13]; exact Xi_ne (by omega))
  have w125 : Xi U13 904 69 = Xi T12 904 69 := (show Xi U13 904 69 = Xi T12 904 69 from by rw [eU13]; exact Xi_ne (by omega))
  have w128 : Xi U13 904 8 = Xi T12 904 8 := (show Xi U13 904 8 = Xi T12 904 8 from by rw [eU13]; exact Xi_ne (by omega))
  refine y_callV rfl rfl rfl (t_mo_partTwo__p hHU13 fs ns (by first | assumption | exact (VLR_FR hFU13 rfl (by assumption : VLR S _ _))) (by first | assumption | exact (JR_FR (FR_e eU13) rfl rfl rfl (by assumption : JR T12 _ _))) (by first | assumption | omega) (by first | assumption | omega) (by rw [FRR hFU13 rfl]; omega) _) ?_
  rintro _ T14 ⟨hHT14, w136, rfl, w131, w132, w133, w134⟩
  have hFT14 : FR md_mo_sentence__p S T14 := FR.tr hFU13 w136 rfl
  show Pl _ _ _ _ _ _ [] _ _
  have : Xi T14 904 65 = 0 → (fs : Int) ≤ Xi T14 904 8 ∧ Xi T14 904 8 ≤ fs + ns := JR.i (by assumption)
  have gp134 := w131
  try rw [FRR hFU13 rfl] at gp134
  try rw [show cu U13 fs = cu T12 fs from cu_eq (by omega) (by omega) (by omega)] at gp134
  clear w131
  refine y_goto rfl rfl ?_
  have w137 : Xi T14 904 70 = Xi U13 904 70 := (show Xi T14 904 70 = Xi U13 904 70 from w136.x _ _ rfl)
  have w138 : Xi T14 904 75 = Xi T12 904 75 := (show Xi T14 904 75 = Xi U13 904 75 from w136.x _ _ rfl).trans ((show Xi U13 904 75 = Xi T12 904 75 from by rw [eU13]; exact Xi_ne (by omega)))
  have w139 : Xi T14 904 76 = Xi T12 904 76 := (show Xi T14 904 76 = Xi U13 904 76 from w136.x _ _ rfl).trans ((show Xi U13 904 76 = Xi T12 904 76 from by rw [eU13]; exact Xi_ne (by omega)))
  have w140 : Xi T14 904 81 = Xi T12 904 81 := (show Xi T14 904 81 = Xi U13 904 81 from w136.x _ _ rfl).trans ((show Xi U13 904 81 = Xi T12 904 81 from by rw [eU13]; exact Xi_ne (by omega)))
  exact Pl_weak (C350 T14 hHT14 hFT14  (by first | (have t := gp115; rw [gSe_1 (by omega)]; exact gp115) | (have t := gp134; rw [gSe_2 (by omega)]; exact gp134) | (have t := gp204; exact (gSe_r (by omega)).trans gp204) | (have t := gp251; rw [gSe_7 (by omega) (by omega)]; unfold gO7; rw [cu_go gp251 (by omega) (by omega), gp255, gp262, gp268, gp272, gp279]) | (have t := gp326; rw [gSe_8 (by omega) (by omega)]; unfold gO8; rw [cu_go gp326 (by omega) (by omega), gp330, gp335, gp339]) | (have t := gp347; rw [gSe_c a346.o n346.o o346.o]; exact gp347)) (by first | exact JR.i (by first | assumption | exact (by assumption : JR T14 _ _)) | exact (by assumption : INR T14 fs ns)) (by first | exact JR.i (by first | assumption | exact (by assumption : JR T14 _ _)) | exact (by assumption : INR T14 fs ns)) (by unfold Hid; omega) (by first | (have t := gp347; exact sor_c a346.o n346.o o346.o) | (unfold SOR; omega)) (fun b c e => by first | (have t := gp347; exact JR.ks (j347 (by omega) (by omega)) b e) | exact JR.ks (by first | assumption | exact (by assumption : JR T14 _ _)) b e) (by first | (have t := gp347; exact (fun b c => ⟨cr347 b, c9347 b, co347⟩)) | exact (fun b c => absurd c (fun q => by unfold CMN at q; omega))) (by first | (have t := gp115; exact (fun _ b => by omega)) | (have t := gp347; exact (fun q => absurd q a346.o.1)) | exact (fun q => by exfalso; omega)) (by first | (have t := gp347; exact (fun b c => on347 b)) | exact (fun b c => absurd c (fun q => by unfold CMN at q; omega))) (by first | (have t := gp134; exact (fun q => absurd (by omega) q)) | (have t := gp204; exact (fun _ q1 q2 q3 q4 => by exfalso; omega)) | exact (fun _ _ _ _ _ => by omega)) (fun b c e => by have t := ((by first | (have t := gp347; exact j347 (by omega) (by omega)) | assumption | exact (by assumption : JR T14 _ _) : JR T14 fs ns) b).2 e; have u := t.1; rw [FRR hFT14 rfl] at u; exact u)) (by omega) (And.intro rfl (True.intro))
set_option maxRecDepth 100000 in
theorem c168_mo_sentence__p {S : sS} (hH : RI S) (fs : Nat) (ns : Nat) (hvl : VLR S fs ns) (h0 : Xi S 904 8 = fs) (d : Nat) (fu : Nat) : ∀  (T15 : sS) (_ : RI T15) (_ : FR md_mo_sentence__p S T15) (v1 : Int), (-2147483648 ≤ v1 ∧ v1 ≤ 2147483647) → (Xi T15 904 8 = Xi S 904 8) → (Xi T15 904 65 = 0) → (Xi T15 904 69 = 0) → (Xi T15 904 93 = 0) → (Xi T15 904 75 = 0) → (Xi T15 904 76 = 0) → (JR T15 fs ns) → ((v1 = 138 ∧ tR S fs ns 0 = 38) ∨ (v1 = 140 ∧ tR S fs ns 0 = 40) ∨ (v1 = 139 ∧ tR S fs ns 0 = 39) ∨ (v1 = 141 ∧ tR S fs ns 0 = 41)) → Pl fu lay0 (d + 9) m_mo_sentence 168 [(0, .ref 904), (1, iv v1)] [] T15 (Q_mo_sentence__p S fs ns) := by
  have C350 := c350_mo_sentence__p hH fs ns hvl h0 d  fu
  have hF : FR md_mo_sentence__p S S := FR.rf
  have w1 : -2147483648 ≤ Xi S 904 65 ∧ Xi S 904 65 ≤ 2147483647 := Xi_rgI
  have w2 : -2147483648 ≤ Xi S 904 66 ∧ Xi S 904 66 ≤ 2147483647 := Xi_rgI
  have w3 : -2147483648 ≤ Xi S 904 69 ∧ Xi S 904 69 ≤ 2147483647 := Xi_rgI
  have w4 : -2147483648 ≤ Xi S 904 70 ∧ Xi S 904 70 ≤ 2147483647 := Xi_rgI
  have w5 : -2147483648 ≤ Xi S 904 75 ∧ Xi S 904 75 ≤ 2147483647 := Xi_rgI
  have w6 : -2147483648 ≤ Xi S 904 76 ∧ Xi S 904 76 ≤ 2147483647 := Xi_rgI
  have w7 : -2147483648 ≤ Xi S 904 8 ∧ Xi S 904 8 ≤ 2147483647 := Xi_rgI
  have w8 : -2147483648 ≤ Xi S 904 81 ∧ Xi S 904 81 ≤ 2147483647 := Xi_rgI
  have w9 : -2147483648 ≤ Xi S 904 93 ∧ Xi S 904 93 ≤ 2147483647 := Xi_rgI
  have hbd := hvl.2.2.2
  intro T15 hHT15 hFT15 v1 w141 w142 w143 w144 w145 w146 w147 J168 a168
  have w148 : -2147483648 ≤ Xi T15 904 65 ∧ Xi T15 904 65 ≤ 2147483647 := Xi_rgI
  have w149 : -2147483648 ≤ Xi T15 904 66 ∧ Xi T15 904 66 ≤ 2147483647 := Xi_rgI
  have w150 : -2147483648 ≤ Xi T15 904 69 ∧ Xi T15 904 69 ≤ 2147483647 := Xi_rgI
  have w151 : -2147483648 ≤ Xi T15 904 70 ∧ Xi T15 904 70 ≤ 2147483647 := Xi_rgI
  have w152 : -2147483648 ≤ Xi T15 904 75 ∧ Xi T15 904 75 ≤ 2147483647 := Xi_rgI
  have w153 : -2147483648 ≤ Xi T15 904 76 ∧ Xi T15 904 76 ≤ 2147483647 := Xi_rgI
  have w154 : -2147483648 ≤ Xi T15 904 8 ∧ Xi T15 904 8 ≤ 2147483647 := Xi_rgI
  have w155 : -2147483648 ≤ Xi T15 904 81 ∧ Xi T15 904 81 ≤ 2147483647 := Xi_rgI
  have w156 : -2147483648 ≤ Xi T15 904 93 ∧ Xi T15 904 93 ≤ 2147483647 := Xi_rgI
  refine y_aload_n rfl rfl ?_
  refine y_iload_n rfl rfl ?_
  refine y_sipush rfl rfl ?_
  refine y_icmp_ne rfl rfl (by unfold rg; omega) (by unfold rg; omega) (fun w157 => ?_) (fun w158 => ?_)
  · refine y_iload_n rfl rfl ?_
    refine y_sipush rfl rfl ?_
    refine y_icmp_ne rfl rfl (by unfold rg; omega) (by unfold rg; omega) (fun w159 => ?_) (fun w160 => ?_)
    · refine y_iload_n rfl rfl ?_
      refine y_sipush rfl rfl ?_
      refine y_icmp_ne rfl rfl (by unfold rg; omega) (by unfold rg; omega) (fun w161 => ?_) (fun w162 => ?_)
      · refine y_bipush rfl rfl ?_
        refine y_callV rfl rfl rfl (t_mo_rule__q hHT15 fs ns 6 ⟨by omega, by omega⟩ (by first | assumption | exact (VLR_FR hFT15 rfl (by assumption : VLR S _ _))) (by first | assumption | exact (by assumption : JR T15 _ _)) (by first | assumption | omega) (by first | assumption | omega) (by rw [FRR hFT15 rfl]; omega) _) ?_
        rintro _ T16 ⟨hHT16, w169, rfl, w163, w164, w165, w166, w167⟩
        have hFT16 : FR md_mo_sentence__p S T16 := FR.tr hFT15 w169 rfl
        show Pl _ _ _ _ _ _ [] _ _
        have : Xi T16 904 65 = 0 → (fs : Int) ≤ Xi T16 904 8 ∧ Xi T16 904 8 ≤ fs + ns := JR.i (by assumption)
        have gp204 := w163
        try rw [FRR hFT15 rfl] at gp204
        clear w163
        refine y_goto rfl rfl ?_
        have w170 : Xi T16 904 75 = Xi T15 904 75 := (show Xi T16 904 75 = Xi T15 904 75 from w169.x _ _ rfl)
        have w171 : Xi T16 904 76 = Xi T15 904 76 := (show Xi T16 904 76 = Xi T15 904 76 from w169.x _ _ rfl)
        have w172 : Xi T16 904 81 = Xi T15 904 81 := (show Xi T16 904 81 = Xi T15 904 81 from w169.x _ _ rfl)
        exact Pl_weak (C350 T16 hHT16 hFT16  (by first | (have t := gp115; rw [gSe_1 (by omega)]; exact gp115) | (have t := gp134; rw [gSe_2 (by omega)]; exact gp134) | (have t := gp204; exact (gSe_r (by omega)).trans gp204) | (have t := gp251; rw [gSe_7 (by omega) (by omega)]; unfold gO7; rw [cu_go gp251 (by omega) (by omega), gp255, gp262, gp268, gp272, gp279]) | (have t := gp326; rw [gSe_8 (by omega) (by omega)]; unfold gO8; rw [cu_go gp326 (by omega) (by omega), gp330, gp335, gp339]) | (have t := gp347; rw [gSe_c a346.o n346.o o346.o]; exact gp347)) (by first | exact JR.i (by first | assumption | exact (by assumption : JR T16 _ _)) | exact (by assumption : INR T16 fs ns)) (by first | exact JR.i (by first | assumption | exact (by assumption : JR T16 _ _)) | exact (by assumption : INR T16 fs ns)) (by unfold Hid; omega) (by first | (have t := gp347; exact sor_c a346.o n346.o o346.o) | (unfold SOR; omega)) (fun b c e => by first | (have t := gp347; exact JR.ks (j347 (by omega) (by omega)) b e) | exact JR.ks (by first | assumption | exact (by assumption : JR T16 _ _)) b e) (by first | (have t := gp347; exact (fun b c => ⟨cr347 b, c9347 b, co347⟩)) | exact (fun b c => absurd c (fun q => by unfold CMN at q; omega))) (by first | (have t := gp115; exact (fun _ b => by omega)) | (have t := gp347; exact (fun q => absurd q a346.o.1)) | exact (fun q => by exfalso; omega)) (by first | (have t := gp347; exact (fun b c => on347 b)) | exact (fun b c => absurd c (fun q => by unfold CMN at q; omega))) (by first | (have t := gp134; exact (fun q => absurd (by omega) q)) | (have t := gp204; exact (fun _ q1 q2 q3 q4 => by exfalso; omega)) | exact (fun _ _ _ _ _ => by omega)) (fun b c e => by have t := ((by first | (have t := gp347; exact j347 (by omega) (by omega)) | assumption | exact (by assumption : JR T16 _ _) : JR T16 fs ns) b).2 e; have u := t.1; rw [FRR hFT16 rfl] at u; exact u)) (by omega) (And.intro rfl (True.intro))
      · refine y_iconst rfl ?_
        refine y_goto rfl rfl ?_
        refine y_callV rfl rfl rfl (t_mo_rule__q hHT15 fs ns 5 ⟨by omega, by omega⟩ (by first | assumption | exact (VLR_FR hFT15 rfl (by assumption : VLR S _ _))) (by first | assumption | exact (by assumption : JR T15 _ _)) (by first | assumption | omega) (by first | assumption | omega) (by rw [FRR hFT15 rfl]; omega) _) ?_
        rintro _ T17 ⟨hHT17, w179, rfl, w173, w174, w175, w176, w177⟩
        have hFT17 : FR md_mo_sentence__p S T17 := FR.tr hFT15 w179 rfl
        show Pl _ _ _ _ _ _ [] _ _
        have : Xi T17 904 65 = 0 → (fs : Int) ≤ Xi T17 904 8 ∧ Xi T17 904 8 ≤ fs + ns := JR.i (by assumption)
        have gp204 := w173
        try rw [FRR hFT15 rfl] at gp204
        clear w173
        refine y_goto rfl rfl ?_
        have w180 : Xi T17 904 75 = Xi T15 904 75 := (show Xi T17 904 75 = Xi T15 904 75 from w179.x _ _ rfl)
        have w181 : Xi T17 904 76 = Xi T15 904 76 := (show Xi T17 904 76 = Xi T15 904 76 from w179.x _ _ rfl)
        have w182 : Xi T17 904 81 = Xi T15 904 81 := (show Xi T17 904 81 = Xi T15 904 81 from w179.x _ _ rfl)
        exact Pl_weak (C350 T17 hHT17 hFT17  (by first | (have t := gp115; rw [gSe_1 (by omega)]; exact gp115) | (have t := gp134; rw [gSe_2 (by omega)]; exact gp134) | (have t := gp204; exact (gSe_r (by omega)).trans gp204) | (have t := gp251; rw [gSe_7 (by omega) (by omega)]; unfold gO7; rw [cu_go gp251 (by omega) (by omega), gp255, gp262, gp268, gp272, gp279]) | (have t := gp326; rw [gSe_8 (by omega) (by omega)]; unfold gO8; rw [cu_go gp326 (by omega) (by omega), gp330, gp335, gp339]) | (have t := gp347; rw [gSe_c a346.o n346.o o346.o]; exact gp347)) (by first | exact JR.i (by first | assumption | exact (by assumption : JR T17 _ _)) | exact (by assumption : INR T17 fs ns)) (by first | exact JR.i (by first | assumption | exact (by assumption : JR T17 _ _)) | exact (by assumption : INR T17 fs ns)) (by unfold Hid; omega) (by first | (have t := gp347; exact sor_c a346.o n346.o o346.o) | (unfold SOR; omega)) (fun b c e => by first | (have t := gp347; exact JR.ks (j347 (by omega) (by omega)) b e) | exact JR.ks (by first | assumption | exact (by assumption : JR T17 _ _)) b e) (by first | (have t := gp347; exact (fun b c => ⟨cr347 b, c9347 b, co347⟩)) | exact (fun b c => absurd c (fun q => by unfold CMN at q; omega))) (by first | (have t := gp115; exact (fun _ b => by omega)) | (have t := gp347; exact (fun q => absurd q a346.o.1)) | exact (fun q => by exfalso; omega)) (by first | (have t := gp347; exact (fun b c => on347 b)) | exact (fun b c => absurd c (fun q => by unfold CMN at q; omega))) (by first | (have t := gp134; exact (fun q => absurd (by omega) q)) | (have t := gp204; exact (fun _ q1 q2 q3 q4 => by exfalso; omega)) | exact (fun _ _ _ _ _ => by omega)) (fun b c e => by have t := ((by first | (have t := gp347; exact j347 (by omega) (by omega)) | assumption | exact (by assumption : JR T17 _ _) : JR T17 fs ns) b).2 e; have u := t.1; rw [FRR hFT17 rfl] at u; exact u)) (by omega) (And.intro rfl (True.intro))
    · refine y_iconst rfl ?_
      refine y_goto rfl rfl ?_
      refine y_callV rfl rfl rfl (t_mo_rule__q hHT15 fs ns 4 ⟨by omega, by omega⟩ (by first | assumption | exact (VLR_FR hFT15 rfl (by assumption : VLR S _ _))) (by first | assumption | exact (by assumption : JR T15 _ _)) (by first | assumption | omega) (by first | assumption | omega) (by rw [FRR hFT15 rfl]; omega) _) ?_
      rintro _ T18 ⟨hHT18, w189, rfl, w183, w184, w185, w186, w187⟩
      have hFT18 : FR md_mo_sentence__p S T18 := FR.tr hFT15 w189 rfl
      show Pl _ _ _ _ _ _ [] _ _
      have : Xi T18 904 65 = 0 → (fs : Int) ≤ Xi T18 904 8 ∧ Xi T18 904 8 ≤ fs + ns := JR.i (by assumption)
      have gp204 := w183
      try rw [FRR hFT15 rfl] at gp204
      clear w183
      refine y_goto rfl rfl ?_
      have w190 : Xi T18 904 75 = Xi T15 904 75 := (show Xi T18 904 75 = Xi T15 904 75 from w189.x _ _ rfl)
      have w191 : Xi T18 904 76 = Xi T15 904 76 := (show Xi T18 904 76 = Xi T15 904 76 from w189.x _ _ rfl)
      have w192 : Xi T18 904 81 = Xi T15 904 81 := (show Xi T18 904 81 = Xi T15 904 81 from w189.x _ _ rfl)
      exact Pl_weak (C350 T18 hHT18 hFT18  (by first | (have t := gp115; rw [gSe_1 (by omega)]; exact gp115) | (have t := gp134; rw [gSe_2 (by omega)]; exact gp134) | (have t := gp204; exact (gSe_r (by omega)).trans gp204) | (have t := gp251; rw [gSe_7 (by omega) (by omega)]; unfold gO7; rw [cu_go gp251 (by omega) (by omega), gp255, gp262, gp268, gp272, gp279]) | (have t := gp326; rw [gSe_8 (by omega) (by omega)]; unfold gO8; rw [cu_go gp326 (by omega) (by omega), gp330, gp335, gp339]) | (have t := gp347; rw [gSe_c a346.o n346.o o346.o]; exact gp347)) (by first | exact JR.i (by first | assumption | exact (by assumption : JR T18 _ _)) | exact (by assumption : INR T18 fs ns)) (by first | exact JR.i (by first | assumption | exact (by assumption : JR T18 _ _)) | exact (by assumption : INR T18 fs ns)) (by unfold Hid; omega) (by first | (have t := gp347; exact sor_c a346.o n346.o o346.o) | (unfold SOR; omega)) (fun b c e => by first | (have t := gp347; exact JR.ks (j347 (by omega) (by omega)) b e) | exact JR.ks (by first | assumption | exact (by assumption : JR T18 _ _)) b e) (by first | (have t := gp347; exact (fun b c => ⟨cr347 b, c9347 b, co347⟩)) | exact (fun b c => absurd c (fun q => by unfold CMN at q; omega))) (by first | (have t := gp115; exact (fun _ b => by omega)) | (have t := gp347; exact (fun q => absurd q a346.o.1)) | exact (fun q => by exfalso; omega)) (by first | (have t := gp347; exact (fun b c => on347 b)) | exact (fun b c => absurd c (fun q => by unfold CMN at q; omega))) (by first | (have t := gp134; exact (fun q => absurd (by omega) q)) | (have t := gp204; exact (fun _ q1 q2 q3 q4 => by exfalso; omega)) | exact (fun _ _ _ _ _ => by omega)) (fun b c e => by have t := ((by first | (have t := gp347; exact j347 (by omega) (by omega)) | assumption | exact (by assumption : JR T18 _ _) : JR T18 fs ns) b).2 e; have u := t.1; rw [FRR hFT18 rfl] at u; exact u)) (by omega) (And.intro rfl (True.intro))
  · refine y_iconst rfl ?_
    refine y_goto rfl rfl ?_
    refine y_callV rfl rfl rfl (t_mo_rule__q hHT15 fs ns 3 ⟨by omega, by omega⟩ (by first | assumption | exact (VLR_FR hFT15 rfl (by assumption : VLR S _ _))) (by first | assumption | exact (by assumption : JR T15 _ _)) (by first | assumption | omega) (by first | assumption | omega) (by rw [FRR hFT15 rfl]; omega) _) ?_
    rintro _ T19 ⟨hHT19, w199, rfl, w193, w194, w195, w196, w197⟩
    have hFT19 : FR md_mo_sentence__p S T19 := FR.tr hFT15 w199 rfl
    show Pl _ _ _ _ _ _ [] _ _
    have : Xi T19 904 65 = 0 → (fs : Int) ≤ Xi T19 904 8 ∧ Xi T19 904 8 ≤ fs + ns := JR.i (by assumption)
    have gp204 := w193
    try rw [FRR hFT15 rfl] at gp204
    clear w193
    refine y_goto rfl rfl ?_
    have w200 : Xi T19 904 75 = Xi T15 904 75 := (show Xi T19 904 75 = Xi T15 904 75 from w199.x _ _ rfl)
    have w201 : Xi T19 904 76 = Xi T15 904 76 := (show Xi T19 904 76 = Xi T15 904 76 from w199.x _ _ rfl)
    have w202 : Xi T19 904 81 = Xi T15 904 81 := (show Xi T19 904 81 = Xi T15 904 81 from w199.x _ _ rfl)
    exact Pl_weak (C350 T19 hHT19 hFT19  (by first | (have t := gp115; rw [gSe_1 (by omega)]; exact gp115) | (have t := gp134; rw [gSe_2 (by omega)]; exact gp134) | (have t := gp204; exact (gSe_r (by omega)).trans gp204) | (have t := gp251; rw [gSe_7 (by omega) (by omega)]; unfold gO7; rw [cu_go gp251 (by omega) (by omega), gp255, gp262, gp268, gp272, gp279]) | (have t := gp326; rw [gSe_8 (by omega) (by omega)]; unfold gO8; rw [cu_go gp326 (by omega) (by omega), gp330, gp335, gp339]) | (have t := gp347; rw [gSe_c a346.o n346.o o346.o]; exact gp347)) (by first | exact JR.i (by first | assumption | exact (by assumption : JR T19 _ _)) | exact (by assumption : INR T19 fs ns)) (by first | exact JR.i (by first | assumption | exact (by assumption : JR T19 _ _)) | exact (by assumption : INR T19 fs ns)) (by unfold Hid; omega) (by first | (have t := gp347; exact sor_c a346.o n346.o o346.o) | (unfold SOR; omega)) (fun b c e => by first | (have t := gp347; exact JR.ks (j347 (by omega) (by omega)) b e) | exact JR.ks (by first | assumption | exact (by assumption : JR T19 _ _)) b e) (by first | (have t := gp347; exact (fun b c => ⟨cr347 b, c9347 b, co347⟩)) | exact (fun b c => absurd c (fun q => by unfold CMN at q; omega))) (by first | (have t := gp115; exact (fun _ b => by omega)) | (have t := gp347; exact (fun q => absurd q a346.o.1)) | exact (fun q => by exfalso; omega)) (by first | (have t := gp347; exact (fun b c => on347 b)) | exact (fun b c => absurd c (fun q => by unfold CMN at q; omega))) (by first | (have t := gp134; exact (fun q => absurd (by omega) q)) | (have t := gp204; exact (fun _ q1 q2 q3 q4 => by exfalso; omega)) | exact (fun _ _ _ _ _ => by omega)) (fun b c e => by have t := ((by first | (have t := gp347; exact j347 (by omega) (by omega)) | assumption | exact (by assumption : JR T19 _ _) : JR T19 fs ns) b).2 e; have u := t.1; rw [FRR hFT19 rfl] at u; exact u)) (by omega) (And.intro rfl (True.intro))
set_option maxRecDepth 100000 in
theorem c232_mo_sentence__p {S : sS} (hH : RI S) (fs : Nat) (ns : Nat) (hvl : VLR S fs ns) (h0 : Xi S 904 8 = fs) (d : Nat) (fu : Nat) : ∀  (T20 : sS) (_ : RI T20) (_ : FR md_mo_sentence__p S T20), (Xi T20 904 8 = Xi S 904 8) → (Xi T20 904 65 = 0) → (Xi T20 904 69 = 0) → (Xi T20 904 93 = 0) → (Xi T20 904 75 = 0) → (Xi T20 904 76 = 0) → (JR T20 fs ns) → (tR S fs ns 0 = 2 ∧ tR S fs ns 1 = 25) → Pl fu lay0 (d + 9) m_mo_sentence 232 [(0, .ref 904)] [] T20 (Q_mo_sentence__p S fs ns) := by
  have C350 := c350_mo_sentence__p hH fs ns hvl h0 d  fu
  have hF : FR md_mo_sentence__p S S := FR.rf
  have w1 : -2147483648 ≤ Xi S 904 65 ∧ Xi S 904 65 ≤ 2147483647 := Xi_rgI
  have w2 : -2147483648 ≤ Xi S 904 66 ∧ Xi S 904 66 ≤ 2147483647 := Xi_rgI
  have w3 : -2147483648 ≤ Xi S 904 69 ∧ Xi S 904 69 ≤ 2147483647 := Xi_rgI
  have w4 : -2147483648 ≤ Xi S 904 70 ∧ Xi S 904 70 ≤ 2147483647 := Xi_rgI
  have w5 : -2147483648 ≤ Xi S 904 75 ∧ Xi S 904 75 ≤ 2147483647 := Xi_rgI
  have w6 : -2147483648 ≤ Xi S 904 76 ∧ Xi S 904 76 ≤ 2147483647 := Xi_rgI
  have w7 : -2147483648 ≤ Xi S 904 8 ∧ Xi S 904 8 ≤ 2147483647 := Xi_rgI
  have w8 : -2147483648 ≤ Xi S 904 81 ∧ Xi S 904 81 ≤ 2147483647 := Xi_rgI
  have w9 : -2147483648 ≤ Xi S 904 93 ∧ Xi S 904 93 ≤ 2147483647 := Xi_rgI
  have hbd := hvl.2.2.2
  intro T20 hHT20 hFT20 w203 w204 w205 w206 w207 w208 J232 a232
  have w209 : -2147483648 ≤ Xi T20 904 65 ∧ Xi T20 904 65 ≤ 2147483647 := Xi_rgI
  have w210 : -2147483648 ≤ Xi T20 904 66 ∧ Xi T20 904 66 ≤ 2147483647 := Xi_rgI
  have w211 : -2147483648 ≤ Xi T20 904 69 ∧ Xi T20 904 69 ≤ 2147483647 := Xi_rgI
  have w212 : -2147483648 ≤ Xi T20 904 70 ∧ Xi T20 904 70 ≤ 2147483647 := Xi_rgI
  have w213 : -2147483648 ≤ Xi T20 904 75 ∧ Xi T20 904 75 ≤ 2147483647 := Xi_rgI
  have w214 : -2147483648 ≤ Xi T20 904 76 ∧ Xi T20 904 76 ≤ 2147483647 := Xi_rgI
  have w215 : -2147483648 ≤ Xi T20 904 8 ∧ Xi T20 904 8 ≤ 2147483647 := Xi_rgI
  have w216 : -2147483648 ≤ Xi T20 904 81 ∧ Xi T20 904 81 ≤ 2147483647 := Xi_rgI
  have w217 : -2147483648 ≤ Xi T20 904 93 ∧ Xi T20 904 93 ≤ 2147483647 := Xi_rgI
  refine y_aload_n rfl rfl ?_
  refine y_bipush rfl rfl ?_
  refine y_pfi rfl rfl rfl rfl ?_
  obtain ⟨U21, eU21⟩ : ∃ T : sS, T = uI T20 904 70 (Int32.ofInt 7) := ⟨_, rfl⟩
  rw [← eU21]
  have hHU21 : RI U21 := by rw [eU21]; exact RI_w hHT20
  have hFU21 : FR md_mo_sentence__p S U21 := by rw [eU21]; exact FR.wI hFT20 (mdf_i (r := (904, 905, 70, 71)) (List.mem_of_getElem? (i := 4) rfl) (inR_i (by omega) (by omega) (by omega) (by omega)))
  have w218 : Xi U21 904 70 = 7 := by rw [eU21]; exact Xi_same (by unfold rg; omega)
  refine y_aload_n rfl rfl ?_
  refine y_dup rfl rfl ?_
  refine y_gfi rfl rfl rfl rfl rfl ?_
  have w219 : (Xi U21 904 8) = (Xi T20 904 8) := (show Xi U21 904 8 = Xi T20 904 8 from by rw [eU21]; exact Xi_ne (by omega))
  rw [w219]
  refine y_iconst rfl ?_
  refine y_iadd rfl ?_
  refine y_pfi rfl rfl rfl rfl ?_
  obtain ⟨U22, eU22⟩ : ∃ T : sS, T = uI U21 904 8 (Int32.ofInt ((Xi T20 904 8) + 2)) := ⟨_, rfl⟩
  rw [← eU22]
  have hHU22 : RI U22 := by rw [eU22]; exact RI_w hHU21
  have hFU22 : FR md_mo_sentence__p S U22 := by rw [eU22]; exact FR.wI hFU21 (mdf_i (r := (904, 905, 8, 9)) (List.mem_of_getElem? (i := 0) rfl) (inR_i (by omega) (by omega) (by omega) (by omega)))
  have w220 : Xi U22 904 8 = ((Xi T20 904 8) + 2) := by rw [eU22]; exact Xi_same (by unfold rg; omega)
  have b245_ : Xi U22 904 65 = Xi U21 904 65 := (by rw [eU22, Xi_ne (by omega)]); have J245 : JR U22 fs ns := jr_up2 (JR_FR (FR_e eU21) rfl rfl rfl (by assumption : JR T20 _ _)) (VLR_FR hFU21 rfl (by assumption : VLR S _ _)) eU22 (by omega) (fun b => by rw [FRR hFU21 rfl, show Xi U21 904 8 - (fs : Int) = 0 by omega]; omega) (fun b => by rw [FRR hFU21 rfl, show Xi U21 904 8 - (fs : Int) + 1 = 1 by omega]; omega)
  have : Xi U22 904 65 = 0 → (fs : Int) ≤ Xi U22 904 8 ∧ Xi U22 904 8 ≤ fs + ns := JR.i (by assumption)
  refine y_aload_n rfl rfl ?_
  refine y_bipush rfl rfl ?_
  have w221 : Xi U22 904 65 = Xi T20 904 65 := (show Xi U22 904 65 = Xi U21 904 65 from by rw [eU22]; exact Xi_ne (by omega)).trans ((show Xi U21 904 65 = Xi T20 904 65 from by rw [eU21]; exact Xi_ne (by omega)))
  refine y_callV rfl rfl rfl (t_mo_take__p hHU22 fs ns 111 ⟨by omega, by omega⟩ (by first | assumption | exact (VLR_FR hFU22 rfl (by assumption : VLR S _ _))) (by first | assumption | exact (by assumption : JR U22 _ _)) (rfl) (by decide) _) ?_
  rintro _ T23 ⟨hHT23, w233, rfl, w229, w230, w231⟩
  have hFT23 : FR md_mo_sentence__p S T23 := FR.tr hFU22 w233 rfl
  show Pl _ _ _ _ _ _ [] _ _
  have : Xi T23 904 65 = 0 → (fs : Int) ≤ Xi T23 904 8 ∧ Xi T23 904 8 ≤ fs + ns := JR.i (by assumption)
  have gp251 := w229
  try rw [FRR hFU22 rfl] at gp251
  try rw [show un7 111 = 11 from rfl] at gp251
  clear w229
  refine y_aload_n rfl rfl ?_
  have w234 : Xi T23 904 69 = Xi T20 904 69 := (show Xi T23 904 69 = Xi U22 904 69 from w233.x _ _ rfl).trans ( (show Xi U22 904 69 = Xi U21 904 69 from by rw [eU22]; exact Xi_ne (by omega)).trans ((show Xi U21 904 69 = Xi T20 904 69 from by rw [eU21]; exact Xi_ne (by omega))))
  refine y_callV rfl rfl rfl (t_mo_run__p hHT23 fs ns (by first | assumption | exact (VLR_FR hFT23 rfl (by assumption : VLR S _ _))) (by first | assumption | exact (by assumption : JR T23 _ _)) _) ?_
  rintro _ T24 ⟨hHT24, w247, z246, rfl, w246, w240, w241, w242, w243, w244, w245⟩
  have hFT24 : FR md_mo_sentence__p S T24 := FR.tr hFT23 w247 rfl
  show Pl _ _ _ _ _ _ [iv z246] _ _
  have : Xi T24 904 65 = 0 → (fs : Int) ≤ Xi T24 904 8 ∧ Xi T24 904 8 ≤ fs + ns := JR.i (by assumption)
  have gp255 := w240
  try rw [FRR hFT23 rfl] at gp255
  clear w240
  refine y_pop rfl rfl ?_
  refine y_aload_n rfl rfl ?_
  refine y_bipush rfl rfl ?_
  refine y_callV rfl rfl rfl (t_mo_take__p hHT24 fs ns 124 ⟨by omega, by omega⟩ (by first | assumption | exact (VLR_FR hFT24 rfl (by assumption : VLR S _ _))) (by first | assumption | exact (by assumption : JR T24 _ _)) (rfl) (by decide) _) ?_
  rintro _ T25 ⟨hHT25, w257, rfl, w253, w254, w255⟩
  have hFT25 : FR md_mo_sentence__p S T25 := FR.tr hFT24 w257 rfl
  show Pl _ _ _ _ _ _ [] _ _
  have : Xi T25 904 65 = 0 → (fs : Int) ≤ Xi T25 904 8 ∧ Xi T25 904 8 ≤ fs + ns := JR.i (by assumption)
  have gp262 := w253
  try rw [FRR hFT24 rfl] at gp262
  try rw [show un7 124 = 24 from rfl] at gp262
  clear w253
  refine y_aload_n rfl rfl ?_
  refine y_bipush rfl rfl ?_
  refine y_callV rfl rfl rfl (t_mo_take__p hHT25 fs ns 102 ⟨by omega, by omega⟩ (by first | assumption | exact (VLR_FR hFT25 rfl (by assumption : VLR S _ _))) (by first | assumption | exact (by assumption : JR T25 _ _)) (rfl) (by decide) _) ?_
  rintro _ T26 ⟨hHT26, w268, rfl, w264, w265, w266⟩
  have hFT26 : FR md_mo_sentence__p S T26 := FR.tr hFT25 w268 rfl
  show Pl _ _ _ _ _ _ [] _ _
  have : Xi T26 904 65 = 0 → (fs : Int) ≤ Xi T26 904 8 ∧ Xi T26 904 8 ≤ fs + ns := JR.i (by assumption)
  have gp268 := w264
  try rw [FRR hFT25 rfl] at gp268
  try rw [show un7 102 = 2 from rfl] at gp268
  clear w264
  refine y_aload_n rfl rfl ?_
  have w269 : Xi T26 904 69 = Xi T24 904 69 := (show Xi T26 904 69 = Xi T25 904 69 from w268.x _ _ rfl).trans ((show Xi T25 904 69 = Xi T24 904 69 from w257.x _ _ rfl))
  refine y_callV rfl rfl rfl (t_mo_run__p hHT26 fs ns (by first | assumption | exact (VLR_FR hFT26 rfl (by assumption : VLR S _ _))) (by first | assumption | exact (by assumption : JR T26 _ _)) _) ?_
  rintro _ T27 ⟨hHT27, w282, z281, rfl, w281, w275, w276, w277, w278, w279, w280⟩
  have hFT27 : FR md_mo_sentence__p S T27 := FR.tr hFT26 w282 rfl
  show Pl _ _ _ _ _ _ [iv z281] _ _
  have : Xi T27 904 65 = 0 → (fs : Int) ≤ Xi T27 904 8 ∧ Xi T27 904 8 ≤ fs + ns := JR.i (by assumption)
  have gp272 := w275
  try rw [FRR hFT26 rfl] at gp272
  clear w275
  refine y_pop rfl rfl ?_
  refine y_aload_n rfl rfl ?_
  refine y_bipush rfl rfl ?_
  refine y_callV rfl rfl rfl (t_mo_take__p hHT27 fs ns 126 ⟨by omega, by omega⟩ (by first | assumption | exact (VLR_FR hFT27 rfl (by assumption : VLR S _ _))) (by first | assumption | exact (by assumption : JR T27 _ _)) (rfl) (by decide) _) ?_
  rintro _ T28 ⟨hHT28, w292, rfl, w288, w289, w290⟩
  have hFT28 : FR md_mo_sentence__p S T28 := FR.tr hFT27 w292 rfl
  show Pl _ _ _ _ _ _ [] _ _
  have : Xi T28 904 65 = 0 → (fs : Int) ≤ Xi T28 904 8 ∧ Xi T28 904 8 ≤ fs + ns := JR.i (by assumption)
  have gp279 := w288
  try rw [FRR hFT27 rfl] at gp279
  try rw [show un7 126 = 26 from rfl] at gp279
  clear w288
  refine y_goto rfl rfl ?_
  have w293 : Xi T28 904 69 = Xi T27 904 69 := (show Xi T28 904 69 = Xi T27 904 69 from w292.x _ _ rfl)
  have w294 : Xi T28 904 70 = Xi U21 904 70 := (show Xi T28 904 70 = Xi T27 904 70 from w292.x _ _ rfl).trans ( (show Xi T27 904 70 = Xi T26 904 70 from w282.x _ _ rfl).trans ( (show Xi T26 904 70 = Xi T25 904 70 from w268.x _ _ rfl).trans ( (show Xi T25 904 70 = Xi T24 904 70 from w257.x _ _ rfl).trans ( (show Xi T24 904 70 = Xi T23 904 70 from w247.x _ _ rfl).trans ( (show Xi T23 904 70 = Xi U22 904 70 from w233.x _ _ rfl).trans ((show Xi U22 904 70 = Xi U21 904 70 from by rw [eU22]; exact Xi_ne (by omega))))))))
  have w295 : Xi T28 904 75 = Xi T20 904 75 := (show Xi T28 904 75 = Xi T27 904 75 from w292.x _ _ rfl).trans ( (show Xi T27 904 75 = Xi T26 904 75 from w282.x _ _ rfl).trans ( (show Xi T26 904 75 = Xi T25 904 75 from w268.x _ _ rfl).trans ( (show Xi T25 904 75 = Xi T24 904 75 from w257.x _ _ rfl).trans ( (show Xi T24 904 75 = Xi T23 904 75 from w247.x _ _ rfl).trans ( (show Xi T23 904 75 = Xi U22 904 75 from w233.x _ _ rfl).trans ( (show Xi U22 904 75 = Xi U21 904 75 from by rw [eU22]; exact Xi_ne (by omega)).trans ((show Xi U21 904 75 = Xi T20 904 75 from by rw [eU21]; exact Xi_ne (by omega)))))))))
  have w296 : Xi T28 904 76 = Xi T20 904 76 := (show Xi T28 904 76 = Xi T27 904 76 from w292.x _ _ rfl).trans ( (show Xi T27 904 76 = Xi T26 904 76 from w282.x _ _ rfl).trans ( (show Xi T26 904 76 = Xi T25 904 76 from w268.x _ _ rfl).trans ( (show Xi T25 904 76 = Xi T24 904 76 from w257.x _ _ rfl).trans ( (show Xi T24 904 76 = Xi T23 904 76 from w247.x _ _ rfl).trans ( (show Xi T23 904 76 = Xi U22 904 76 from w233.x _ _ rfl).trans ( (show Xi U22 904 76 = Xi U21 904 76 from by rw [eU22]; exact Xi_ne (by omega)).trans ((show Xi U21 904 76 = Xi T20 904 76 from by rw [eU21]; exact Xi_ne (by omega)))))))))
  have w297 : Xi T28 904 81 = Xi T20 904 81 := (show Xi T28 904 81 = Xi T27 904 81 from w292.x _ _ rfl).trans ( (show Xi T27 904 81 = Xi T26 904 81 from w282.x _ _ rfl).trans ( (show Xi T26 904 81 = Xi T25 904 81 from w268.x _ _ rfl).trans ( (show Xi T25 904 81 = Xi T24 904 81 from w257.x _ _ rfl).trans ( (show Xi T24 904 81 = Xi T23 904 81 from w247.x _ _ rfl).trans ( (show Xi T23 904 81 = Xi U22 904 81 from w233.x _ _ rfl).trans ( (show Xi U22 904 81 = Xi U21 904 81 from by rw [eU22]; exact Xi_ne (by omega)).trans ((show Xi U21 904 81 = Xi T20 904 81 from by rw [eU21]; exact Xi_ne (by omega)))))))))
  have w298 : Xi T28 904 93 = Xi T20 904 93 := (show Xi T28 904 93 = Xi T27 904 93 from w292.x _ _ rfl).trans ( (show Xi T27 904 93 = Xi T26 904 93 from w282.x _ _ rfl).trans ( (show Xi T26 904 93 = Xi T25 904 93 from w268.x _ _ rfl).trans ( (show Xi T25 904 93 = Xi T24 904 93 from w257.x _ _ rfl).trans ( (show Xi T24 904 93 = Xi T23 904 93 from w247.x _ _ rfl).trans ( (show Xi T23 904 93 = Xi U22 904 93 from w233.x _ _ rfl).trans ( (show Xi U22 904 93 = Xi U21 904 93 from by rw [eU22]; exact Xi_ne (by omega)).trans ((show Xi U21 904 93 = Xi T20 904 93 from by rw [eU21]; exact Xi_ne (by omega)))))))))
  exact Pl_weak (C350 T28 hHT28 hFT28  (by first | (have t := gp115; rw [gSe_1 (by omega)]; exact gp115) | (have t := gp134; rw [gSe_2 (by omega)]; exact gp134) | (have t := gp204; exact (gSe_r (by omega)).trans gp204) | (have t := gp251; rw [gSe_7 (by omega) (by omega)]; unfold gO7; rw [cu_go gp251 (by omega) (by omega), gp255, gp262, gp268, gp272, gp279]) | (have t := gp326; rw [gSe_8 (by omega) (by omega)]; unfold gO8; rw [cu_go gp326 (by omega) (by omega), gp330, gp335, gp339]) | (have t := gp347; rw [gSe_c a346.o n346.o o346.o]; exact gp347)) (by first | exact JR.i (by first | assumption | exact (by assumption : JR T28 _ _)) | exact (by assumption : INR T28 fs ns)) (by first | exact JR.i (by first | assumption | exact (by assumption : JR T28 _ _)) | exact (by assumption : INR T28 fs ns)) (by unfold Hid; omega) (by first | (have t := gp347; exact sor_c a346.o n346.o o346.o) | (unfold SOR; omega)) (fun b c e => by first | (have t := gp347; exact JR.ks (j347 (by omega) (by omega)) b e) | exact JR.ks (by first | assumption | exact (by assumption : JR T28 _ _)) b e) (by first | (have t := gp347; exact (fun b c => ⟨cr347 b, c9347 b, co347⟩)) | exact (fun b c => absurd c (fun q => by unfold CMN at q; omega))) (by first | (have t := gp115; exact (fun _ b => by omega)) | (have t := gp347; exact (fun q => absurd q a346.o.1)) | exact (fun q => by exfalso; omega)) (by first | (have t := gp347; exact (fun b c => on347 b)) | exact (fun b c => absurd c (fun q => by unfold CMN at q; omega))) (by first | (have t := gp134; exact (fun q => absurd (by omega) q)) | (have t := gp204; exact (fun _ q1 q2 q3 q4 => by exfalso; omega)) | exact (fun _ _ _ _ _ => by omega)) (fun b c e => by have t := ((by first | (have t := gp347; exact j347 (by omega) (by omega)) | assumption | exact (by assumption : JR T28 _ _) : JR T28 fs ns) b).2 e; have u := t.1; rw [FRR hFT28 rfl] at u; exact u)) (by omega) (And.intro rfl (True.intro))
set_option maxRecDepth 100000 in
theorem c307_mo_sentence__p {S : sS} (hH : RI S) (fs : Nat) (ns : Nat) (hvl : VLR S fs ns) (h0 : Xi S 904 8 = fs) (d : Nat) (fu : Nat) : ∀  (T29 : sS) (_ : RI T29) (_ : FR md_mo_sentence__p S T29), (Xi T29 904 8 = Xi S 904 8) → (Xi T29 904 65 = 0) → (Xi T29 904 69 = 0) → (Xi T29 904 93 = 0) → (Xi T29 904 75 = 0) → (Xi T29 904 76 = 0) → (JR T29 fs ns) → (tR S fs ns 0 = 2 ∧ tR S fs ns 1 = 19) → Pl fu lay0 (d + 9) m_mo_sentence 307 [(0, .ref 904)] [] T29 (Q_mo_sentence__p S fs ns) := by
  have C350 := c350_mo_sentence__p hH fs ns hvl h0 d  fu
  have hF : FR md_mo_sentence__p S S := FR.rf
  have w1 : -2147483648 ≤ Xi S 904 65 ∧ Xi S 904 65 ≤ 2147483647 := Xi_rgI
  have w2 : -2147483648 ≤ Xi S 904 66 ∧ Xi S 904 66 ≤ 2147483647 := Xi_rgI
  have w3 : -2147483648 ≤ Xi S 904 69 ∧ Xi S 904 69 ≤ 2147483647 := Xi_rgI
  have w4 : -2147483648 ≤ Xi S 904 70 ∧ Xi S 904 70 ≤ 2147483647 := Xi_rgI
  have w5 : -2147483648 ≤ Xi S 904 75 ∧ Xi S 904 75 ≤ 2147483647 := Xi_rgI
  have w6 : -2147483648 ≤ Xi S 904 76 ∧ Xi S 904 76 ≤ 2147483647 := Xi_rgI
  have w7 : -2147483648 ≤ Xi S 904 8 ∧ Xi S 904 8 ≤ 2147483647 := Xi_rgI
  have w8 : -2147483648 ≤ Xi S 904 81 ∧ Xi S 904 81 ≤ 2147483647 := Xi_rgI
  have w9 : -2147483648 ≤ Xi S 904 93 ∧ Xi S 904 93 ≤ 2147483647 := Xi_rgI
  have hbd := hvl.2.2.2
  intro T29 hHT29 hFT29 w299 w300 w301 w302 w303 w304 J307 a307
  have w305 : -2147483648 ≤ Xi T29 904 65 ∧ Xi T29 904 65 ≤ 2147483647 := Xi_rgI
  have w306 : -2147483648 ≤ Xi T29 904 66 ∧ Xi T29 904 66 ≤ 2147483647 := Xi_rgI
  have w307 : -2147483648 ≤ Xi T29 904 69 ∧ Xi T29 904 69 ≤ 2147483647 := Xi_rgI
  have w308 : -2147483648 ≤ Xi T29 904 70 ∧ Xi T29 904 70 ≤ 2147483647 := Xi_rgI
  have w309 : -2147483648 ≤ Xi T29 904 75 ∧ Xi T29 904 75 ≤ 2147483647 := Xi_rgI
  have w310 : -2147483648 ≤ Xi T29 904 76 ∧ Xi T29 904 76 ≤ 2147483647 := Xi_rgI
  have w311 : -2147483648 ≤ Xi T29 904 8 ∧ Xi T29 904 8 ≤ 2147483647 := Xi_rgI
  have w312 : -2147483648 ≤ Xi T29 904 81 ∧ Xi T29 904 81 ≤ 2147483647 := Xi_rgI
  have w313 : -2147483648 ≤ Xi T29 904 93 ∧ Xi T29 904 93 ≤ 2147483647 := Xi_rgI
  refine y_aload_n rfl rfl ?_
  refine y_bipush rfl rfl ?_
  refine y_pfi rfl rfl rfl rfl ?_
  obtain ⟨U30, eU30⟩ : ∃ T : sS, T = uI T29 904 70 (Int32.ofInt 8) := ⟨_, rfl⟩
  rw [← eU30]
  have hHU30 : RI U30 := by rw [eU30]; exact RI_w hHT29
  have hFU30 : FR md_mo_sentence__p S U30 := by rw [eU30]; exact FR.wI hFT29 (mdf_i (r := (904, 905, 70, 71)) (List.mem_of_getElem? (i := 4) rfl) (inR_i (by omega) (by omega) (by omega) (by omega)))
  have w314 : Xi U30 904 70 = 8 := by rw [eU30]; exact Xi_same (by unfold rg; omega)
  refine y_aload_n rfl rfl ?_
  refine y_dup rfl rfl ?_
  refine y_gfi rfl rfl rfl rfl rfl ?_
  have w315 : (Xi U30 904 8) = (Xi T29 904 8) := (show Xi U30 904 8 = Xi T29 904 8 from by rw [eU30]; exact Xi_ne (by omega))
  rw [w315]
  refine y_iconst rfl ?_
  refine y_iadd rfl ?_
  refine y_pfi rfl rfl rfl rfl ?_
  obtain ⟨U31, eU31⟩ : ∃ T : sS, T = uI U30 904 8 (Int32.ofInt ((Xi T29 904 8) + 2)) := ⟨_, rfl⟩
  rw [← eU31]
  have hHU31 : RI U31 := by rw [eU31]; exact RI_w hHU30
  have hFU31 : FR md_mo_sentence__p S U31 := by rw [eU31]; exact FR.wI hFU30 (mdf_i (r := (904, 905, 8, 9)) (List.mem_of_getElem? (i := 0) rfl) (inR_i (by omega) (by omega) (by omega) (by omega)))
  have w316 : Xi U31 904 8 = ((Xi T29 904 8) + 2) := by rw [eU31]; exact Xi_same (by unfold rg; omega)
  have b320_ : Xi U31 904 65 = Xi U30 904 65 := (by rw [eU31, Xi_ne (by omega)]); have J320 : JR U31 fs ns := jr_up2 (JR_FR (FR_e eU30) rfl rfl rfl (by assumption : JR T29 _ _)) (VLR_FR hFU30 rfl (by assumption : VLR S _ _)) eU31 (by omega) (fun b => by rw [FRR hFU30 rfl, show Xi U30 904 8 - (fs : Int) = 0 by omega]; omega) (fun b => by rw [FRR hFU30 rfl, show Xi U30 904 8 - (fs : Int) + 1 = 1 by omega]; omega)
  have : Xi U31 904 65 = 0 → (fs : Int) ≤ Xi U31 904 8 ∧ Xi U31 904 8 ≤ fs + ns := JR.i (by assumption)
  refine y_aload_n rfl rfl ?_
  refine y_bipush rfl rfl ?_
  have w317 : Xi U31 904 65 = Xi T29 904 65 := (show Xi U31 904 65 = Xi U30 904 65 from by rw [eU31]; exact Xi_ne (by omega)).trans ((show Xi U30 904 65 = Xi T29 904 65 from by rw [eU30]; exact Xi_ne (by omega)))
  refine y_callV rfl rfl rfl (t_mo_take__p hHU31 fs ns 107 ⟨by omega, by omega⟩ (by first | assumption | exact (VLR_FR hFU31 rfl (by assumption : VLR S _ _))) (by first | assumption | exact (by assumption : JR U31 _ _)) (rfl) (by decide) _) ?_
  rintro _ T32 ⟨hHT32, w329, rfl, w325, w326, w327⟩
  have hFT32 : FR md_mo_sentence__p S T32 := FR.tr hFU31 w329 rfl
  show Pl _ _ _ _ _ _ [] _ _
  have : Xi T32 904 65 = 0 → (fs : Int) ≤ Xi T32 904 8 ∧ Xi T32 904 8 ≤ fs + ns := JR.i (by assumption)
  have gp326 := w325
  try rw [FRR hFU31 rfl] at gp326
  try rw [show un7 107 = 7 from rfl] at gp326
  clear w325
  refine y_aload_n rfl rfl ?_
  have w330 : Xi T32 904 69 = Xi T29 904 69 := (show Xi T32 904 69 = Xi U31 904 69 from w329.x _ _ rfl).trans ( (show Xi U31 904 69 = Xi U30 904 69 from by rw [eU31]; exact Xi_ne (by omega)).trans ((show Xi U30 904 69 = Xi T29 904 69 from by rw [eU30]; exact Xi_ne (by omega))))
  refine y_callV rfl rfl rfl (t_mo_name__p hHT32 fs ns (by first | assumption | exact (VLR_FR hFT32 rfl (by assumption : VLR S _ _))) (by first | assumption | exact (by assumption : JR T32 _ _)) _) ?_
  rintro _ T33 ⟨hHT33, w343, z342, rfl, w342, w336, w337, w338, w339, w340, w341⟩
  have hFT33 : FR md_mo_sentence__p S T33 := FR.tr hFT32 w343 rfl
  show Pl _ _ _ _ _ _ [iv z342] _ _
  have : Xi T33 904 65 = 0 → (fs : Int) ≤ Xi T33 904 8 ∧ Xi T33 904 8 ≤ fs + ns := JR.i (by assumption)
  have gp330 := w336
  try rw [FRR hFT32 rfl] at gp330
  clear w336
  refine y_pop rfl rfl ?_
  refine y_aload_n rfl rfl ?_
  refine y_callV rfl rfl rfl (t_mo_be__p hHT33 fs ns (by first | assumption | exact (VLR_FR hFT33 rfl (by assumption : VLR S _ _))) (by first | assumption | exact (by assumption : JR T33 _ _)) _) ?_
  rintro _ T34 ⟨hHT34, w354, rfl, w349, w350, w351, w352⟩
  have hFT34 : FR md_mo_sentence__p S T34 := FR.tr hFT33 w354 rfl
  show Pl _ _ _ _ _ _ [] _ _
  have : Xi T34 904 65 = 0 → (fs : Int) ≤ Xi T34 904 8 ∧ Xi T34 904 8 ≤ fs + ns := JR.i (by assumption)
  have gp335 := w349
  try rw [FRR hFT33 rfl] at gp335
  clear w349
  refine y_aload_n rfl rfl ?_
  have w355 : Xi T34 904 69 = Xi T33 904 69 := (show Xi T34 904 69 = Xi T33 904 69 from w354.x _ _ rfl)
  refine y_callV rfl rfl rfl (t_mo_run__p hHT34 fs ns (by first | assumption | exact (VLR_FR hFT34 rfl (by assumption : VLR S _ _))) (by first | assumption | exact (by assumption : JR T34 _ _)) _) ?_
  rintro _ T35 ⟨hHT35, w368, z367, rfl, w367, w361, w362, w363, w364, w365, w366⟩
  have hFT35 : FR md_mo_sentence__p S T35 := FR.tr hFT34 w368 rfl
  show Pl _ _ _ _ _ _ [iv z367] _ _
  have : Xi T35 904 65 = 0 → (fs : Int) ≤ Xi T35 904 8 ∧ Xi T35 904 8 ≤ fs + ns := JR.i (by assumption)
  have gp339 := w361
  try rw [FRR hFT34 rfl] at gp339
  clear w361
  refine y_pop rfl rfl ?_
  refine y_goto rfl rfl ?_
  have w369 : Xi T35 904 70 = Xi U30 904 70 := (show Xi T35 904 70 = Xi T34 904 70 from w368.x _ _ rfl).trans ( (show Xi T34 904 70 = Xi T33 904 70 from w354.x _ _ rfl).trans ( (show Xi T33 904 70 = Xi T32 904 70 from w343.x _ _ rfl).trans ( (show Xi T32 904 70 = Xi U31 904 70 from w329.x _ _ rfl).trans ((show Xi U31 904 70 = Xi U30 904 70 from by rw [eU31]; exact Xi_ne (by omega))))))
  have w370 : Xi T35 904 75 = Xi T29 904 75 := (show Xi T35 904 75 = Xi T34 904 75 from w368.x _ _ rfl).trans ( (show Xi T34 904 75 = Xi T33 904 75 from w354.x _ _ rfl).trans ( (show Xi T33 904 75 = Xi T32 904 75 from w343.x _ _ rfl).trans ( (show Xi T32 904 75 = Xi U31 904 75 from w329.x _ _ rfl).trans ( (show Xi U31 904 75 = Xi U30 904 75 from by rw [eU31]; exact Xi_ne (by omega)).trans ((show Xi U30 904 75 = Xi T29 904 75 from by rw [eU30]; exact Xi_ne (by omega)))))))
  have w371 : Xi T35 904 76 = Xi T29 904 76 := (show Xi T35 904 76 = Xi T34 904 76 from w368.x _ _ rfl).trans ( (show Xi T34 904 76 = Xi T33 904 76 from w354.x _ _ rfl).trans ( (show Xi T33 904 76 = Xi T32 904 76 from w343.x _ _ rfl).trans ( (show Xi T32 904 76 = Xi U31 904 76 from w329.x _ _ rfl).trans ( (show Xi U31 904 76 = Xi U30 904 76 from by rw [eU31]; exact Xi_ne (by omega)).trans ((show Xi U30 904 76 = Xi T29 904 76 from by rw [eU30]; exact Xi_ne (by omega)))))))
  have w372 : Xi T35 904 81 = Xi T29 904 81 := (show Xi T35 904 81 = Xi T34 904 81 from w368.x _ _ rfl).trans ( (show Xi T34 904 81 = Xi T33 904 81 from w354.x _ _ rfl).trans ( (show Xi T33 904 81 = Xi T32 904 81 from w343.x _ _ rfl).trans ( (show Xi T32 904 81 = Xi U31 904 81 from w329.x _ _ rfl).trans ( (show Xi U31 904 81 = Xi U30 904 81 from by rw [eU31]; exact Xi_ne (by omega)).trans ((show Xi U30 904 81 = Xi T29 904 81 from by rw [eU30]; exact Xi_ne (by omega)))))))
  have w373 : Xi T35 904 93 = Xi T29 904 93 := (show Xi T35 904 93 = Xi T34 904 93 from w368.x _ _ rfl).trans ( (show Xi T34 904 93 = Xi T33 904 93 from w354.x _ _ rfl).trans ( (show Xi T33 904 93 = Xi T32 904 93 from w343.x _ _ rfl).trans ( (show Xi T32 904 93 = Xi U31 904 93 from w329.x _ _ rfl).trans ( (show Xi U31 904 93 = Xi U30 904 93 from by rw [eU31]; exact Xi_ne (by omega)).trans ((show Xi U30 904 93 = Xi T29 904 93 from by rw [eU30]; exact Xi_ne (by omega)))))))
  exact Pl_weak (C350 T35 hHT35 hFT35  (by first | (have t := gp115; rw [gSe_1 (by omega)]; exact gp115) | (have t := gp134; rw [gSe_2 (by omega)]; exact gp134) | (have t := gp204; exact (gSe_r (by omega)).trans gp204) | (have t := gp251; rw [gSe_7 (by omega) (by omega)]; unfold gO7; rw [cu_go gp251 (by omega) (by omega), gp255, gp262, gp268, gp272, gp279]) | (have t := gp326; rw [gSe_8 (by omega) (by omega)]; unfold gO8; rw [cu_go gp326 (by omega) (by omega), gp330, gp335, gp339]) | (have t := gp347; rw [gSe_c a346.o n346.o o346.o]; exact gp347)) (by first | exact JR.i (by first | assumption | exact (by assumption : JR T35 _ _)) | exact (by assumption : INR T35 fs ns)) (by first | exact JR.i (by first | assumption | exact (by assumption : JR T35 _ _)) | exact (by assumption : INR T35 fs ns)) (by unfold Hid; omega) (by first | (have t := gp347; exact sor_c a346.o n346.o o346.o) | (unfold SOR; omega)) (fun b c e => by first | (have t := gp347; exact JR.ks (j347 (by omega) (by omega)) b e) | exact JR.ks (by first | assumption | exact (by assumption : JR T35 _ _)) b e) (by first | (have t := gp347; exact (fun b c => ⟨cr347 b, c9347 b, co347⟩)) | exact (fun b c => absurd c (fun q => by unfold CMN at q; omega))) (by first | (have t := gp115; exact (fun _ b => by omega)) | (have t := gp347; exact (fun q => absurd q a346.o.1)) | exact (fun q => by exfalso; omega)) (by first | (have t := gp347; exact (fun b c => on347 b)) | exact (fun b c => absurd c (fun q => by unfold CMN at q; omega))) (by first | (have t := gp134; exact (fun q => absurd (by omega) q)) | (have t := gp204; exact (fun _ q1 q2 q3 q4 => by exfalso; omega)) | exact (fun _ _ _ _ _ => by omega)) (fun b c e => by have t := ((by first | (have t := gp347; exact j347 (by omega) (by omega)) | assumption | exact (by assumption : JR T35 _ _) : JR T35 fs ns) b).2 e; have u := t.1; rw [FRR hFT35 rfl] at u; exact u)) (by omega) (And.intro rfl (True.intro))
set_option maxRecDepth 100000 in
theorem c346_mo_sentence__p {S : sS} (hH : RI S) (fs : Nat) (ns : Nat) (hvl : VLR S fs ns) (h0 : Xi S 904 8 = fs) (d : Nat) (fu : Nat) : ∀  (T36 : sS) (_ : RI T36) (_ : FR md_mo_sentence__p S T36), (Xi T36 904 8 = Xi S 904 8) → (Xi T36 904 65 = 0) → (Xi T36 904 69 = 0) → (Xi T36 904 93 = 0) → (Xi T36 904 75 = 0) → (Xi T36 904 76 = 0) → (JR T36 fs ns) → (Hid (tR S fs ns 0 ≠ 33 ∧ tR S fs ns 0 ≠ 35 ∧ tR S fs ns 0 ≠ 38 ∧ tR S fs ns 0 ≠ 40 ∧ tR S fs ns 0 ≠ 39 ∧ tR S fs ns 0 ≠ 41)) → (Hid (¬ (tR S fs ns 0 = 2 ∧ tR S fs ns 1 = 25))) → (Hid (¬ (tR S fs ns 0 = 2 ∧ tR S fs ns 1 = 19))) → (tR S fs ns 0 ≠ 102) → Pl fu lay0 (d + 9) m_mo_sentence 346 [(0, .ref 904)] [] T36 (Q_mo_sentence__p S fs ns) := by
  have C350 := c350_mo_sentence__p hH fs ns hvl h0 d  fu
  have hF : FR md_mo_sentence__p S S := FR.rf
  have w1 : -2147483648 ≤ Xi S 904 65 ∧ Xi S 904 65 ≤ 2147483647 := Xi_rgI
  have w2 : -2147483648 ≤ Xi S 904 66 ∧ Xi S 904 66 ≤ 2147483647 := Xi_rgI
  have w3 : -2147483648 ≤ Xi S 904 69 ∧ Xi S 904 69 ≤ 2147483647 := Xi_rgI
  have w4 : -2147483648 ≤ Xi S 904 70 ∧ Xi S 904 70 ≤ 2147483647 := Xi_rgI
  have w5 : -2147483648 ≤ Xi S 904 75 ∧ Xi S 904 75 ≤ 2147483647 := Xi_rgI
  have w6 : -2147483648 ≤ Xi S 904 76 ∧ Xi S 904 76 ≤ 2147483647 := Xi_rgI
  have w7 : -2147483648 ≤ Xi S 904 8 ∧ Xi S 904 8 ≤ 2147483647 := Xi_rgI
  have w8 : -2147483648 ≤ Xi S 904 81 ∧ Xi S 904 81 ≤ 2147483647 := Xi_rgI
  have w9 : -2147483648 ≤ Xi S 904 93 ∧ Xi S 904 93 ≤ 2147483647 := Xi_rgI
  have hbd := hvl.2.2.2
  intro T36 hHT36 hFT36 w374 w375 w376 w377 w378 w379 J346 a346 n346 o346 w346
  have w380 : -2147483648 ≤ Xi T36 904 65 ∧ Xi T36 904 65 ≤ 2147483647 := Xi_rgI
  have w381 : -2147483648 ≤ Xi T36 904 66 ∧ Xi T36 904 66 ≤ 2147483647 := Xi_rgI
  have w382 : -2147483648 ≤ Xi T36 904 69 ∧ Xi T36 904 69 ≤ 2147483647 := Xi_rgI
  have w383 : -2147483648 ≤ Xi T36 904 70 ∧ Xi T36 904 70 ≤ 2147483647 := Xi_rgI
  have w384 : -2147483648 ≤ Xi T36 904 75 ∧ Xi T36 904 75 ≤ 2147483647 := Xi_rgI
  have w385 : -2147483648 ≤ Xi T36 904 76 ∧ Xi T36 904 76 ≤ 2147483647 := Xi_rgI
  have w386 : -2147483648 ≤ Xi T36 904 8 ∧ Xi T36 904 8 ≤ 2147483647 := Xi_rgI
  have w387 : -2147483648 ≤ Xi T36 904 81 ∧ Xi T36 904 81 ≤ 2147483647 := Xi_rgI
  have w388 : -2147483648 ≤ Xi T36 904 93 ∧ Xi T36 904 93 ≤ 2147483647 := Xi_rgI
  refine y_aload_n rfl rfl ?_
  refine y_callV rfl rfl rfl (t_mo_common__p hHT36 fs ns (by first | assumption | exact (VLR_FR hFT36 rfl (by assumption : VLR S _ _))) (by first | assumption | exact (by assumption : JR T36 _ _)) (by first | assumption | omega) (by first | assumption | omega) (by omega) (by omega) (by omega) _) ?_
  rintro _ T37 ⟨hHT37, w395, rfl, w389, w390, w391, j347, cr347_, c9347_, co347_, on347_, w392, w393⟩
  have hFT37 : FR md_mo_sentence__p S T37 := FR.tr hFT36 w395 rfl
  show Pl _ _ _ _ _ _ [] _ _
  have : Xi T37 904 65 = 0 → (fs : Int) ≤ Xi T37 904 8 ∧ Xi T37 904 8 ≤ fs + ns := (by assumption : INR T37 fs ns)
  have gp347 := w389
  try rw [FRR hFT36 rfl] at gp347
  clear w389
  have cr347 := cr347_
  have c9347 := c9347_
  have co347 := co347_
  rw [FRR hFT36 rfl] at cr347
  rw [FRR hFT36 rfl] at c9347
  rw [FRR hFT36 rfl] at co347
  clear cr347_ c9347_ co347_
  have on347 := on347_
  rw [FRR hFT36 rfl] at on347
  clear on347_
  have w396 : Xi T37 904 81 = Xi T36 904 81 := (show Xi T37 904 81 = Xi T36 904 81 from w395.x _ _ rfl)
  have w397 : Xi T37 904 93 = Xi T36 904 93 := (show Xi T37 904 93 = Xi T36 904 93 from w395.x _ _ rfl)
  exact Pl_weak (C350 T37 hHT37 hFT37  (by first | (have t := gp115; rw [gSe_1 (by omega)]; exact gp115) | (have t := gp134; rw [gSe_2 (by omega)]; exact gp134) | (have t := gp204; exact (gSe_r (by omega)).trans gp204) | (have t := gp251; rw [gSe_7 (by omega) (by omega)]; unfold gO7; rw [cu_go gp251 (by omega) (by omega), gp255, gp262, gp268, gp272, gp279]) | (have t := gp326; rw [gSe_8 (by omega) (by omega)]; unfold gO8; rw [cu_go gp326 (by omega) (by omega), gp330, gp335, gp339]) | (have t := gp347; rw [gSe_c a346.o n346.o o346.o]; exact gp347)) (by first | exact JR.i (by first | assumption | exact (by assumption : JR T37 _ _)) | exact (by assumption : INR T37 fs ns)) (by first | exact JR.i (by first | assumption | exact (by assumption : JR T37 _ _)) | exact (by assumption : INR T37 fs ns)) (by unfold Hid; omega) (by first | (have t := gp347; exact sor_c a346.o n346.o o346.o) | (unfold SOR; omega)) (fun b c e => by first | (have t := gp347; exact JR.ks (j347 (by omega) (by omega)) b e) | exact JR.ks (by first | assumption | exact (by assumption : JR T37 _ _)) b e) (by first | (have t := gp347; exact (fun b c => ⟨cr347 b, c9347 b, co347⟩)) | exact (fun b c => absurd c (fun q => by unfold CMN at q; omega))) (by first | (have t := gp115; exact (fun _ b => by omega)) | (have t := gp347; exact (fun q => absurd q a346.o.1)) | exact (fun q => by exfalso; omega)) (by first | (have t := gp347; exact (fun b c => on347 b)) | exact (fun b c => absurd c (fun q => by unfold CMN at q; omega))) (by first | (have t := gp134; exact (fun q => absurd (by omega) q)) | (have t := gp204; exact (fun _ q1 q2 q3 q4 => by exfalso; omega)) | exact (fun _ _ _ _ _ => by omega)) (fun b c e => by have t := ((by first | (have t := gp347; exact j347 (by omega) (by omega)) | assumption | exact (by assumption : JR T37 _ _) : JR T37 fs ns) b).2 e; have u := t.1; rw [FRR hFT37 rfl] at u; exact u)) (by omega) (And.intro rfl (True.intro))
set_option maxRecDepth 100000 in
theorem c285_mo_sentence__p {S : sS} (hH : RI S) (fs : Nat) (ns : Nat) (hvl : VLR S fs ns) (h0 : Xi S 904 8 = fs) (d : Nat) (fu : Nat) : ∀  (T38 : sS) (_ : RI T38) (_ : FR md_mo_sentence__p S T38) (v1 : Int), (-2147483648 ≤ v1 ∧ v1 ≤ 2147483647) → (Xi T38 904 8 = Xi S 904 8) → (Xi T38 904 65 = 0) → (Xi T38 904 69 = 0) → (Xi T38 904 93 = 0) → (Xi T38 904 75 = 0) → (Xi T38 904 76 = 0) → (JR T38 fs ns) → (tR S fs ns 0 = un7 v1 ∧ v1 = tr7 (un7 v1)) → ((100 ≤ v1 → un7 v1 = v1 - 100) ∧ (v1 < 100 → 100 ≤ un7 v1)) → (v1 ≠ 5 ∧ tR S fs ns 0 ≠ 102) → (tR S fs ns 0 ≠ 33 ∧ tR S fs ns 0 ≠ 35 ∧ tR S fs ns 0 ≠ 38 ∧ tR S fs ns 0 ≠ 40 ∧ tR S fs ns 0 ≠ 39 ∧ tR S fs ns 0 ≠ 41) → (¬ (tR S fs ns 0 = 2 ∧ tR S fs ns 1 = 25)) → Pl fu lay0 (d + 9) m_mo_sentence 285 [(0, .ref 904), (1, iv v1)] [] T38 (Q_mo_sentence__p S fs ns) := by
  have C307 := c307_mo_sentence__p hH fs ns hvl h0 d  fu
  have C346 := c346_mo_sentence__p hH fs ns hvl h0 d  fu
  have hF : FR md_mo_sentence__p S S := FR.rf
  have w1 : -2147483648 ≤ Xi S 904 65 ∧ Xi S 904 65 ≤ 2147483647 := Xi_rgI
  have w2 : -2147483648 ≤ Xi S 904 66 ∧ Xi S 904 66 ≤ 2147483647 := Xi_rgI
  have w3 : -2147483648 ≤ Xi S 904 69 ∧ Xi S 904 69 ≤ 2147483647 := Xi_rgI
  have w4 : -2147483648 ≤ Xi S 904 70 ∧ Xi S 904 70 ≤ 2147483647 := Xi_rgI
  have w5 : -2147483648 ≤ Xi S 904 75 ∧ Xi S 904 75 ≤ 2147483647 := Xi_rgI
  have w6 : -2147483648 ≤ Xi S 904 76 ∧ Xi S 904 76 ≤ 2147483647 := Xi_rgI
  have w7 : -2147483648 ≤ Xi S 904 8 ∧ Xi S 904 8 ≤ 2147483647 := Xi_rgI
  have w8 : -2147483648 ≤ Xi S 904 81 ∧ Xi S 904 81 ≤ 2147483647 := Xi_rgI
  have w9 : -2147483648 ≤ Xi S 904 93 ∧ Xi S 904 93 ≤ 2147483647 := Xi_rgI
  have hbd := hvl.2.2.2
  intro T38 hHT38 hFT38 v1 w398 w399 w400 w401 w402 w403 w404 J285 k285 u285 w285 a285 n285
  have w405 : -2147483648 ≤ Xi T38 904 65 ∧ Xi T38 904 65 ≤ 2147483647 := Xi_rgI
  have w406 : -2147483648 ≤ Xi T38 904 66 ∧ Xi T38 904 66 ≤ 2147483647 := Xi_rgI
  have w407 : -2147483648 ≤ Xi T38 904 69 ∧ Xi T38 904 69 ≤ 2147483647 := Xi_rgI
  have w408 : -2147483648 ≤ Xi T38 904 70 ∧ Xi T38 904 70 ≤ 2147483647 := Xi_rgI
  have w409 : -2147483648 ≤ Xi T38 904 75 ∧ Xi T38 904 75 ≤ 2147483647 := Xi_rgI
  have w410 : -2147483648 ≤ Xi T38 904 76 ∧ Xi T38 904 76 ≤ 2147483647 := Xi_rgI
  have w411 : -2147483648 ≤ Xi T38 904 8 ∧ Xi T38 904 8 ≤ 2147483647 := Xi_rgI
  have w412 : -2147483648 ≤ Xi T38 904 81 ∧ Xi T38 904 81 ≤ 2147483647 := Xi_rgI
  have w413 : -2147483648 ≤ Xi T38 904 93 ∧ Xi T38 904 93 ≤ 2147483647 := Xi_rgI
  refine y_iload_n rfl rfl ?_
  refine y_bipush rfl rfl ?_
  refine y_icmp_ne rfl rfl (by unfold rg; omega) (by unfold rg; omega) (fun w414 => ?_) (fun w415 => ?_)
  · exact Pl_weak (C346 T38 hHT38 hFT38  (by omega) (by omega) (by omega) (by omega) (by omega) (by omega) (by first | assumption | exact (by assumption : JR T38 _ _)) (a285) (n285) (by unfold Hid; omega) (by omega)) (by omega) (And.intro rfl (True.intro))
  · refine y_aload_n rfl rfl ?_
    refine y_gfr rfl rfl rfl rfl rfl (hHT38.r 904 4 907 rfl) ?_
    refine y_aload_n rfl rfl ?_
    refine y_gfi rfl rfl rfl rfl rfl ?_
    refine y_iconst rfl ?_
    refine y_iadd rfl ?_
    refine y_ialoadP (n := 5002) rfl rfl (by unfold rg; omega) (fun w416 w417 => ?_)
    have w418 : -2147483648 ≤ (Xi T38 907 ((((Xi T38 904 8) + 1)).toNat)) ∧ (Xi T38 907 ((((Xi T38 904 8) + 1)).toNat)) ≤ 2147483647 := Xi_rgI
    have v301_ : Xi S 904 8 + 1 ≤ fs + ns := in_u2 hvl (by omega) (by omega) (by rw [show Xi S 904 8 - (fs : Int) = 0 by omega]; omega) (by rw [show Xi S 904 8 - (fs : Int) = 0 by omega]; omega)
    have T301 : ((Xi T38 907 ((((Xi T38 904 8) + 1)).toNat)) = 119 → tR S fs ns 1 = 19) ∧ ((Xi T38 907 ((((Xi T38 904 8) + 1)).toNat)) ≠ 119 → tR S fs ns 1 ≠ 19) := by have t := tR_k (k := 119) (z := (Xi T38 907 ((((Xi T38 904 8) + 1)).toNat))) (a := Xi T38 904 8 + 1) hvl (by omega) (by omega) rfl (by first | exact ((hFT38.cx 907 rfl _).1).symm | rfl); rw [show un7 119 = 19 from rfl, show Xi T38 904 8 + 1 - (fs : Int) = 1 by omega] at t; exact t
    refine y_bipush rfl rfl ?_
    refine y_icmp_ne rfl rfl (by unfold rg; omega) (by unfold rg; omega) (fun w419 => ?_) (fun w420 => ?_)
    · exact Pl_weak (C346 T38 hHT38 hFT38  (by omega) (by omega) (by omega) (by omega) (by omega) (by omega) (by first | assumption | exact (by assumption : JR T38 _ _)) (a285) (n285) (by unfold Hid; omega) (by omega)) (by omega) (And.intro rfl (True.intro))
    · exact Pl_weak (C307 T38 hHT38 hFT38  (by omega) (by omega) (by omega) (by omega) (by omega) (by omega) (by first | assumption | exact (by assumption : JR T38 _ _)) (by omega)) (by omega) (And.intro rfl (True.intro))
set_option maxRecDepth 100000 in
theorem c102_mo_sentence__p {S : sS} (hH : RI S) (fs : Nat) (ns : Nat) (hvl : VLR S fs ns) (h0 : Xi S 904 8 = fs) (d : Nat) (fu : Nat) : ∀  (T39 : sS) (_ : RI T39) (_ : FR md_mo_sentence__p S T39) (v1 : Int), (-2147483648 ≤ v1 ∧ v1 ≤ 2147483647) → (Xi T39 904 8 = Xi S 904 8) → (Xi T39 904 65 = 0) → (Xi T39 904 69 = 0) → (Xi T39 904 93 = 0) → (Xi T39 904 75 = 0) → (Xi T39 904 76 = 0) → (JR T39 fs ns) → (tR S fs ns 0 = un7 v1 ∧ v1 = tr7 (un7 v1)) → ((100 ≤ v1 → un7 v1 = v1 - 100) ∧ (v1 < 100 → 100 ≤ un7 v1)) → (v1 ≠ 5 ∧ tR S fs ns 0 ≠ 102) → Pl fu lay0 (d + 9) m_mo_sentence 102 [(0, .ref 904), (1, iv v1)] [] T39 (Q_mo_sentence__p S fs ns) := by
  have C109 := c109_mo_sentence__p hH fs ns hvl h0 d  fu
  have C128 := c128_mo_sentence__p hH fs ns hvl h0 d  fu
  have C168 := c168_mo_sentence__p hH fs ns hvl h0 d  fu
  have C232 := c232_mo_sentence__p hH fs ns hvl h0 d  fu
  have C285 := c285_mo_sentence__p hH fs ns hvl h0 d  fu
  have hF : FR md_mo_sentence__p S S := FR.rf
  have w1 : -2147483648 ≤ Xi S 904 65 ∧ Xi S 904 65 ≤ 2147483647 := Xi_rgI
  have w2 : -2147483648 ≤ Xi S 904 66 ∧ Xi S 904 66 ≤ 2147483647 := Xi_rgI
  have w3 : -2147483648 ≤ Xi S 904 69 ∧ Xi S 904 69 ≤ 2147483647 := Xi_rgI
  have w4 : -2147483648 ≤ Xi S 904 70 ∧ Xi S 904 70 ≤ 2147483647 := Xi_rgI
  have w5 : -2147483648 ≤ Xi S 904 75 ∧ Xi S 904 75 ≤ 2147483647 := Xi_rgI
  have w6 : -2147483648 ≤ Xi S 904 76 ∧ Xi S 904 76 ≤ 2147483647 := Xi_rgI
  have w7 : -2147483648 ≤ Xi S 904 8 ∧ Xi S 904 8 ≤ 2147483647 := Xi_rgI
  have w8 : -2147483648 ≤ Xi S 904 81 ∧ Xi S 904 81 ≤ 2147483647 := Xi_rgI
  have w9 : -2147483648 ≤ Xi S 904 93 ∧ Xi S 904 93 ≤ 2147483647 := Xi_rgI
  have hbd := hvl.2.2.2
  intro T39 hHT39 hFT39 v1 w421 w422 w423 w424 w425 w426 w427 J102 k102 u102 w102
  have w428 : -2147483648 ≤ Xi T39 904 65 ∧ Xi T39 904 65 ≤ 2147483647 := Xi_rgI
  have w429 : -2147483648 ≤ Xi T39 904 66 ∧ Xi T39 904 66 ≤ 2147483647 := Xi_rgI
  have w430 : -2147483648 ≤ Xi T39 904 69 ∧ Xi T39 904 69 ≤ 2147483647 := Xi_rgI
  have w431 : -2147483648 ≤ Xi T39 904 70 ∧ Xi T39 904 70 ≤ 2147483647 := Xi_rgI
  have w432 : -2147483648 ≤ Xi T39 904 75 ∧ Xi T39 904 75 ≤ 2147483647 := Xi_rgI
  have w433 : -2147483648 ≤ Xi T39 904 76 ∧ Xi T39 904 76 ≤ 2147483647 := Xi_rgI
  have w434 : -2147483648 ≤ Xi T39 904 8 ∧ Xi T39 904 8 ≤ 2147483647 := Xi_rgI
  have w435 : -2147483648 ≤ Xi T39 904 81 ∧ Xi T39 904 81 ≤ 2147483647 := Xi_rgI
  have w436 : -2147483648 ≤ Xi T39 904 93 ∧ Xi T39 904 93 ≤ 2147483647 := Xi_rgI
  refine y_iload_n rfl rfl ?_
  refine y_sipush rfl rfl ?_
  refine y_icmp_ne rfl rfl (by unfold rg; omega) (by unfold rg; omega) (fun w437 => ?_) (fun w438 => ?_)
  · refine y_iload_n rfl rfl ?_
    refine y_sipush rfl rfl ?_
    refine y_icmp_ne rfl rfl (by unfold rg; omega) (by unfold rg; omega) (fun w439 => ?_) (fun w440 => ?_)
    · refine y_iload_n rfl rfl ?_
      refine y_sipush rfl rfl ?_
      refine y_icmp_eq rfl rfl (by unfold rg; omega) (by unfold rg; omega) (fun w441 => ?_) (fun w442 => ?_)
      · exact Pl_weak (C168 T39 hHT39 hFT39 (v1) (by omega) (by omega) (by omega) (by omega) (by omega) (by omega) (by omega) (by first | assumption | exact (by assumption : JR T39 _ _)) (by omega)) (by omega) (And.intro rfl (And.intro rfl (True.intro)))
      · refine y_iload_n rfl rfl ?_
        refine y_sipush rfl rfl ?_
        refine y_icmp_eq rfl rfl (by unfold rg; omega) (by unfold rg; omega) (fun w443 => ?_) (fun w444 => ?_)
        · exact Pl_weak (C168 T39 hHT39 hFT39 (v1) (by omega) (by omega) (by omega) (by omega) (by omega) (by omega) (by omega) (by first | assumption | exact (by assumption : JR T39 _ _)) (by omega)) (by omega) (And.intro rfl (And.intro rfl (True.intro)))
        · refine y_iload_n rfl rfl ?_
          refine y_sipush rfl rfl ?_
          refine y_icmp_eq rfl rfl (by unfold rg; omega) (by unfold rg; omega) (fun w445 => ?_) (fun w446 => ?_)
          · exact Pl_weak (C168 T39 hHT39 hFT39 (v1) (by omega) (by omega) (by omega) (by omega) (by omega) (by omega) (by omega) (by first | assumption | exact (by assumption : JR T39 _ _)) (by omega)) (by omega) (And.intro rfl (And.intro rfl (True.intro)))
          · refine y_iload_n rfl rfl ?_
            refine y_sipush rfl rfl ?_
            refine y_icmp_ne rfl rfl (by unfold rg; omega) (by unfold rg; omega) (fun w447 => ?_) (fun w448 => ?_)
            · refine y_iload_n rfl rfl ?_
              refine y_bipush rfl rfl ?_
              refine y_icmp_ne rfl rfl (by unfold rg; omega) (by unfold rg; omega) (fun w449 => ?_) (fun w450 => ?_)
              · exact Pl_weak (C285 T39 hHT39 hFT39 (v1) (by omega) (by omega) (by omega) (by omega) (by omega) (by omega) (by omega) (by first | assumption | exact (by assumption : JR T39 _ _)) (by omega) (un_ab _) (by omega) (by omega) (by omega)) (by omega) (And.intro rfl (And.intro rfl (True.intro)))
              · refine y_aload_n rfl rfl ?_
                refine y_gfr rfl rfl rfl rfl rfl (hHT39.r 904 4 907 rfl) ?_
                refine y_aload_n rfl rfl ?_
                refine y_gfi rfl rfl rfl rfl rfl ?_
                refine y_iconst rfl ?_
                refine y_iadd rfl ?_
                refine y_ialoadP (n := 5002) rfl rfl (by unfold rg; omega) (fun w451 w452 => ?_)
                have w453 : -2147483648 ≤ (Xi T39 907 ((((Xi T39 904 8) + 1)).toNat)) ∧ (Xi T39 907 ((((Xi T39 904 8) + 1)).toNat)) ≤ 2147483647 := Xi_rgI
                have v226_ : Xi S 904 8 + 1 ≤ fs + ns := in_u2 hvl (by omega) (by omega) (by rw [show Xi S 904 8 - (fs : Int) = 0 by omega]; omega) (by rw [show Xi S 904 8 - (fs : Int) = 0 by omega]; omega)
                have T226 : ((Xi T39 907 ((((Xi T39 904 8) + 1)).toNat)) = 125 → tR S fs ns 1 = 25) ∧ ((Xi T39 907 ((((Xi T39 904 8) + 1)).toNat)) ≠ 125 → tR S fs ns 1 ≠ 25) := by have t := tR_k (k := 125) (z := (Xi T39 907 ((((Xi T39 904 8) + 1)).toNat))) (a := Xi T39 904 8 + 1) hvl (by omega) (by omega) rfl (by first | exact ((hFT39.cx 907 rfl _).1).symm | rfl); rw [show un7 125 = 25 from rfl, show Xi T39 904 8 + 1 - (fs : Int) = 1 by omega] at t; exact t
                refine y_bipush rfl rfl ?_
                refine y_icmp_ne rfl rfl (by unfold rg; omega) (by unfold rg; omega) (fun w454 => ?_) (fun w455 => ?_)
                · exact Pl_weak (C285 T39 hHT39 hFT39 (v1) (by omega) (by omega) (by omega) (by omega) (by omega) (by omega) (by omega) (by first | assumption | exact (by assumption : JR T39 _ _)) (by omega) (un_ab _) (by omega) (by omega) (by omega)) (by omega) (And.intro rfl (And.intro rfl (True.intro)))
                · exact Pl_weak (C232 T39 hHT39 hFT39  (by omega) (by omega) (by omega) (by omega) (by omega) (by omega) (by first | assumption | exact (by assumption : JR T39 _ _)) (by omega)) (by omega) (And.intro rfl (True.intro))
            · exact Pl_weak (C168 T39 hHT39 hFT39 (v1) (by omega) (by omega) (by omega) (by omega) (by omega) (by omega) (by omega) (by first | assumption | exact (by assumption : JR T39 _ _)) (by omega)) (by omega) (And.intro rfl (And.intro rfl (True.intro)))
    · exact Pl_weak (C128 T39 hHT39 hFT39  (by omega) (by omega) (by omega) (by omega) (by omega) (by omega) (by first | assumption | exact (by assumption : JR T39 _ _)) (by omega)) (by omega) (And.intro rfl (True.intro))
  · exact Pl_weak (C109 T39 hHT39 hFT39  (by omega) (by omega) (by omega) (by omega) (by omega) (by omega) (by first | assumption | exact (by assumption : JR T39 _ _)) (by omega)) (by omega) (And.intro rfl (True.intro))
set_option maxRecDepth 100000 in
theorem c35_mo_sentence__p {S : sS} (hH : RI S) (fs : Nat) (ns : Nat) (hvl : VLR S fs ns) (h0 : Xi S 904 8 = fs) (d : Nat) (fu : Nat) : ∀  (T40 : sS) (_ : RI T40) (_ : FR md_mo_sentence__p S T40), (Xi T40 904 8 = Xi S 904 8) → (Xi T40 904 65 = 0) → (Xi T40 904 69 = 0) → (Xi T40 904 93 = 0) → (Xi T40 904 75 = 0) → (Xi T40 904 76 = 0) → (JR T40 fs ns) → Pl fu lay0 (d + 9) m_mo_sentence 35 [(0, .ref 904)] [] T40 (Q_mo_sentence__p S fs ns) := by
  have C50 := c50_mo_sentence__p hH fs ns hvl h0 d  fu
  have C102 := c102_mo_sentence__p hH fs ns hvl h0 d  fu
  have hF : FR md_mo_sentence__p S S := FR.rf
  have w1 : -2147483648 ≤ Xi S 904 65 ∧ Xi S 904 65 ≤ 2147483647 := Xi_rgI
  have w2 : -2147483648 ≤ Xi S 904 66 ∧ Xi S 904 66 ≤ 2147483647 := Xi_rgI
  have w3 : -2147483648 ≤ Xi S 904 69 ∧ Xi S 904 69 ≤ 2147483647 := Xi_rgI
  have w4 : -2147483648 ≤ Xi S 904 70 ∧ Xi S 904 70 ≤ 2147483647 := Xi_rgI
  have w5 : -2147483648 ≤ Xi S 904 75 ∧ Xi S 904 75 ≤ 2147483647 := Xi_rgI
  have w6 : -2147483648 ≤ Xi S 904 76 ∧ Xi S 904 76 ≤ 2147483647 := Xi_rgI
  have w7 : -2147483648 ≤ Xi S 904 8 ∧ Xi S 904 8 ≤ 2147483647 := Xi_rgI
  have w8 : -2147483648 ≤ Xi S 904 81 ∧ Xi S 904 81 ≤ 2147483647 := Xi_rgI
  have w9 : -2147483648 ≤ Xi S 904 93 ∧ Xi S 904 93 ≤ 2147483647 := Xi_rgI
  have hbd := hvl.2.2.2
  intro T40 hHT40 hFT40 w456 w457 w458 w459 w460 w461 J35
  have w462 : -2147483648 ≤ Xi T40 904 65 ∧ Xi T40 904 65 ≤ 2147483647 := Xi_rgI
  have w463 : -2147483648 ≤ Xi T40 904 66 ∧ Xi T40 904 66 ≤ 2147483647 := Xi_rgI
  have w464 : -2147483648 ≤ Xi T40 904 69 ∧ Xi T40 904 69 ≤ 2147483647 := Xi_rgI
  have w465 : -2147483648 ≤ Xi T40 904 70 ∧ Xi T40 904 70 ≤ 2147483647 := Xi_rgI
  have w466 : -2147483648 ≤ Xi T40 904 75 ∧ Xi T40 904 75 ≤ 2147483647 := Xi_rgI
  have w467 : -2147483648 ≤ Xi T40 904 76 ∧ Xi T40 904 76 ≤ 2147483647 := Xi_rgI
  have w468 : -2147483648 ≤ Xi T40 904 8 ∧ Xi T40 904 8 ≤ 2147483647 := Xi_rgI
  have w469 : -2147483648 ≤ Xi T40 904 81 ∧ Xi T40 904 81 ≤ 2147483647 := Xi_rgI
  have w470 : -2147483648 ≤ Xi T40 904 93 ∧ Xi T40 904 93 ≤ 2147483647 := Xi_rgI
  refine y_aload_n rfl rfl ?_
  refine y_gfr rfl rfl rfl rfl rfl (hHT40.r 904 4 907 rfl) ?_
  refine y_aload_n rfl rfl ?_
  refine y_gfi rfl rfl rfl rfl rfl ?_
  refine y_ialoadP (n := 5002) rfl rfl (by unfold rg; omega) (fun w471 w472 => ?_)
  have w473 : -2147483648 ≤ (Xi T40 907 (((Xi T40 904 8)).toNat)) ∧ (Xi T40 907 (((Xi T40 904 8)).toNat)) ≤ 2147483647 := Xi_rgI
  have k43 : tR S fs ns 0 = un7 (Xi T40 907 (((Xi T40 904 8)).toNat)) ∧ (Xi T40 907 (((Xi T40 904 8)).toNat)) = tr7 (un7 (Xi T40 907 (((Xi T40 904 8)).toNat))) := by have t := tR_u (z := (Xi T40 907 (((Xi T40 904 8)).toNat))) (a := Xi T40 904 8) hvl (by omega) (by omega) (by first | exact ((hFT40.cx 907 rfl _).1).symm | rfl); rw [show Xi T40 904 8 - (fs : Int) = 0 by omega] at t; exact t
  have u43 := un_ab ((Xi T40 907 (((Xi T40 904 8)).toNat)))
  have w43 := un_5 ((Xi T40 907 (((Xi T40 904 8)).toNat)))
  refine y_istore_n rfl rfl rfl ?_
  refine y_iload_n rfl rfl ?_
  refine y_iconst rfl ?_
  refine y_icmp_ne rfl rfl (by unfold rg; omega) (by unfold rg; omega) (fun w474 => ?_) (fun w475 => ?_)
  · exact Pl_weak (C102 T40 hHT40 hFT40 ((Xi T40 907 (((Xi T40 904 8)).toNat))) (by omega) (by omega) (by omega) (by omega) (by omega) (by omega) (by omega) (by first | assumption | exact (by assumption : JR T40 _ _)) (by omega) (un_ab _) (by omega)) (by omega) (And.intro rfl (And.intro rfl (True.intro)))
  · exact Pl_weak (C50 T40 hHT40 hFT40  (by omega) (by omega) (by omega) (by omega) (by omega) (by omega) (by first | assumption | exact (by assumption : JR T40 _ _)) (by omega)) (by omega) (And.intro rfl (True.intro))
set_option maxRecDepth 100000 in
theorem t_mo_sentence__p {S : sS} (hH : RI S) (fs : Nat) (ns : Nat) (hvl : VLR S fs ns) (h0 : Xi S 904 8 = fs) (d : Nat) : Mp lay0 (d + 10) m_mo_sentence [.ref 904] S (Q_mo_sentence__p S fs ns) := by
  refine Mp_R rfl rfl (fun fu => ?_)
  have C50 := c50_mo_sentence__p hH fs ns hvl h0 d  fu
  have C350 := c350_mo_sentence__p hH fs ns hvl h0 d  fu
  have C109 := c109_mo_sentence__p hH fs ns hvl h0 d  fu
  have C128 := c128_mo_sentence__p hH fs ns hvl h0 d  fu
  have C168 := c168_mo_sentence__p hH fs ns hvl h0 d  fu
  have C232 := c232_mo_sentence__p hH fs ns hvl h0 d  fu
  have C307 := c307_mo_sentence__p hH fs ns hvl h0 d  fu
  have C346 := c346_mo_sentence__p hH fs ns hvl h0 d  fu
  have C285 := c285_mo_sentence__p hH fs ns hvl h0 d  fu
  have C102 := c102_mo_sentence__p hH fs ns hvl h0 d  fu
  have C35 := c35_mo_sentence__p hH fs ns hvl h0 d  fu
  have hF : FR md_mo_sentence__p S S := FR.rf
  have w1 : -2147483648 ≤ Xi S 904 65 ∧ Xi S 904 65 ≤ 2147483647 := Xi_rgI
  have w2 : -2147483648 ≤ Xi S 904 66 ∧ Xi S 904 66 ≤ 2147483647 := Xi_rgI
  have w3 : -2147483648 ≤ Xi S 904 69 ∧ Xi S 904 69 ≤ 2147483647 := Xi_rgI
  have w4 : -2147483648 ≤ Xi S 904 70 ∧ Xi S 904 70 ≤ 2147483647 := Xi_rgI
  have w5 : -2147483648 ≤ Xi S 904 75 ∧ Xi S 904 75 ≤ 2147483647 := Xi_rgI
  have w6 : -2147483648 ≤ Xi S 904 76 ∧ Xi S 904 76 ≤ 2147483647 := Xi_rgI
  have w7 : -2147483648 ≤ Xi S 904 8 ∧ Xi S 904 8 ≤ 2147483647 := Xi_rgI
  have w8 : -2147483648 ≤ Xi S 904 81 ∧ Xi S 904 81 ≤ 2147483647 := Xi_rgI
  have w9 : -2147483648 ≤ Xi S 904 93 ∧ Xi S 904 93 ≤ 2147483647 := Xi_rgI
  have hbd := hvl.2.2.2
  refine y_aload_n rfl rfl ?_
  refine y_iconst rfl ?_
  refine y_pfz rfl rfl rfl rfl (by omega) ?_
  obtain ⟨U41, eU41⟩ : ∃ T : sS, T = uI S 904 65 (Int32.ofInt 0) := ⟨_, rfl⟩
  rw [← eU41]
  have hHU41 : RI U41 := by rw [eU41]; exact RI_w hH
  have hFU41 : FR md_mo_sentence__p S U41 := by rw [eU41]; exact FR.wI hF (mdf_i (r := (904, 905, 65, 66)) (List.mem_of_getElem? (i := 1) rfl) (inR_i (by omega) (by omega) (by omega) (by omega)))
  have w476 : Xi U41 904 65 = 0 := by rw [eU41]; exact Xi_same (by unfold rg; omega)
  refine y_aload_n rfl rfl ?_
  refine y_iconst rfl ?_
  refine y_pfi rfl rfl rfl rfl ?_
  obtain ⟨U42, eU42⟩ : ∃ T : sS, T = uI U41 904 69 (Int32.ofInt 0) := ⟨_, rfl⟩
  rw [← eU42]
  have hHU42 : RI U42 := by rw [eU42]; exact RI_w hHU41
  have hFU42 : FR md_mo_sentence__p S U42 := by rw [eU42]; exact FR.wI hFU41 (mdf_i (r := (904, 905, 69, 70)) (List.mem_of_getElem? (i := 3) rfl) (inR_i (by omega) (by omega) (by omega) (by omega)))
  have w477 : Xi U42 904 69 = 0 := by rw [eU42]; exact Xi_same (by unfold rg; omega)
  refine y_aload_n rfl rfl ?_
  refine y_iconst rfl ?_
  refine y_pfi rfl rfl rfl rfl ?_
  obtain ⟨U43, eU43⟩ : ∃ T : sS, T = uI U42 904 93 (Int32.ofInt 0) := ⟨_, rfl⟩
  rw [← eU43]
  have hHU43 : RI U43 := by rw [eU43]; exact RI_w hHU42
  have hFU43 : FR md_mo_sentence__p S U43 := by rw [eU43]; exact FR.wI hFU42 (mdf_i (r := (904, 905, 93, 94)) (List.mem_of_getElem? (i := 16) rfl) (inR_i (by omega) (by omega) (by omega) (by omega)))
  have w478 : Xi U43 904 93 = 0 := by rw [eU43]; exact Xi_same (by unfold rg; omega)
  refine y_aload_n rfl rfl ?_
  refine y_iconst rfl ?_
  refine y_pfi rfl rfl rfl rfl ?_
  obtain ⟨U44, eU44⟩ : ∃ T : sS, T = uI U43 904 94 (Int32.ofInt 0) := ⟨_, rfl⟩
  rw [← eU44]
  have hHU44 : RI U44 := by rw [eU44]; exact RI_w hHU43
  have hFU44 : FR md_mo_sentence__p S U44 := by rw [eU44]; exact FR.wI hFU43 (mdf_i (r := (904, 905, 94, 95)) (List.mem_of_getElem? (i := 17) rfl) (inR_i (by omega) (by omega) (by omega) (by omega)))
  have w479 : Xi U44 904 94 = 0 := by rw [eU44]; exact Xi_same (by unfold rg; omega)
  refine y_aload_n rfl rfl ?_
  refine y_iconst rfl ?_
  refine y_pfi rfl rfl rfl rfl ?_
  obtain ⟨U45, eU45⟩ : ∃ T : sS, T = uI U44 904 98 (Int32.ofInt 0) := ⟨_, rfl⟩
  rw [← eU45]
  have hHU45 : RI U45 := by rw [eU45]; exact RI_w hHU44
  have hFU45 : FR md_mo_sentence__p S U45 := by rw [eU45]; exact FR.wI hFU44 (mdf_i (r := (904, 905, 98, 99)) (List.mem_of_getElem? (i := 18) rfl) (inR_i (by omega) (by omega) (by omega) (by omega)))
  have w480 : Xi U45 904 98 = 0 := by rw [eU45]; exact Xi_same (by unfold rg; omega)
  refine y_aload_n rfl rfl ?_
  refine y_iconst rfl ?_
  refine y_pfz rfl rfl rfl rfl (by omega) ?_
  obtain ⟨U46, eU46⟩ : ∃ T : sS, T = uI U45 904 75 (Int32.ofInt 0) := ⟨_, rfl⟩
  rw [← eU46]
  have hHU46 : RI U46 := by rw [eU46]; exact RI_w hHU45
  have hFU46 : FR md_mo_sentence__p S U46 := by rw [eU46]; exact FR.wI hFU45 (mdf_i (r := (904, 905, 75, 76)) (List.mem_of_getElem? (i := 9) rfl) (inR_i (by omega) (by omega) (by omega) (by omega)))
  have w481 : Xi U46 904 75 = 0 := by rw [eU46]; exact Xi_same (by unfold rg; omega)
  refine y_aload_n rfl rfl ?_
  refine y_iconst rfl ?_
  refine y_pfz rfl rfl rfl rfl (by omega) ?_
  obtain ⟨U47, eU47⟩ : ∃ T : sS, T = uI U46 904 76 (Int32.ofInt 0) := ⟨_, rfl⟩
  rw [← eU47]
  have hHU47 : RI U47 := by rw [eU47]; exact RI_w hHU46
  have hFU47 : FR md_mo_sentence__p S U47 := by rw [eU47]; exact FR.wI hFU46 (mdf_i (r := (904, 905, 76, 77)) (List.mem_of_getElem? (i := 10) rfl) (inR_i (by omega) (by omega) (by omega) (by omega)))
  have w482 : Xi U47 904 76 = 0 := by rw [eU47]; exact Xi_same (by unfold rg; omega)
  have w483 : Xi U47 904 65 = Xi U41 904 65 := (show Xi U47 904 65 = Xi U46 904 65 from by rw [eU47]; exact Xi_ne (by omega)).trans ( (show Xi U46 904 65 = Xi U45 904 65 from by rw [eU46]; exact Xi_ne (by omega)).trans ( (show Xi U45 904 65 = Xi U44 904 65 from by rw [eU45]; exact Xi_ne (by omega)).trans ( (show Xi U44 904 65 = Xi U43 904 65 from by rw [eU44]; exact Xi_ne (by omega)).trans ( (show Xi U43 904 65 = Xi U42 904 65 from by rw [eU43]; exact Xi_ne (by omega)).trans ((show Xi U42 904 65 = Xi U41 904 65 from by rw [eU42]; exact Xi_ne (by omega)))))))
  have w484 : Xi U47 904 66 = Xi S 904 66 := (show Xi U47 904 66 = Xi U46 904 66 from by rw [eU47]; exact Xi_ne (by omega)).trans ( (show Xi U46 904 66 = Xi U45 904 66 from by rw [eU46]; exact Xi_ne (by omega)).trans ( (show Xi U45 904 66 = Xi U44 904 66 from by rw [eU45]; exact Xi_ne (by omega)).trans ( (show Xi U44 904 66 = Xi U43 904 66 from by rw [eU44]; exact Xi_ne (by omega)).trans ( (show Xi U43 904 66 = Xi U42 904 66 from by rw [eU43]; exact Xi_ne (by omega)).trans ( (show Xi U42 904 66 = Xi U41 904 66 from by rw [eU42]; exact Xi_ne (by omega)).trans ((show Xi U41 904 66 = Xi S 904 66 from by rw [eU41]; exact Xi_ne (by omega))))))))
  have w485 : Xi U47 904 69 = Xi U42 904 69 := (show Xi U47 904 69 = Xi U46 904 69 from by rw [eU47]; exact Xi_ne (by omega)).trans ( (show Xi U46 904 69 = Xi U45 904 69 from by rw [eU46]; exact Xi_ne (by omega)).trans ( (show Xi U45 904 69 = Xi U44 904 69 from by rw [eU45]; exact Xi_ne (by omega)).trans ( (show Xi U44 904 69 = Xi U43 904 69 from by rw [eU44]; exact Xi_ne (by omega)).trans ((show Xi U43 904 69 = Xi U42 904 69 from by rw [eU43]; exact Xi_ne (by omega))))))
  have w486 : Xi U47 904 70 = Xi S 904 70 := (show Xi U47 904 70 = Xi U46 904 70 from by rw [eU47]; exact Xi_ne (by omega)).trans ( (show Xi U46 904 70 = Xi U45 904 70 from by rw [eU46]; exact Xi_ne (by omega)).trans ( (show Xi U45 904 70 = Xi U44 904 70 from by rw [eU45]; exact Xi_ne (by omega)).trans ( (show Xi U44 904 70 = Xi U43 904 70 from by rw [eU44]; exact Xi_ne (by omega)).trans ( (show Xi U43 904 70 = Xi U42 904 70 from by rw [eU43]; exact Xi_ne (by omega)).trans ( (show Xi U42 904 70 = Xi U41 904 70 from by rw [eU42]; exact Xi_ne (by omega)).trans ((show Xi U41 904 70 = Xi S 904 70 from by rw [eU41]; exact Xi_ne (by omega))))))))
  have w487 : Xi U47 904 75 = Xi U46 904 75 := (show Xi U47 904 75 = Xi U46 904 75 from by rw [eU47]; exact Xi_ne (by omega))
  have w488 : Xi U47 904 8 = Xi S 904 8 := (show Xi U47 904 8 = Xi U46 904 8 from by rw [eU47]; exact Xi_ne (by omega)).trans ( (show Xi U46 904 8 = Xi U45 904 8 from by rw [eU46]; exact Xi_ne (by omega)).trans ( (show Xi U45 904 8 = Xi U44 904 8 from by rw [eU45]; exact Xi_ne (by omega)).trans ( (show Xi U44 904 8 = Xi U43 904 8 from by rw [eU44]; exact Xi_ne (by omega)).trans ( (show Xi U43 904 8 = Xi U42 904 8 from by rw [eU43]; exact Xi_ne (by omega)).trans ( (show Xi U42 904 8 = Xi U41 904 8 from by rw [eU42]; exact Xi_ne (by omega)).trans ((show Xi U41 904 8 = Xi S 904 8 from by rw [eU41]; exact Xi_ne (by omega))))))))
  have w489 : Xi U47 904 81 = Xi S 904 81 := (show Xi U47 904 81 = Xi U46 904 81 from by rw [eU47]; exact Xi_ne (by omega)).trans ( (show Xi U46 904 81 = Xi U45 904 81 from by rw [eU46]; exact Xi_ne (by omega)).trans ( (show Xi U45 904 81 = Xi U44 904 81 from by rw [eU45]; exact Xi_ne (by omega)).trans ( (show Xi U44 904 81 = Xi U43 904 81 from by rw [eU44]; exact Xi_ne (by omega)).trans ( (show Xi U43 904 81 = Xi U42 904 81 from by rw [eU43]; exact Xi_ne (by omega)).trans ( (show Xi U42 904 81 = Xi U41 904 81 from by rw [eU42]; exact Xi_ne (by omega)).trans ((show Xi U41 904 81 = Xi S 904 81 from by rw [eU41]; exact Xi_ne (by omega))))))))
  have w490 : Xi U47 904 93 = Xi U43 904 93 := (show Xi U47 904 93 = Xi U46 904 93 from by rw [eU47]; exact Xi_ne (by omega)).trans ( (show Xi U46 904 93 = Xi U45 904 93 from by rw [eU46]; exact Xi_ne (by omega)).trans ( (show Xi U45 904 93 = Xi U44 904 93 from by rw [eU45]; exact Xi_ne (by omega)).trans ((show Xi U44 904 93 = Xi U43 904 93 from by rw [eU44]; exact Xi_ne (by omega)))))
  exact Pl_weak (C35 U47 hHU47 hFU47  (by omega) (by omega) (by omega) (by omega) (by omega) (by omega) (JR_0 (by omega) (by omega))) (by omega) (And.intro rfl (True.intro))
end
