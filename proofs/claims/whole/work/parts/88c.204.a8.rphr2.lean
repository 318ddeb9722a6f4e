section
/-! rules of the reference: one PHRASE, whatever its sort -/
def PKB (S : sS) (i : Int) : Prop := (0 ≤ Xi S 963 i.toNat ∧ Xi S 963 i.toNat ≤ 6) ∧ (0 ≤ Xi S 964 i.toNat ∧ Xi S 964 i.toNat ≤ 1699) ∧
  (Xi S 963 i.toNat = 0 → 0 ≤ Xi S 908 (xPS S i).toNat ∧ 0 ≤ Xi S 909 (xPS S i).toNat ∧ Xi S 908 (xPS S i).toNat + 1 + Xi S 909 (xPS S i).toNat ≤ 5000) ∧
  (Xi S 963 i.toNat = 1 → TRK S (pTS S i)) ∧
  (Xi S 963 i.toNat = 2 ∨ Xi S 963 i.toNat = 3 ∨ Xi S 963 i.toNat = 4 ∨ (Xi S 963 i.toNat = 5 ∧ Xi S 953 (pTS S i).toNat = 1) → 0 ≤ Xi S 954 (pTS S i).toNat ∧ Xi S 954 (pTS S i).toNat ≤ 29999) ∧
  (Xi S 963 i.toNat = 2 → 0 ≤ Xi S 959 (pTS S i).toNat ∧ Xi S 959 (pTS S i).toNat ≤ 29999) ∧
  (Xi S 963 i.toNat = 3 ∨ Xi S 963 i.toNat = 4 → (-1 ≤ rnR S (Xi S 956 (pTS S i).toNat) 7 ∧ rnR S (Xi S 956 (pTS S i).toNat) 7 ≤ 11) ∧ 0 ≤ Xj S 910 (xPS S i).toNat ∧ Xj S 910 (xPS S i).toNat ≤ 2147483647) ∧
  (Xi S 963 i.toNat = 5 → (Xi S 953 (pTS S i).toNat = 0 ∨ Xi S 953 (pTS S i).toNat = 1) ∧ (0 ≤ Xi S 956 (pTS S i).toNat ∧ Xi S 956 (pTS S i).toNat ≤ 2599) ∧ 0 ≤ Xi S 950 (Xi S 956 (pTS S i).toNat).toNat ∧ Xi S 950 (Xi S 956 (pTS S i).toNat).toNat ≤ 6000 ∧ 0 ≤ Xi S 951 (Xi S 956 (pTS S i).toNat).toNat ∧ Xi S 951 (Xi S 956 (pTS S i).toNat).toNat ≤ 6000)
def PMX (S S1 : sS) (i q p : Int) : Prop := (Xi S 963 i.toNat = 0 → PM0 S S1 i q p) ∧ (Xi S 963 i.toNat = 1 → PM1 S S1 i q p) ∧ (Xi S 963 i.toNat = 2 → PM2 S S1 i q p) ∧ (Xi S 963 i.toNat = 3 ∨ Xi S 963 i.toNat = 4 → PM3 S S1 i q p) ∧
  (Xi S 963 i.toNat = 5 → Xi S 953 (pTS S i).toNat = 1 → PM5 S S1 i q p) ∧ (Xi S 963 i.toNat = 5 → Xi S 953 (pTS S i).toNat = 0 → PM6 S S1 i q p) ∧ (Xi S 963 i.toNat = 6 → S1 = phA S i q p)
def md_mo_phraseMeant__p : List rec := md_mo_phraseMeant__0
abbrev Q_mo_phraseMeant__p (S : sS) (i : Int) (q : Int) (p : Int) : pst := fun r S1 => RI S1 ∧ FR md_mo_phraseMeant__p S S1 ∧ (r = none ∧ (PMX S S1 i q p))
set_option maxRecDepth 100000 in
theorem t_mo_phraseMeant__p {S : sS} (hH : RI S) (i : Int) (q : Int) (p : Int) (hi : 0 ≤ i ∧ i ≤ 1699) (hq : 0 ≤ q ∧ q ≤ 2399) (hp : 0 ≤ p ∧ p ≤ 1999) (hLS : LSP S) (h15 : 0 ≤ Xi S 904 15) (hRB : RBD S) (hB : ABV S) (hkx : Hid (∀ j : Nat, -1 ≤ Xi S 918 j ∧ Xi S 918 j ≤ 15)) (hit : (-1 ≤ Xi S 904 115 ∧ Xi S 904 115 ≤ 15) ∧ (-1 ≤ Xi S 904 116 ∧ Xi S 904 116 ≤ 15)) (hLX : LXR S) (hp32 : 0 ≤ Xi S 904 32 ∧ Xi S 904 32 ≤ 12) (hb6 : BYT S 906) (hlx7 : Hid (∀ j : Nat, (j : Int) < Xi S 904 15 → Xi S 914 j = 7 → 0 ≤ Xi S 915 j ∧ Xi S 915 j ≤ 11)) (hpk : Hid (PKB S i)) (d : Nat) : Mp lay0 (d + 8) m_mo_phraseMeant [.ref 904, iv i, iv q, iv p] S (Q_mo_phraseMeant__p S i q p) := by
  obtain ⟨k0, k1, k2, k3, k4, k5, k6, k7⟩ := hpk.o
  have z : Xi S 963 i.toNat = 0 ∨ Xi S 963 i.toNat = 1 ∨ Xi S 963 i.toNat = 2 ∨ (Xi S 963 i.toNat = 3 ∨ Xi S 963 i.toNat = 4) ∨ Xi S 963 i.toNat = 5 ∨ Xi S 963 i.toNat = 6 := by omega
  rcases z with z | z | z | z | z | z
  · exact Mp_w (t_mo_phraseMeant__0 hH i q p hi hq hp hLS h15 hB hkx hit hb6 hlx7 k1 z (k2 z) d) (fun r S1 o => ⟨o.1, o.2.1, o.2.2.1, fun _ => o.2.2.2, fun w => absurd w (by omega), fun w => absurd w (by omega), fun w => absurd w (by omega), fun w => absurd w (by omega), fun w => absurd w (by omega), fun w => absurd w (by omega)⟩)
  · exact Mp_w (t_mo_phraseMeant__1 hH i q p hi hq hp hLS h15 hRB hB hkx hit hLX hp32 k1 z (k3 z) d) (fun r S1 o => ⟨o.1, o.2.1, o.2.2.1, fun w => absurd w (by omega), fun _ => o.2.2.2, fun w => absurd w (by omega), fun w => absurd w (by omega), fun w => absurd w (by omega), fun w => absurd w (by omega), fun w => absurd w (by omega)⟩)
  · exact Mp_w (t_mo_phraseMeant__2 hH i q p hi hq hp hLS h15 hRB hB hkx hit k1 z (k4 (by omega)) (k5 z) d) (fun r S1 o => ⟨o.1, o.2.1, o.2.2.1, fun w => absurd w (by omega), fun w => absurd w (by omega), fun _ => o.2.2.2, fun w => absurd w (by omega), fun w => absurd w (by omega), fun w => absurd w (by omega), fun w => absurd w (by omega)⟩)
  · exact Mp_w (t_mo_phraseMeant__3 hH i q p hi hq hp hLS h15 hRB hB hkx hit k1 z (k4 (by omega)) (k6 z).1 (k6 z).2 d) (fun r S1 o => ⟨o.1, o.2.1, o.2.2.1, fun w => absurd w (by omega), fun w => absurd w (by omega), fun w => absurd w (by omega), fun _ => o.2.2.2, fun w => absurd w (by omega), fun w => absurd w (by omega), fun w => absurd w (by omega)⟩)
  · rcases (k7 z).1 with w5 | w5
    · exact Mp_w (t_mo_phraseMeant__6 hH i q p hi hq hp hLS h15 hB hkx k1 z w5 (k7 z).2 d) (fun r S1 o => ⟨o.1, o.2.1, o.2.2.1, fun w => absurd w (by omega), fun w => absurd w (by omega), fun w => absurd w (by omega), fun w => absurd w (by omega), fun _ w => absurd w (by omega), fun _ _ => o.2.2.2, fun w => absurd w (by omega)⟩)
    · exact Mp_w (t_mo_phraseMeant__5 hH i q p hi hq hp hLS h15 hRB k1 z w5 (k4 (by omega)) d) (fun r S1 o => ⟨o.1, o.2.1, o.2.2.1, fun w => absurd w (by omega), fun w => absurd w (by omega), fun w => absurd w (by omega), fun w => absurd w (by omega), fun _ _ => o.2.2.2, fun _ w => absurd w (by omega), fun w => absurd w (by omega)⟩)
  · exact Mp_w (t_mo_phraseMeant__7 hH i q p hi hq hp z d) (fun r S1 o => ⟨o.1, o.2.1, o.2.2.1, fun w => absurd w (by omega), fun w => absurd w (by omega), fun w => absurd w (by omega), fun w => absurd w (by omega), fun w => absurd w (by omega), fun w => absurd w (by omega), fun _ => o.2.2.2⟩)
end
section
/-! rules of the reference: the head -/
def acA (S : sS) (l : Int) : sS := uI (uI (uI (uI (uI S 979 l.toNat (Int32.ofInt (-1))) 980 l.toNat (Int32.ofInt (-1))) 981 l.toNat (Int32.ofInt (-1))) 982 l.toNat (Int32.ofInt 0)) 904 116 (Int32.ofInt (-1))
theorem acA_of {S A B C D E : sS} {l : Int} (e1 : A = uI S 979 l.toNat (Int32.ofInt (-1))) (e2 : B = uI A 980 l.toNat (Int32.ofInt (-1))) (e3 : C = uI B 981 l.toNat (Int32.ofInt (-1))) (e4 : D = uI C 982 l.toNat (Int32.ofInt 0)) (e5 : E = uI D 904 116 (Int32.ofInt (-1))) : E = acA S l := by
  subst e1 e2 e3 e4
  exact e5
def nkA (S B : sS) : Int := if Xi B 904 129 ≠ -1 then Xi S 918 (Xi B 904 129).toNat else (if -1 < Xi S 942 (Xi B 904 128).toNat then Xi S 942 (Xi B 904 128).toNat else -1)
def AMA (S S1 : sS) (l : Int) : Prop := ∃ (B C D : sS) (n : Int), ACO (acA S l) B (Xi S 904 102) 0 n ∧ FR md_mo_actings__p (acA S l) B ∧ NT3 C = (if 0 < n then NT3 B else ntF (NT3 B) 4 (pR S (Xi S 904 102))) ∧ FR md_mo_need__p B C ∧ NT3 D = (if n < 2 then NT3 C else ntF (NT3 C) 7 (pR S (Xi S 904 102))) ∧ FR md_mo_need__p C D ∧ (¬ 0 < n → S1 = D) ∧ (0 < n → S1 = uI (uI (uI D 979 l.toNat (Int32.ofInt (Xi B 904 128))) 980 l.toNat (Int32.ofInt (Xi B 904 129))) 904 116 (Int32.ofInt (nkA S B)))
noncomputable def amo (S : sS) (a : Int) : Int := if rnR S (Xi S 904 103) 4 ≠ -1 ∧ blR S (Xi S 918 (rnR S (Xi S 904 103) 4).toNat) (Xi S 942 a.toNat) ≠ 0 then rnR S (Xi S 904 103) 4 else -1
noncomputable def nkO (S E : sS) (a : Int) : Int := if amo S a ≠ -1 then Xi S 918 (amo S a).toNat else if 0 < Xi E 904 109 then Xi E 904 110 else -1
noncomputable def amH (S E G : sS) (l a : Int) : sS := uI (uI (uI G 979 l.toNat (Int32.ofInt a)) 980 l.toNat (Int32.ofInt (amo S a))) 904 116 (Int32.ofInt (nkO S E a))
def AMP (S S1 C : sS) (l a : Int) : Prop := ∃ D E F G : sS, D = uI C 904 109 (Int32.ofInt 0) ∧ ((Xi S 951 (Xi S 904 103).toNat ≤ 6 → KDS D E (Xi S 950 (Xi S 904 103).toNat) (Xi S 951 (Xi S 904 103).toNat) 0 1 (Xi S 942 a.toNat) 4) ∧ (6 < Xi S 951 (Xi S 904 103).toNat → E = D)) ∧ FR md_mo_describe__p D E ∧
  F = uI E 904 109 (Int32.ofInt (Xi E 904 109 + (if amo S a ≠ -1 then 1 else 0))) ∧ FR md_mo_oneReading__p F G ∧ NT3 G = (if Xi F 904 109 ≤ 0 then ntF (NT3 F) 4 (pR S (Xi S 904 103)) else if 2 ≤ Xi F 904 109 then ntF (NT3 F) 7 (pR S (Xi S 904 103)) else NT3 F) ∧
  (¬ (0 < Xi E 904 109 ∧ amo S a = -1) → S1 = amH S E G l a) ∧ (0 < Xi E 904 109 ∧ amo S a = -1 → S1 = cpI (uI (uI (amH S E G l a) 981 l.toNat (Int32.ofInt (Xi E 904 110))) 982 l.toNat (Int32.ofInt (Xi E 904 112))) 967 983 0 (6 * l).toNat 6)
def AMB (S B : sS) (l a : Int) : Prop := a = rnR S (Xi S 904 102) 11 ∧ FR md_mo_need__p (acA S l) B ∧ NT3 B = (if a ≠ -1 then NT3 (acA S l) else ntF (NT3 (acA S l)) 4 (pR S (Xi S 904 102)))
def AMC (S C : sS) (l a : Int) : Prop := a ≠ -1 ∧ ∃ B : sS, AMB S B l a ∧ FR md_mo_need__p B C ∧ NT3 C = (if 0 ≤ Xi S 942 a.toNat then NT3 B else ntF (NT3 B) 4 (pR S (Xi S 904 103)))
def AMO (S S1 : sS) (l : Int) : Prop := AMB S S1 l (-1) ∨ (∃ a : Int, Xi S 942 a.toNat < 0 ∧ AMC S S1 l a) ∨ (∃ (a : Int) (C : sS), 0 ≤ Xi S 942 a.toNat ∧ AMC S C l a ∧ AMP S S1 C l a)

def md_mo_actingMeant__6 : List rec := [(904, 905, 64, 65), (904, 905, 104, 105), (904, 905, 105, 106), (904, 905, 106, 107), (904, 905, 109, 110), (904, 905, 110, 111), (904, 905, 112, 113), (904, 905, 113, 114), (904, 905, 116, 117), (904, 905, 128, 129), (904, 905, 129, 130), (967, 968, 0, 100000), (968, 969, 0, 100000), (979, 980, 0, 100000), (980, 981, 0, 100000), (981, 982, 0, 100000), (982, 983, 0, 100000), (983, 984, 0, 100000)]
abbrev Q_mo_actingMeant__6 (S : sS) (l : Int) : pst := fun r S1 => RI S1 ∧ FR md_mo_actingMeant__6 S S1 ∧ (r = none ∧ (S1 = acA S l))
set_option maxRecDepth 100000 in
theorem t_mo_actingMeant__6 {S : sS} (hH : RI S) (l : Int) (hl : 0 ≤ l ∧ l ≤ 23) (hs6 : Xi S 904 70 = 6) (d : Nat) : Mp lay0 (d + 11) m_mo_actingMeant [.ref 904, iv l] S (Q_mo_actingMeant__6 S l) := by
  refine Mp_R rfl rfl (fun fu => ?_)
  have hF : FR md_mo_actingMeant__6 S S := FR.rf
  have w1 : -2147483648 ≤ Xi S 904 70 ∧ Xi S 904 70 ≤ 2147483647 := Xi_rgI
  refine y_aload_n rfl rfl ?_
  refine y_gfr rfl rfl rfl rfl rfl (hH.r 904 132 979 rfl) ?_
  refine y_iload_n rfl rfl ?_
  refine y_iconst rfl ?_
  refine y_iastoreP (n := 24) rfl rfl (by unfold rg; omega) (fun w2 w3 => ?_)
  obtain ⟨U1, eU1⟩ : ∃ T : sS, T = uI S 979 ((l).toNat) (Int32.ofInt (-1)) := ⟨_, rfl⟩
  rw [← eU1]
  have hHU1 : RI U1 := by rw [eU1]; exact RI_w hH
  have hFU1 : FR md_mo_actingMeant__6 S U1 := by rw [eU1]; exact FR.wI hF (mdf_i (r := (979, 980, 0, 100000)) (List.mem_of_getElem? (i := 13) rfl) (inR_i (by omega) (by omega) (by omega) (by omega)))
  have w4 : Xi U1 979 ((l).toNat) = (-1) := by rw [eU1]; exact Xi_same (by unfold rg; omega)
  have e6 := eU1
  refine y_aload_n rfl rfl ?_
  refine y_gfr rfl rfl rfl rfl rfl (hHU1.r 904 133 980 rfl) ?_
  refine y_iload_n rfl rfl ?_
  refine y_iconst rfl ?_
  refine y_iastoreP (n := 24) rfl rfl (by unfold rg; omega) (fun w5 w6 => ?_)
  obtain ⟨U2, eU2⟩ : ∃ T : sS, T = uI U1 980 ((l).toNat) (Int32.ofInt (-1)) := ⟨_, rfl⟩
  rw [← eU2]
  have hHU2 : RI U2 := by rw [eU2]; exact RI_w hHU1
  have hFU2 : FR md_mo_actingMeant__6 S U2 := by rw [eU2]; exact FR.wI hFU1 (mdf_i (r := (980, 981, 0, 100000)) (List.mem_of_getElem? (i := 14) rfl) (inR_i (by omega) (by omega) (by omega) (by omega)))
  have w7 : Xi U2 980 ((l).toNat) = (-1) := by rw [eU2]; exact Xi_same (by unfold rg; omega)
  have e13 := eU2
  refine y_aload_n rfl rfl ?_
  refine y_gfr rfl rfl rfl rfl rfl (hHU2.r 904 134 981 rfl) ?_
  refine y_iload_n rfl rfl ?_
  refine y_iconst rfl ?_
  refine y_iastoreP (n := 24) rfl rfl (by unfold rg; omega) (fun w8 w9 => ?_)
  obtain ⟨U3, eU3⟩ : ∃ T : sS, T = uI U2 981 ((l).toNat) (Int32.ofInt (-1)) := ⟨_, rfl⟩
  rw [← eU3]
  have hHU3 : RI U3 := by rw [eU3]; exact RI_w hHU2
  have hFU3 : FR md_mo_actingMeant__6 S U3 := by rw [eU3]; exact FR.wI hFU2 (mdf_i (r := (981, 982, 0, 100000)) (List.mem_of_getElem? (i := 15) rfl) (inR_i (by omega) (by omega) (by omega) (by omega)))
  have w10 : Xi U3 981 ((l).toNat) = (-1) := by rw [eU3]; exact Xi_same (by unfold rg; omega)
  have e20 := eU3
  refine y_aload_n rfl rfl ?_
  refine y_gfr rfl rfl rfl rfl rfl (hHU3.r 904 135 982 rfl) ?_
  refine y_iload_n rfl rfl ?_
  refine y_iconst rfl ?_
  refine y_iastoreP (n := 24) rfl rfl (by unfold rg; omega) (fun w11 w12 => ?_)
  obtain ⟨U4, eU4⟩ : ∃ T : sS, T = uI U3 982 ((l).toNat) (Int32.ofInt 0) := ⟨_, rfl⟩
  rw [← eU4]
  have hHU4 : RI U4 := by rw [eU4]; exact RI_w hHU3
  have hFU4 : FR md_mo_actingMeant__6 S U4 := by rw [eU4]; exact FR.wI hFU3 (mdf_i (r := (982, 983, 0, 100000)) (List.mem_of_getElem? (i := 16) rfl) (inR_i (by omega) (by omega) (by omega) (by omega)))
  have w13 : Xi U4 982 ((l).toNat) = 0 := by rw [eU4]; exact Xi_same (by unfold rg; omega)
  have e27 := eU4
  refine y_aload_n rfl rfl ?_
  refine y_iconst rfl ?_
  refine y_pfi rfl rfl rfl rfl ?_
  obtain ⟨U5, eU5⟩ : ∃ T : sS, T = uI U4 904 116 (Int32.ofInt (-1)) := ⟨_, rfl⟩
  rw [← eU5]
  have hHU5 : RI U5 := by rw [eU5]; exact RI_w hHU4
  have hFU5 : FR md_mo_actingMeant__6 S U5 := by rw [eU5]; exact FR.wI hFU4 (mdf_i (r := (904, 905, 116, 117)) (List.mem_of_getElem? (i := 8) rfl) (inR_i (by omega) (by omega) (by omega) (by omega)))
  have w14 : Xi U5 904 116 = (-1) := by rw [eU5]; exact Xi_same (by unfold rg; omega)
  have e30 := eU5
  have A30 : U5 = acA S l := acA_of e6 e13 e20 e27 e30
  refine y_aload_n rfl rfl ?_
  refine y_gfi rfl rfl rfl rfl rfl ?_
  have w15 : (Xi U5 904 70) = (Xi S 904 70) := (show Xi U5 904 70 = Xi U4 904 70 from by rw [eU5]; exact Xi_ne (by omega)).trans ( (show Xi U4 904 70 = Xi U3 904 70 from by rw [eU4]; exact Xi_ne (by omega)).trans ( (show Xi U3 904 70 = Xi U2 904 70 from by rw [eU3]; exact Xi_ne (by omega)).trans ( (show Xi U2 904 70 = Xi U1 904 70 from by rw [eU2]; exact Xi_ne (by omega)).trans ((show Xi U1 904 70 = Xi S 904 70 from by rw [eU1]; exact Xi_ne (by omega))))))
  rw [w15]
  refine y_bipush rfl rfl ?_
  refine y_icmp_ne rfl rfl (by unfold rg; omega) (by unfold rg; omega) (fun w16 => ?_) (fun w17 => ?_)
  · exfalso; omega
  · refine y_return rfl rfl ?_
    exact ⟨hHU5, hFU5, rfl, (A30)⟩
def md_mo_actingMeant__1 : List rec := [(904, 905, 64, 65), (904, 905, 104, 105), (904, 905, 105, 106), (904, 905, 106, 107), (904, 905, 109, 110), (904, 905, 110, 111), (904, 905, 112, 113), (904, 905, 113, 114), (904, 905, 116, 117), (904, 905, 128, 129), (904, 905, 129, 130), (967, 968, 0, 100000), (968, 969, 0, 100000), (979, 980, 0, 100000), (980, 981, 0, 100000), (981, 982, 0, 100000), (982, 983, 0, 100000), (983, 984, 0, 100000)]
abbrev Q_mo_actingMeant__1 (S : sS) (l : Int) : pst := fun r S1 => RI S1 ∧ FR md_mo_actingMeant__1 S S1 ∧ (r = none ∧ (AMA S S1 l))
set_option maxRecDepth 100000 in
theorem t_mo_actingMeant__1 {S : sS} (hH : RI S) (l : Int) (hl : 0 ≤ l ∧ l ≤ 23) (hLS : LSP S) (h15 : 0 ≤ Xi S 904 15) (hB : ABV S) (hkx : Hid (∀ j : Nat, -1 ≤ Xi S 918 j ∧ Xi S 918 j ≤ 15)) (hs6 : Xi S 904 70 ≠ 6) (ho : Xi S 904 103 = -1) (hr2 : 0 ≤ Xi S 904 102 ∧ Xi S 904 102 ≤ 2599) (hrg : 0 ≤ Xi S 950 ((Xi S 904 102)).toNat ∧ Xi S 950 ((Xi S 904 102)).toNat ≤ 6000 ∧ 0 ≤ Xi S 951 ((Xi S 904 102)).toNat ∧ Xi S 951 ((Xi S 904 102)).toNat ≤ 6000) (d : Nat) : Mp lay0 (d + 11) m_mo_actingMeant [.ref 904, iv l] S (Q_mo_actingMeant__1 S l) := by
  refine Mp_R rfl rfl (fun fu => ?_)
  have hF : FR md_mo_actingMeant__1 S S := FR.rf
  have w1 : -2147483648 ≤ Xi S 904 102 ∧ Xi S 904 102 ≤ 2147483647 := Xi_rgI
  have w2 : -2147483648 ≤ Xi S 904 103 ∧ Xi S 904 103 ≤ 2147483647 := Xi_rgI
  have w3 : -2147483648 ≤ Xi S 904 116 ∧ Xi S 904 116 ≤ 2147483647 := Xi_rgI
  have w4 : -2147483648 ≤ Xi S 904 128 ∧ Xi S 904 128 ≤ 2147483647 := Xi_rgI
  have w5 : -2147483648 ≤ Xi S 904 129 ∧ Xi S 904 129 ≤ 2147483647 := Xi_rgI
  have w6 : -2147483648 ≤ Xi S 904 15 ∧ Xi S 904 15 ≤ 2147483647 := Xi_rgI
  have w7 : -2147483648 ≤ Xi S 904 70 ∧ Xi S 904 70 ≤ 2147483647 := Xi_rgI
  refine y_aload_n rfl rfl ?_
  refine y_gfr rfl rfl rfl rfl rfl (hH.r 904 132 979 rfl) ?_
  refine y_iload_n rfl rfl ?_
  refine y_iconst rfl ?_
  refine y_iastoreP (n := 24) rfl rfl (by unfold rg; omega) (fun w8 w9 => ?_)
  obtain ⟨U1, eU1⟩ : ∃ T : sS, T = uI S 979 ((l).toNat) (Int32.ofInt (-1)) := ⟨_, rfl⟩
  rw [← eU1]
  have hHU1 : RI U1 := by rw [eU1]; exact RI_w hH
  have hFU1 : FR md_mo_actingMeant__1 S U1 := by rw [eU1]; exact FR.wI hF (mdf_i (r := (979, 980, 0, 100000)) (List.mem_of_getElem? (i := 13) rfl) (inR_i (by omega) (by omega) (by omega) (by omega)))
  have w10 : Xi U1 979 ((l).toNat) = (-1) := by rw [eU1]; exact Xi_same (by unfold rg; omega)
  have e6 := eU1
  refine y_aload_n rfl rfl ?_
  refine y_gfr rfl rfl rfl rfl rfl (hHU1.r 904 133 980 rfl) ?_
  refine y_iload_n rfl rfl ?_
  refine y_iconst rfl ?_
  refine y_iastoreP (n := 24) rfl rfl (by unfold rg; omega) (fun w11 w12 => ?_)
  obtain ⟨U2, eU2⟩ : ∃ T : sS, T = uI U1 980 ((l).toNat) (Int32.ofInt (-1)) := ⟨_, rfl⟩
  rw [← eU2]
  have hHU2 : RI U2 := by rw [eU2]; exact RI_w hHU1
  have hFU2 : FR md_mo_actingMeant__1 S U2 := by rw [eU2]; exact FR.wI hFU1 (mdf_i (r := (980, 981, 0, 100000)) (List.mem_of_getElem? (i := 14) rfl) (inR_i (by omega) (by omega) (by omega) (by omega)))
  have w13 : Xi U2 980 ((l).toNat) = (-1) := by rw [eU2]; exact Xi_same (by unfold rg; omega)
  have e13 := eU2
  refine y_aload_n rfl rfl ?_
  refine y_gfr rfl rfl rfl rfl rfl (hHU2.r 904 134 981 rfl) ?_
  refine y_iload_n rfl rfl ?_
  refine y_iconst rfl ?_
  refine y_iastoreP (n := 24) rfl rfl (by unfold rg; omega) (fun w14 w15 => ?_)
  obtain ⟨U3, eU3⟩ : ∃ T : sS, T = uI U2 981 ((l).toNat) (Int32.ofInt (-1)) := ⟨_, rfl⟩
  rw [← eU3]
  have hHU3 : RI U3 := by rw [eU3]; exact RI_w hHU2
  have hFU3 : FR md_mo_actingMeant__1 S U3 := by rw [eU3]; exact FR.wI hFU2 (mdf_i (r := (981, 982, 0, 100000)) (List.mem_of_getElem? (i := 15) rfl) (inR_i (by omega) (by omega) (by omega) (by omega)))
  have w16 : Xi U3 981 ((l).toNat) = (-1) := by rw [eU3]; exact Xi_same (by unfold rg; omega)
  have e20 := eU3
  refine y_aload_n rfl rfl ?_
  refine y_gfr rfl rfl rfl rfl rfl (hHU3.r 904 135 982 rfl) ?_
  refine y_iload_n rfl rfl ?_
  refine y_iconst rfl ?_
  refine y_iastoreP (n := 24) rfl rfl (by unfold rg; omega) (fun w17 w18 => ?_)
  obtain ⟨U4, eU4⟩ : ∃ T : sS, T = uI U3 982 ((l).toNat) (Int32.ofInt 0) := ⟨_, rfl⟩
  rw [← eU4]
  have hHU4 : RI U4 := by rw [eU4]; exact RI_w hHU3
  have hFU4 : FR md_mo_actingMeant__1 S U4 := by rw [eU4]; exact FR.wI hFU3 (mdf_i (r := (982, 983, 0, 100000)) (List.mem_of_getElem? (i := 16) rfl) (inR_i (by omega) (by omega) (by omega) (by omega)))
  have w19 : Xi U4 982 ((l).toNat) = 0 := by rw [eU4]; exact Xi_same (by unfold rg; omega)
  have e27 := eU4
  refine y_aload_n rfl rfl ?_
  refine y_iconst rfl ?_
  refine y_pfi rfl rfl rfl rfl ?_
  obtain ⟨U5, eU5⟩ : ∃ T : sS, T = uI U4 904 116 (Int32.ofInt (-1)) := ⟨_, rfl⟩
  rw [← eU5]
  have hHU5 : RI U5 := by rw [eU5]; exact RI_w hHU4
  have hFU5 : FR md_mo_actingMeant__1 S U5 := by rw [eU5]; exact FR.wI hFU4 (mdf_i (r := (904, 905, 116, 117)) (List.mem_of_getElem? (i := 8) rfl) (inR_i (by omega) (by omega) (by omega) (by omega)))
  have w20 : Xi U5 904 116 = (-1) := by rw [eU5]; exact Xi_same (by unfold rg; omega)
  have e30 := eU5
  have A30 : U5 = acA S l := acA_of e6 e13 e20 e27 e30
  refine y_aload_n rfl rfl ?_
  refine y_gfi rfl rfl rfl rfl rfl ?_
  have w21 : (Xi U5 904 70) = (Xi S 904 70) := (show Xi U5 904 70 = Xi U4 904 70 from by rw [eU5]; exact Xi_ne (by omega)).trans ( (show Xi U4 904 70 = Xi U3 904 70 from by rw [eU4]; exact Xi_ne (by omega)).trans ( (show Xi U3 904 70 = Xi U2 904 70 from by rw [eU3]; exact Xi_ne (by omega)).trans ( (show Xi U2 904 70 = Xi U1 904 70 from by rw [eU2]; exact Xi_ne (by omega)).trans ((show Xi U1 904 70 = Xi S 904 70 from by rw [eU1]; exact Xi_ne (by omega))))))
  rw [w21]
  refine y_bipush rfl rfl ?_
  refine y_icmp_ne rfl rfl (by unfold rg; omega) (by unfold rg; omega) (fun w22 => ?_) (fun w23 => ?_)
  · refine y_aload_n rfl rfl ?_
    refine y_gfi rfl rfl rfl rfl rfl ?_
    have w24 : (Xi U5 904 102) = (Xi S 904 102) := (show Xi U5 904 102 = Xi U4 904 102 from by rw [eU5]; exact Xi_ne (by omega)).trans ( (show Xi U4 904 102 = Xi U3 904 102 from by rw [eU4]; exact Xi_ne (by omega)).trans ( (show Xi U3 904 102 = Xi U2 904 102 from by rw [eU3]; exact Xi_ne (by omega)).trans ( (show Xi U2 904 102 = Xi U1 904 102 from by rw [eU2]; exact Xi_ne (by omega)).trans ((show Xi U1 904 102 = Xi S 904 102 from by rw [eU1]; exact Xi_ne (by omega))))))
    rw [w24]
    have a44 : (Xi S 904 102) = Xi S 904 102 := by first | exact hF.x 904 102 rfl | rfl
    refine y_istore_n rfl rfl rfl ?_
    refine y_aload_n rfl rfl ?_
    refine y_gfi rfl rfl rfl rfl rfl ?_
    have w25 : (Xi U5 904 103) = (Xi S 904 103) := (show Xi U5 904 103 = Xi U4 904 103 from by rw [eU5]; exact Xi_ne (by omega)).trans ( (show Xi U4 904 103 = Xi U3 904 103 from by rw [eU4]; exact Xi_ne (by omega)).trans ( (show Xi U3 904 103 = Xi U2 904 103 from by rw [eU3]; exact Xi_ne (by omega)).trans ( (show Xi U2 904 103 = Xi U1 904 103 from by rw [eU2]; exact Xi_ne (by omega)).trans ((show Xi U1 904 103 = Xi S 904 103 from by rw [eU1]; exact Xi_ne (by omega))))))
    rw [w25]
    refine y_iconst rfl ?_
    refine y_icmp_ne rfl rfl (by unfold rg; omega) (by unfold rg; omega) (fun w26 => ?_) (fun w27 => ?_)
    · exfalso; omega
    · refine y_aload_n rfl rfl ?_
      refine y_iload_n rfl rfl ?_
      refine y_iconst rfl ?_
      have w28 : Xi U5 904 102 = Xi S 904 102 := (show Xi U5 904 102 = Xi U4 904 102 from by rw [eU5]; exact Xi_ne (by omega)).trans ( (show Xi U4 904 102 = Xi U3 904 102 from by rw [eU4]; exact Xi_ne (by omega)).trans ( (show Xi U3 904 102 = Xi U2 904 102 from by rw [eU3]; exact Xi_ne (by omega)).trans ( (show Xi U2 904 102 = Xi U1 904 102 from by rw [eU2]; exact Xi_ne (by omega)).trans ((show Xi U1 904 102 = Xi S 904 102 from by rw [eU1]; exact Xi_ne (by omega))))))
      have w29 : Xi U5 904 103 = Xi S 904 103 := (show Xi U5 904 103 = Xi U4 904 103 from by rw [eU5]; exact Xi_ne (by omega)).trans ( (show Xi U4 904 103 = Xi U3 904 103 from by rw [eU4]; exact Xi_ne (by omega)).trans ( (show Xi U3 904 103 = Xi U2 904 103 from by rw [eU3]; exact Xi_ne (by omega)).trans ( (show Xi U2 904 103 = Xi U1 904 103 from by rw [eU2]; exact Xi_ne (by omega)).trans ((show Xi U1 904 103 = Xi S 904 103 from by rw [eU1]; exact Xi_ne (by omega))))))
      have w30 : Xi U5 904 128 = Xi S 904 128 := (show Xi U5 904 128 = Xi U4 904 128 from by rw [eU5]; exact Xi_ne (by omega)).trans ( (show Xi U4 904 128 = Xi U3 904 128 from by rw [eU4]; exact Xi_ne (by omega)).trans ( (show Xi U3 904 128 = Xi U2 904 128 from by rw [eU3]; exact Xi_ne (by omega)).trans ( (show Xi U2 904 128 = Xi U1 904 128 from by rw [eU2]; exact Xi_ne (by omega)).trans ((show Xi U1 904 128 = Xi S 904 128 from by rw [eU1]; exact Xi_ne (by omega))))))
      have w31 : Xi U5 904 129 = Xi S 904 129 := (show Xi U5 904 129 = Xi U4 904 129 from by rw [eU5]; exact Xi_ne (by omega)).trans ( (show Xi U4 904 129 = Xi U3 904 129 from by rw [eU4]; exact Xi_ne (by omega)).trans ( (show Xi U3 904 129 = Xi U2 904 129 from by rw [eU3]; exact Xi_ne (by omega)).trans ( (show Xi U2 904 129 = Xi U1 904 129 from by rw [eU2]; exact Xi_ne (by omega)).trans ((show Xi U1 904 129 = Xi S 904 129 from by rw [eU1]; exact Xi_ne (by omega))))))
      have w32 : Xi U5 904 15 = Xi S 904 15 := (show Xi U5 904 15 = Xi U4 904 15 from by rw [eU5]; exact Xi_ne (by omega)).trans ( (show Xi U4 904 15 = Xi U3 904 15 from by rw [eU4]; exact Xi_ne (by omega)).trans ( (show Xi U3 904 15 = Xi U2 904 15 from by rw [eU3]; exact Xi_ne (by omega)).trans ( (show Xi U2 904 15 = Xi U1 904 15 from by rw [eU2]; exact Xi_ne (by omega)).trans ((show Xi U1 904 15 = Xi S 904 15 from by rw [eU1]; exact Xi_ne (by omega))))))
      have w33 : Xi U5 904 70 = Xi S 904 70 := (show Xi U5 904 70 = Xi U4 904 70 from by rw [eU5]; exact Xi_ne (by omega)).trans ( (show Xi U4 904 70 = Xi U3 904 70 from by rw [eU4]; exact Xi_ne (by omega)).trans ( (show Xi U3 904 70 = Xi U2 904 70 from by rw [eU3]; exact Xi_ne (by omega)).trans ( (show Xi U2 904 70 = Xi U1 904 70 from by rw [eU2]; exact Xi_ne (by omega)).trans ((show Xi U1 904 70 = Xi S 904 70 from by rw [eU1]; exact Xi_ne (by omega))))))
      refine y_callV rfl rfl rfl (t_mo_actings__p hHU5 (Xi S 904 102) 0 ⟨by omega, by omega⟩ ⟨by omega, by omega⟩ (by first | assumption | exact (LSP_FR hFU5 rfl rfl (by assumption : LSP S))) (by first | assumption | omega) (by first | assumption | exact (ABV_FR hFU5 rfl (by assumption : ABV S))) (fun j => by rw [(hFU5.cx 918 rfl _).1]; exact hkx.o j) (by rw [(hFU5.cx 950 rfl _).1, (hFU5.cx 951 rfl _).1, a44]; exact hrg) _) ?_
      rintro _ T6 ⟨hHT6, w35, z34, rfl, w34, o59⟩
      have hFT6 : FR md_mo_actingMeant__1 S T6 := FR.tr hFU5 w35 rfl
      show Pl _ _ _ _ _ _ [iv z34] _ _
      have F59 := (by assumption : FR md_mo_actings__p U5 T6)
      refine y_istore_n rfl rfl rfl ?_
      refine y_aload_n rfl rfl ?_
      refine y_iload_n rfl rfl ?_
      refine y_if_le rfl rfl (by unfold rg; omega) (fun w36 => ?_) (fun w37 => ?_)
      · refine y_iconst rfl ?_
        refine y_iconst rfl ?_
        refine y_aload_n rfl rfl ?_
        refine y_gfr rfl rfl rfl rfl rfl (hHT6.r 904 67 950 rfl) ?_
        refine y_iload_n rfl rfl ?_
        refine y_ialoadP (n := 2600) rfl rfl (by unfold rg; omega) (fun w38 w39 => ?_)
        have w40 : -2147483648 ≤ (Xi T6 950 (((Xi S 904 102)).toNat)) ∧ (Xi T6 950 (((Xi S 904 102)).toNat)) ≤ 2147483647 := Xi_rgI
        have v79 : (Xi T6 950 (((Xi S 904 102)).toNat)) = Xi S 950 (Xi S 904 102).toNat := by rw [(hFT6.cx 950 rfl _).1, a44]
        have p79 : Xi T6 908 ((Xi T6 950 (((Xi S 904 102)).toNat))).toNat = pR S (Xi S 904 102) := by unfold pR; rw [(hFT6.cx 908 rfl _).1, v79]
        have w41 : Xi T6 904 102 = Xi S 904 102 := (show Xi T6 904 102 = Xi U5 904 102 from w35.x _ _ rfl).trans ( (show Xi U5 904 102 = Xi U4 904 102 from by rw [eU5]; exact Xi_ne (by omega)).trans ( (show Xi U4 904 102 = Xi U3 904 102 from by rw [eU4]; exact Xi_ne (by omega)).trans ( (show Xi U3 904 102 = Xi U2 904 102 from by rw [eU3]; exact Xi_ne (by omega)).trans ( (show Xi U2 904 102 = Xi U1 904 102 from by rw [eU2]; exact Xi_ne (by omega)).trans ((show Xi U1 904 102 = Xi S 904 102 from by rw [eU1]; exact Xi_ne (by omega)))))))
        have w42 : Xi T6 904 103 = Xi S 904 103 := (show Xi T6 904 103 = Xi U5 904 103 from w35.x _ _ rfl).trans ( (show Xi U5 904 103 = Xi U4 904 103 from by rw [eU5]; exact Xi_ne (by omega)).trans ( (show Xi U4 904 103 = Xi U3 904 103 from by rw [eU4]; exact Xi_ne (by omega)).trans ( (show Xi U3 904 103 = Xi U2 904 103 from by rw [eU3]; exact Xi_ne (by omega)).trans ( (show Xi U2 904 103 = Xi U1 904 103 from by rw [eU2]; exact Xi_ne (by omega)).trans ((show Xi U1 904 103 = Xi S 904 103 from by rw [eU1]; exact Xi_ne (by omega)))))))
        have w43 : Xi T6 904 116 = Xi U5 904 116 := (show Xi T6 904 116 = Xi U5 904 116 from w35.x _ _ rfl)
        have w44 : Xi T6 904 15 = Xi S 904 15 := (show Xi T6 904 15 = Xi U5 904 15 from w35.x _ _ rfl).trans ( (show Xi U5 904 15 = Xi U4 904 15 from by rw [eU5]; exact Xi_ne (by omega)).trans ( (show Xi U4 904 15 = Xi U3 904 15 from by rw [eU4]; exact Xi_ne (by omega)).trans ( (show Xi U3 904 15 = Xi U2 904 15 from by rw [eU3]; exact Xi_ne (by omega)).trans ( (show Xi U2 904 15 = Xi U1 904 15 from by rw [eU2]; exact Xi_ne (by omega)).trans ((show Xi U1 904 15 = Xi S 904 15 from by rw [eU1]; exact Xi_ne (by omega)))))))
        have w45 : Xi T6 904 70 = Xi S 904 70 := (show Xi T6 904 70 = Xi U5 904 70 from w35.x _ _ rfl).trans ( (show Xi U5 904 70 = Xi U4 904 70 from by rw [eU5]; exact Xi_ne (by omega)).trans ( (show Xi U4 904 70 = Xi U3 904 70 from by rw [eU4]; exact Xi_ne (by omega)).trans ( (show Xi U3 904 70 = Xi U2 904 70 from by rw [eU3]; exact Xi_ne (by omega)).trans ( (show Xi U2 904 70 = Xi U1 904 70 from by rw [eU2]; exact Xi_ne (by omega)).trans ((show Xi U1 904 70 = Xi S 904 70 from by rw [eU1]; exact Xi_ne (by omega)))))))
        refine y_callV rfl rfl rfl (t_mo_need__p hHT6 0 4 (Xi T6 950 (((Xi S 904 102)).toNat)) ⟨by omega, by omega⟩ ⟨by omega, by omega⟩ ⟨by omega, by omega⟩ _) ?_
        rintro _ T7 ⟨hHT7, w47, rfl, nt80⟩
        have hFT7 : FR md_mo_actingMeant__1 S T7 := FR.tr hFT6 w47 rfl
        show Pl _ _ _ _ _ _ [] _ _
        have F80 := (by assumption : FR md_mo_need__p T6 T7)
        have N80 : NT3 T7 = (if 0 < z34 then NT3 T6 else ntF (NT3 T6) 4 (pR S (Xi S 904 102))) := by rw [← p79]; first | (rw [if_pos (by omega)]; exact nt80.trans (if_neg (by decide))) | (rw [if_neg (by omega)]; exact nt80.trans (if_pos rfl))
        refine y_aload_n rfl rfl ?_
        refine y_iload_n rfl rfl ?_
        refine y_iconst rfl ?_
        refine y_icmp_ge rfl rfl (by unfold rg; omega) (by unfold rg; omega) (fun w48 => ?_) (fun w49 => ?_)
        · exfalso; omega
        · refine y_iconst rfl ?_
          refine y_goto rfl rfl ?_
          refine y_bipush rfl rfl ?_
          refine y_aload_n rfl rfl ?_
          refine y_gfr rfl rfl rfl rfl rfl (hHT7.r 904 67 950 rfl) ?_
          refine y_iload_n rfl rfl ?_
          refine y_ialoadP (n := 2600) rfl rfl (by unfold rg; omega) (fun w50 w51 => ?_)
          have w52 : (Xi T7 950 (((Xi S 904 102)).toNat)) = (Xi T6 950 (((Xi S 904 102)).toNat)) := (show Xi T7 950 (((Xi S 904 102)).toNat) = Xi T6 950 (((Xi S 904 102)).toNat) from w47.x _ _ rfl)
          rw [w52]
          have v101 : (Xi T6 950 (((Xi S 904 102)).toNat)) = Xi S 950 (Xi S 904 102).toNat := by first | exact v79 | (rw [(hFT6.cx 950 rfl _).1, a44])
          have p101 : Xi T7 908 ((Xi T6 950 (((Xi S 904 102)).toNat))).toNat = pR S (Xi S 904 102) := by unfold pR; rw [(hFT7.cx 908 rfl _).1, v101]
          have w53 : Xi T7 904 102 = Xi S 904 102 := (show Xi T7 904 102 = Xi T6 904 102 from w47.x _ _ rfl).trans ( (show Xi T6 904 102 = Xi U5 904 102 from w35.x _ _ rfl).trans ( (show Xi U5 904 102 = Xi U4 904 102 from by rw [eU5]; exact Xi_ne (by omega)).trans ( (show Xi U4 904 102 = Xi U3 904 102 from by rw [eU4]; exact Xi_ne (by omega)).trans ( (show Xi U3 904 102 = Xi U2 904 102 from by rw [eU3]; exact Xi_ne (by omega)).trans ( (show Xi U2 904 102 = Xi U1 904 102 from by rw [eU2]; exact Xi_ne (by omega)).trans ((show Xi U1 904 102 = Xi S 904 102 from by rw [eU1]; exact Xi_ne (by omega))))))))
          have w54 : Xi T7 904 103 = Xi S 904 103 := (show Xi T7 904 103 = Xi T6 904 103 from w47.x _ _ rfl).trans ( (show Xi T6 904 103 = Xi U5 904 103 from w35.x _ _ rfl).trans ( (show Xi U5 904 103 = Xi U4 904 103 from by rw [eU5]; exact Xi_ne (by omega)).trans ( (show Xi U4 904 103 = Xi U3 904 103 from by rw [eU4]; exact Xi_ne (by omega)).trans ( (show Xi U3 904 103 = Xi U2 904 103 from by rw [eU3]; exact Xi_ne (by omega)).trans ( (show Xi U2 904 103 = Xi U1 904 103 from by rw [eU2]; exact Xi_ne (by omega)).trans ((show Xi U1 904 103 = Xi S 904 103 from by rw [eU1]; exact Xi_ne (by omega))))))))
          have w55 : Xi T7 904 116 = Xi U5 904 116 := (show Xi T7 904 116 = Xi T6 904 116 from w47.x _ _ rfl).trans ((show Xi T6 904 116 = Xi U5 904 116 from w35.x _ _ rfl))
          have w56 : Xi T7 904 128 = Xi T6 904 128 := (show Xi T7 904 128 = Xi T6 904 128 from w47.x _ _ rfl)
          have w57 : Xi T7 904 129 = Xi T6 904 129 := (show Xi T7 904 129 = Xi T6 904 129 from w47.x _ _ rfl)
          have w58 : Xi T7 904 15 = Xi S 904 15 := (show Xi T7 904 15 = Xi T6 904 15 from w47.x _ _ rfl).trans ( (show Xi T6 904 15 = Xi U5 904 15 from w35.x _ _ rfl).trans ( (show Xi U5 904 15 = Xi U4 904 15 from by rw [eU5]; exact Xi_ne (by omega)).trans ( (show Xi U4 904 15 = Xi U3 904 15 from by rw [eU4]; exact Xi_ne (by omega)).trans ( (show Xi U3 904 15 = Xi U2 904 15 from by rw [eU3]; exact Xi_ne (by omega)).trans ( (show Xi U2 904 15 = Xi U1 904 15 from by rw [eU2]; exact Xi_ne (by omega)).trans ((show Xi U1 904 15 = Xi S 904 15 from by rw [eU1]; exact Xi_ne (by omega))))))))
          have w59 : Xi T7 904 70 = Xi S 904 70 := (show Xi T7 904 70 = Xi T6 904 70 from w47.x _ _ rfl).trans ( (show Xi T6 904 70 = Xi U5 904 70 from w35.x _ _ rfl).trans ( (show Xi U5 904 70 = Xi U4 904 70 from by rw [eU5]; exact Xi_ne (by omega)).trans ( (show Xi U4 904 70 = Xi U3 904 70 from by rw [eU4]; exact Xi_ne (by omega)).trans ( (show Xi U3 904 70 = Xi U2 904 70 from by rw [eU3]; exact Xi_ne (by omega)).trans ( (show Xi U2 904 70 = Xi U1 904 70 from by rw [eU2]; exact Xi_ne (by omega)).trans ((show Xi U1 904 70 = Xi S 904 70 from by rw [eU1]; exact Xi_ne (by omega))))))))
          refine y_callV rfl rfl rfl (t_mo_need__p hHT7 1 7 (Xi T6 950 (((Xi S 904 102)).toNat)) ⟨by omega, by omega⟩ ⟨by omega, by omega⟩ ⟨by omega, by omega⟩ _) ?_
          rintro _ T8 ⟨hHT8, w61, rfl, nt102⟩
          have hFT8 : FR md_mo_actingMeant__1 S T8 := FR.tr hFT7 w61 rfl
          show Pl _ _ _ _ _ _ [] _ _
          have F102 := (by assumption : FR md_mo_need__p T7 T8)
          have N102 : NT3 T8 = (if z34 < 2 then NT3 T7 else ntF (NT3 T7) 7 (pR S (Xi S 904 102))) := by rw [← p101]; first | (rw [if_pos (by omega)]; exact nt102.trans (if_neg (by decide))) | (rw [if_neg (by omega)]; exact nt102.trans (if_pos rfl))
          refine y_iload_n rfl rfl ?_
          refine y_if_le rfl rfl (by unfold rg; omega) (fun w62 => ?_) (fun w63 => ?_)
          · refine y_return rfl rfl ?_
            exact ⟨hHT8, hFT8, rfl, (by first | (have u := e163; exact ⟨_, _, _, _, by rw [← A30, ← a44]; exact o59, by rw [← A30]; exact F59, N80, F80, N102, F102, fun w => absurd (by omega) w, fun _ => by rw [K163, ← t115, ← t125, ← e118, ← e128]; exact e163⟩) | exact ⟨_, _, _, _, by rw [← A30, ← a44]; exact o59, by rw [← A30]; exact F59, N80, F80, N102, F102, fun _ => rfl, fun w => absurd w (by omega)⟩)⟩
          · exfalso; omega
      · refine y_iconst rfl ?_
        refine y_goto rfl rfl ?_
        refine y_iconst rfl ?_
        refine y_aload_n rfl rfl ?_
        refine y_gfr rfl rfl rfl rfl rfl (hHT6.r 904 67 950 rfl) ?_
        refine y_iload_n rfl rfl ?_
        refine y_ialoadP (n := 2600) rfl rfl (by unfold rg; omega) (fun w71 w72 => ?_)
        have w73 : -2147483648 ≤ (Xi T6 950 (((Xi S 904 102)).toNat)) ∧ (Xi T6 950 (((Xi S 904 102)).toNat)) ≤ 2147483647 := Xi_rgI
        have v79 : (Xi T6 950 (((Xi S 904 102)).toNat)) = Xi S 950 (Xi S 904 102).toNat := by rw [(hFT6.cx 950 rfl _).1, a44]
        have p79 : Xi T6 908 ((Xi T6 950 (((Xi S 904 102)).toNat))).toNat = pR S (Xi S 904 102) := by unfold pR; rw [(hFT6.cx 908 rfl _).1, v79]
        have w74 : Xi T6 904 102 = Xi S 904 102 := (show Xi T6 904 102 = Xi U5 904 102 from w35.x _ _ rfl).trans ( (show Xi U5 904 102 = Xi U4 904 102 from by rw [eU5]; exact Xi_ne (by omega)).trans ( (show Xi U4 904 102 = Xi U3 904 102 from by rw [eU4]; exact Xi_ne (by omega)).trans ( (show Xi U3 904 102 = Xi U2 904 102 from by rw [eU3]; exact Xi_ne (by omega)).trans ( (show Xi U2 904 102 = Xi U1 904 102 from by rw [eU2]; exact Xi_ne (by omega)).trans ((show Xi U1 904 102 = Xi S 904 102 from by rw [eU1]; exact Xi_ne (by omega)))))))
        have w75 : Xi T6 904 103 = Xi S 904 103 := (show Xi T6 904 103 = Xi U5 904 103 from w35.x _ _ rfl).trans ( (show Xi U5 904 103 = Xi U4 904 103 from by rw [eU5]; exact Xi_ne (by omega)).trans ( (show Xi U4 904 103 = Xi U3 904 103 from by rw [eU4]; exact Xi_ne (by omega)).trans ( (show Xi U3 904 103 = Xi U2 904 103 from by rw [eU3]; exact Xi_ne (by omega)).trans ( (show Xi U2 904 103 = Xi U1 904 103 from by rw [eU2]; exact Xi_ne (by omega)).trans ((show Xi U1 904 103 = Xi S 904 103 from by rw [eU1]; exact Xi_ne (by omega)))))))
        have w76 : Xi T6 904 116 = Xi U5 904 116 := (show Xi T6 904 116 = Xi U5 904 116 from w35.x _ _ rfl)
        have w77 : Xi T6 904 15 = Xi S 904 15 := (show Xi T6 904 15 = Xi U5 904 15 from w35.x _ _ rfl).trans ( (show Xi U5 904 15 = Xi U4 904 15 from by rw [eU5]; exact Xi_ne (by omega)).trans ( (show Xi U4 904 15 = Xi U3 904 15 from by rw [eU4]; exact Xi_ne (by omega)).trans ( (show Xi U3 904 15 = Xi U2 904 15 from by rw [eU3]; exact Xi_ne (by omega)).trans ( (show Xi U2 904 15 = Xi U1 904 15 from by rw [eU2]; exact Xi_ne (by omega)).trans ((show Xi U1 904 15 = Xi S 904 15 from by rw [eU1]; exact Xi_ne (by omega)))))))
        have w78 : Xi T6 904 70 = Xi S 904 70 := (show Xi T6 904 70 = Xi U5 904 70 from w35.x _ _ rfl).trans ( (show Xi U5 904 70 = Xi U4 904 70 from by rw [eU5]; exact Xi_ne (by omega)).trans ( (show Xi U4 904 70 = Xi U3 904 70 from by rw [eU4]; exact Xi_ne (by omega)).trans ( (show Xi U3 904 70 = Xi U2 904 70 from by rw [eU3]; exact Xi_ne (by omega)).trans ( (show Xi U2 904 70 = Xi U1 904 70 from by rw [eU2]; exact Xi_ne (by omega)).trans ((show Xi U1 904 70 = Xi S 904 70 from by rw [eU1]; exact Xi_ne (by omega)))))))
        refine y_callV rfl rfl rfl (t_mo_need__p hHT6 1 4 (Xi T6 950 (((Xi S 904 102)).toNat)) ⟨by omega, by omega⟩ ⟨by omega, by omega⟩ ⟨by omega, by omega⟩ _) ?_
        rintro _ T9 ⟨hHT9, w80, rfl, nt80⟩
        have hFT9 : FR md_mo_actingMeant__1 S T9 := FR.tr hFT6 w80 rfl
        show Pl _ _ _ _ _ _ [] _ _
        have F80 := (by assumption : FR md_mo_need__p T6 T9)
        have N80 : NT3 T9 = (if 0 < z34 then NT3 T6 else ntF (NT3 T6) 4 (pR S (Xi S 904 102))) := by rw [← p79]; first | (rw [if_pos (by omega)]; exact nt80.trans (if_neg (by decide))) | (rw [if_neg (by omega)]; exact nt80.trans (if_pos rfl))
        refine y_aload_n rfl rfl ?_
        refine y_iload_n rfl rfl ?_
        refine y_iconst rfl ?_
        refine y_icmp_ge rfl rfl (by unfold rg; omega) (by unfold rg; omega) (fun w81 => ?_) (fun w82 => ?_)
        · refine y_iconst rfl ?_
          refine y_bipush rfl rfl ?_
          refine y_aload_n rfl rfl ?_
          refine y_gfr rfl rfl rfl rfl rfl (hHT9.r 904 67 950 rfl) ?_
          refine y_iload_n rfl rfl ?_
          refine y_ialoadP (n := 2600) rfl rfl (by unfold rg; omega) (fun w83 w84 => ?_)
          have w85 : (Xi T9 950 (((Xi S 904 102)).toNat)) = (Xi T6 950 (((Xi S 904 102)).toNat)) := (show Xi T9 950 (((Xi S 904 102)).toNat) = Xi T6 950 (((Xi S 904 102)).toNat) from w80.x _ _ rfl)
          rw [w85]
          have v101 : (Xi T6 950 (((Xi S 904 102)).toNat)) = Xi S 950 (Xi S 904 102).toNat := by first | exact v79 | (rw [(hFT6.cx 950 rfl _).1, a44])
          have p101 : Xi T9 908 ((Xi T6 950 (((Xi S 904 102)).toNat))).toNat = pR S (Xi S 904 102) := by unfold pR; rw [(hFT9.cx 908 rfl _).1, v101]
          have w86 : Xi T9 904 102 = Xi S 904 102 := (show Xi T9 904 102 = Xi T6 904 102 from w80.x _ _ rfl).trans ( (show Xi T6 904 102 = Xi U5 904 102 from w35.x _ _ rfl).trans ( (show Xi U5 904 102 = Xi U4 904 102 from by rw [eU5]; exact Xi_ne (by omega)).trans ( (show Xi U4 904 102 = Xi U3 904 102 from by rw [eU4]; exact Xi_ne (by omega)).trans ( (show Xi U3 904 102 = Xi U2 904 102 from by rw [eU3]; exact Xi_ne (by omega)).trans ( (show Xi U2 904 102 = Xi U1 904 102 from by rw [eU2]; exact Xi_ne (by omega)).trans ((show Xi U1 904 102 = Xi S 904 102 from by rw [eU1]; exact Xi_ne (by omega))))))))
          have w87 : Xi T9 904 103 = Xi S 904 103 := (show Xi T9 904 103 = Xi T6 904 103 from w80.x _ _ rfl).trans ( (show Xi T6 904 103 = Xi U5 904 103 from w35.x _ _ rfl).trans ( (show Xi U5 904 103 = Xi U4 904 103 from by rw [eU5]; exact Xi_ne (by omega)).trans ( (show Xi U4 904 103 = Xi U3 904 103 from by rw [eU4]; exact Xi_ne (by omega)).trans ( (show Xi U3 904 103 = Xi U2 904 103 from by rw [eU3]; exact Xi_ne (by omega)).trans ( (show Xi U2 904 103 = Xi U1 904 103 from by rw [eU2]; exact Xi_ne (by omega)).trans ((show Xi U1 904 103 = Xi S 904 103 from by rw [eU1]; exact Xi_ne (by omega))))))))
          have w88 : Xi T9 904 116 = Xi U5 904 116 := (show Xi T9 904 116 = Xi T6 904 116 from w80.x _ _ rfl).trans ((show Xi T6 904 116 = Xi U5 904 116 from w35.x _ _ rfl))
          have w89 : Xi T9 904 128 = Xi T6 904 128 := (show Xi T9 904 128 = Xi T6 904 128 from w80.x _ _ rfl)
          have w90 : Xi T9 904 129 = Xi T6 904 129 := (show Xi T9 904 129 = Xi T6 904 129 from w80.x _ _ rfl)
          have w91 : Xi T9 904 15 = Xi S 904 15 := (show Xi T9 904 15 = Xi T6 904 15 from w80.x _ _ rfl).trans ( (show Xi T6 904 15 = Xi U5 904 15 from w35.x _ _ rfl).trans ( (show Xi U5 904 15 = Xi U4 904 15 from by rw [eU5]; exact Xi_ne (by omega)).trans ( (show Xi U4 904 15 = Xi U3 904 15 from by rw [eU4]; exact Xi_ne (by omega)).trans ( (show Xi U3 904 15 = Xi U2 904 15 from by rw [eU3]; exact Xi_ne (by omega)).trans ( (show Xi U2 904 15 = Xi U1 904 15 from by rw [eU2]; exact Xi_ne (by omega)).trans ((show Xi U1 904 15 = Xi S 904 15 from by rw [eU1]; exact Xi_ne (by omega))))))))
          have w92 : Xi T9 904 70 = Xi S 904 70 := (show Xi T9 904 70 = Xi T6 904 70 from w80.x _ _ rfl).trans ( (show Xi T6 904 70 = Xi U5 904 70 from w35.x _ _ rfl).trans ( (show Xi U5 904 70 = Xi U4 904 70 from by rw [eU5]; exact Xi_ne (by omega)).trans ( (show Xi U4 904 70 = Xi U3 904 70 from by rw [eU4]; exact Xi_ne (by omega)).trans ( (show Xi U3 904 70 = Xi U2 904 70 from by rw [eU3]; exact Xi_ne (by omega)).trans ( (show Xi U2 904 70 = Xi U1 904 70 from by rw [eU2]; exact Xi_ne (by omega)).trans ((show Xi U1 904 70 = Xi S 904 70 from by rw [eU1]; exact Xi_ne (by omega))))))))
          refine y_callV rfl rfl rfl (t_mo_need__p hHT9 0 7 (Xi T6 950 (((Xi S 904 102)).toNat)) ⟨by omega, by omega⟩ ⟨by omega, by omega⟩ ⟨by omega, by omega⟩ _) ?_
          rintro _ T10 ⟨hHT10, w94, rfl, nt102⟩
          have hFT10 : FR md_mo_actingMeant__1 S T10 := FR.tr hFT9 w94 rfl
          show Pl _ _ _ _ _ _ [] _ _
          have F102 := (by assumption : FR md_mo_need__p T9 T10)
          have N102 : NT3 T10 = (if z34 < 2 then NT3 T9 else ntF (NT3 T9) 7 (pR S (Xi S 904 102))) := by rw [← p101]; first | (rw [if_pos (by omega)]; exact nt102.trans (if_neg (by decide))) | (rw [if_neg (by omega)]; exact nt102.trans (if_pos rfl))
          refine y_iload_n rfl rfl ?_
          refine y_if_le rfl rfl (by unfold rg; omega) (fun w95 => ?_) (fun w96 => ?_)
          · exfalso; omega
          · refine y_aload_n rfl rfl ?_
            refine y_gfr rfl rfl rfl rfl rfl (hHT10.r 904 132 979 rfl) ?_
            refine y_iload_n rfl rfl ?_
            refine y_aload_n rfl rfl ?_
            refine y_gfi rfl rfl rfl rfl rfl ?_
            have w97 : -2147483648 ≤ (Xi T10 904 128) ∧ (Xi T10 904 128) ≤ 2147483647 := Xi_rgI
            have t115 : (Xi T10 904 128) = Xi T6 904 128 := by rw [F102.x 904 128 rfl, F80.x 904 128 rfl]
            refine y_iastoreP (n := 24) rfl rfl (by unfold rg; omega) (fun w98 w99 => ?_)
            obtain ⟨U11, eU11⟩ : ∃ T : sS, T = uI T10 979 ((l).toNat) (Int32.ofInt (Xi T10 904 128)) := ⟨_, rfl⟩
            rw [← eU11]
            have hHU11 : RI U11 := by rw [eU11]; exact RI_w hHT10
            have hFU11 : FR md_mo_actingMeant__1 S U11 := by rw [eU11]; exact FR.wI hFT10 (mdf_i (r := (979, 980, 0, 100000)) (List.mem_of_getElem? (i := 13) rfl) (inR_i (by omega) (by omega) (by omega) (by omega)))
            have w100 : Xi U11 979 ((l).toNat) = (Xi T10 904 128) := by rw [eU11]; exact Xi_same (by unfold rg; omega)
            have e118 := eU11
            refine y_aload_n rfl rfl ?_
            refine y_gfr rfl rfl rfl rfl rfl (hHU11.r 904 133 980 rfl) ?_
            refine y_iload_n rfl rfl ?_
            refine y_aload_n rfl rfl ?_
            refine y_gfi rfl rfl rfl rfl rfl ?_
            have w101 : -2147483648 ≤ (Xi U11 904 129) ∧ (Xi U11 904 129) ≤ 2147483647 := Xi_rgI
            have t125 : (Xi U11 904 129) = Xi T6 904 129 := by first | (rw [F102.x 904 129 rfl, F80.x 904 129 rfl]) | (rw [e118, Xi_ne (by omega), F102.x 904 129 rfl, F80.x 904 129 rfl])
            refine y_iastoreP (n := 24) rfl rfl (by unfold rg; omega) (fun w102 w103 => ?_)
            obtain ⟨U12, eU12⟩ : ∃ T : sS, T = uI U11 980 ((l).toNat) (Int32.ofInt (Xi U11 904 129)) := ⟨_, rfl⟩
            rw [← eU12]
            have hHU12 : RI U12 := by rw [eU12]; exact RI_w hHU11
            have hFU12 : FR md_mo_actingMeant__1 S U12 := by rw [eU12]; exact FR.wI hFU11 (mdf_i (r := (980, 981, 0, 100000)) (List.mem_of_getElem? (i := 14) rfl) (inR_i (by omega) (by omega) (by omega) (by omega)))
            have w104 : Xi U12 980 ((l).toNat) = (Xi U11 904 129) := by rw [eU12]; exact Xi_same (by unfold rg; omega)
            have e128 := eU12
            refine y_aload_n rfl rfl ?_
            refine y_aload_n rfl rfl ?_
            refine y_gfi rfl rfl rfl rfl rfl ?_
            have w105 : (Xi U12 904 129) = (Xi U11 904 129) := (show Xi U12 904 129 = Xi U11 904 129 from by rw [eU12]; exact Xi_ne (by omega))
            rw [w105]
            have t131 : (Xi U11 904 129) = Xi T6 904 129 := by first | exact t125 | (rw [e128, Xi_ne (by omega)]; exact t125)
            refine y_iconst rfl ?_
            refine y_icmp_eq rfl rfl (by unfold rg; omega) (by unfold rg; omega) (fun w106 => ?_) (fun w107 => ?_)
            · refine y_iconst rfl ?_
              refine y_aload_n rfl rfl ?_
              refine y_gfr rfl rfl rfl rfl rfl (hHU12.r 904 50 942 rfl) ?_
              refine y_aload_n rfl rfl ?_
              refine y_gfi rfl rfl rfl rfl rfl ?_
              have w108 : (Xi U12 904 128) = (Xi T10 904 128) := (show Xi U12 904 128 = Xi U11 904 128 from by rw [eU12]; exact Xi_ne (by omega)).trans ((show Xi U11 904 128 = Xi T10 904 128 from by rw [eU11]; exact Xi_ne (by omega)))
              rw [w108]
              have t156 : (Xi T10 904 128) = Xi T6 904 128 := by first | exact t115 | (rw [e128, Xi_ne (by omega), e118, Xi_ne (by omega)]; exact t115)
              refine y_ialoadP (n := 12) rfl rfl (by unfold rg; omega) (fun w109 w110 => ?_)
              have w111 : -2147483648 ≤ (Xi U12 942 (((Xi T10 904 128)).toNat)) ∧ (Xi U12 942 (((Xi T10 904 128)).toNat)) ≤ 2147483647 := Xi_rgI
              have k159 : (Xi U12 942 (((Xi T10 904 128)).toNat)) = Xi S 942 (Xi T6 904 128).toNat := by rw [(hFU12.cx 942 rfl _).1, t156]
              refine y_max rfl rfl rfl (by unfold rg; omega) (by unfold rg; omega) ?_
              have K163 : nkA S T6 = (if (-1) < (Xi U12 942 (((Xi T10 904 128)).toNat)) then (Xi U12 942 (((Xi T10 904 128)).toNat)) else (-1)) := by unfold nkA; rw [if_neg (by rw [← t131]; omega), ← k159]
              refine y_pfi rfl rfl rfl rfl ?_
              obtain ⟨U13, eU13⟩ : ∃ T : sS, T = uI U12 904 116 (Int32.ofInt (if (-1) < (Xi U12 942 (((Xi T10 904 128)).toNat)) then (Xi U12 942 (((Xi T10 904 128)).toNat)) else (-1))) := ⟨_, rfl⟩
              rw [← eU13]
              have hHU13 : RI U13 := by rw [eU13]; exact RI_w hHU12
              have hFU13 : FR md_mo_actingMeant__1 S U13 := by rw [eU13]; exact FR.wI hFU12 (mdf_i (r := (904, 905, 116, 117)) (List.mem_of_getElem? (i := 8) rfl) (inR_i (by omega) (by omega) (by omega) (by omega)))
              have w112 : Xi U13 904 116 = (if (-1) < (Xi U12 942 (((Xi T10 904 128)).toNat)) then (Xi U12 942 (((Xi T10 904 128)).toNat)) else (-1)) := by rw [eU13]; exact Xi_same (by unfold rg; omega)
              have e163 := eU13
              refine y_return rfl rfl ?_
              exact ⟨hHU13, hFU13, rfl, (by first | (have u := e163; exact ⟨_, _, _, _, by rw [← A30, ← a44]; exact o59, by rw [← A30]; exact F59, N80, F80, N102, F102, fun w => absurd (by omega) w, fun _ => by rw [K163, ← t115, ← t125, ← e118, ← e128]; exact e163⟩) | exact ⟨_, _, _, _, by rw [← A30, ← a44]; exact o59, by rw [← A30]; exact F59, N80, F80, N102, F102, fun _ => rfl, fun w => absurd w (by omega)⟩)⟩
            · refine y_aload_n rfl rfl ?_
              refine y_gfr rfl rfl rfl rfl rfl (hHU12.r 904 20 918 rfl) ?_
              refine y_aload_n rfl rfl ?_
              refine y_gfi rfl rfl rfl rfl rfl ?_
              have w119 : (Xi U12 904 129) = (Xi U11 904 129) := (show Xi U12 904 129 = Xi U11 904 129 from by rw [eU12]; exact Xi_ne (by omega))
              rw [w119]
              have t143 : (Xi U11 904 129) = Xi T6 904 129 := by first | exact t131 | exact t125
              refine y_ialoadP (n := 24) rfl rfl (by unfold rg; omega) (fun w120 w121 => ?_)
              have w122 : -2147483648 ≤ (Xi U12 918 (((Xi U11 904 129)).toNat)) ∧ (Xi U12 918 (((Xi U11 904 129)).toNat)) ≤ 2147483647 := Xi_rgI
              have k146 : (Xi U12 918 (((Xi U11 904 129)).toNat)) = Xi S 918 (Xi T6 904 129).toNat := by rw [(hFU12.cx 918 rfl _).1, t143]
              have K163 : nkA S T6 = (Xi U12 918 (((Xi U11 904 129)).toNat)) := by unfold nkA; rw [if_pos (by rw [← t131]; omega)]; exact k146.symm
              refine y_goto rfl rfl ?_
              refine y_pfi rfl rfl rfl rfl ?_
              obtain ⟨U14, eU14⟩ : ∃ T : sS, T = uI U12 904 116 (Int32.ofInt (Xi U12 918 (((Xi U11 904 129)).toNat))) := ⟨_, rfl⟩
              rw [← eU14]
              have hHU14 : RI U14 := by rw [eU14]; exact RI_w hHU12
              have hFU14 : FR md_mo_actingMeant__1 S U14 := by rw [eU14]; exact FR.wI hFU12 (mdf_i (r := (904, 905, 116, 117)) (List.mem_of_getElem? (i := 8) rfl) (inR_i (by omega) (by omega) (by omega) (by omega)))
              have w123 : Xi U14 904 116 = (Xi U12 918 (((Xi U11 904 129)).toNat)) := by rw [eU14]; exact Xi_same (by unfold rg; omega)
              have e163 := eU14
              refine y_return rfl rfl ?_
              exact ⟨hHU14, hFU14, rfl, (by first | (have u := e163; exact ⟨_, _, _, _, by rw [← A30, ← a44]; exact o59, by rw [← A30]; exact F59, N80, F80, N102, F102, fun w => absurd (by omega) w, fun _ => by rw [K163, ← t115, ← t125, ← e118, ← e128]; exact e163⟩) | exact ⟨_, _, _, _, by rw [← A30, ← a44]; exact o59, by rw [← A30]; exact F59, N80, F80, N102, F102, fun _ => rfl, fun w => absurd w (by omega)⟩)⟩
        · refine y_iconst rfl ?_
          refine y_goto rfl rfl ?_
          refine y_bipush rfl rfl ?_
          refine y_aload_n rfl rfl ?_
          refine y_gfr rfl rfl rfl rfl rfl (hHT9.r 904 67 950 rfl) ?_
          refine y_iload_n rfl rfl ?_
          refine y_ialoadP (n := 2600) rfl rfl (by unfold rg; omega) (fun w130 w131 => ?_)
          have w132 : (Xi T9 950 (((Xi S 904 102)).toNat)) = (Xi T6 950 (((Xi S 904 102)).toNat)) := (show Xi T9 950 (((Xi S 904 102)).toNat) = Xi T6 950 (((Xi S 904 102)).toNat) from w80.x _ _ rfl)
          rw [w132]
          have v101 : (Xi T6 950 (((Xi S 904 102)).toNat)) = Xi S 950 (Xi S 904 102).toNat := by first | exact v79 | (rw [(hFT6.cx 950 rfl _).1, a44])
          have p101 : Xi T9 908 ((Xi T6 950 (((Xi S 904 102)).toNat))).toNat = pR S (Xi S 904 102) := by unfold pR; rw [(hFT9.cx 908 rfl _).1, v101]
          have w133 : Xi T9 904 102 = Xi S 904 102 := (show Xi T9 904 102 = Xi T6 904 102 from w80.x _ _ rfl).trans ( (show Xi T6 904 102 = Xi U5 904 102 from w35.x _ _ rfl).trans ( (show Xi U5 904 102 = Xi U4 904 102 from by rw [eU5]; exact Xi_ne (by omega)).trans ( (show Xi U4 904 102 = Xi U3 904 102 from by rw [eU4]; exact Xi_ne (by omega)).trans ( (show Xi U3 904 102 = Xi U2 904 102 from by rw [eU3]; exact Xi_ne (by omega)).trans ( (show Xi U2 904 102 = Xi U1 904 102 from by rw [eU2]; exact Xi_ne (by omega)).trans ((show Xi U1 904 102 = Xi S 904 102 from by rw [eU1]; exact Xi_ne (by omega))))))))
          have w134 : Xi T9 904 103 = Xi S 904 103 := (show Xi T9 904 103 = Xi T6 904 103 from w80.x _ _ rfl).trans ( (show Xi T6 904 103 = Xi U5 904 103 from w35.x _ _ rfl).trans ( (show Xi U5 904 103 = Xi U4 904 103 from by rw [eU5]; exact Xi_ne (by omega)).trans ( (show Xi U4 904 103 = Xi U3 904 103 from by rw [eU4]; exact Xi_ne (by omega)).trans ( (show Xi U3 904 103 = Xi U2 904 103 from by rw [eU3]; exact Xi_ne (by omega)).trans ( (show Xi U2 904 103 = Xi U1 904 103 from by rw [eU2]; exact Xi_ne (by omega)).trans ((show Xi U1 904 103 = Xi S 904 103 from by rw [eU1]; exact Xi_ne (by omega))))))))
          have w135 : Xi T9 904 116 = Xi U5 904 116 := (show Xi T9 904 116 = Xi T6 904 116 from w80.x _ _ rfl).trans ((show Xi T6 904 116 = Xi U5 904 116 from w35.x _ _ rfl))
          have w136 : Xi T9 904 128 = Xi T6 904 128 := (show Xi T9 904 128 = Xi T6 904 128 from w80.x _ _ rfl)
          have w137 : Xi T9 904 129 = Xi T6 904 129 := (show Xi T9 904 129 = Xi T6 904 129 from w80.x _ _ rfl)
          have w138 : Xi T9 904 15 = Xi S 904 15 := (show Xi T9 904 15 = Xi T6 904 15 from w80.x _ _ rfl).trans ( (show Xi T6 904 15 = Xi U5 904 15 from w35.x _ _ rfl).trans ( (show Xi U5 904 15 = Xi U4 904 15 from by rw [eU5]; exact Xi_ne (by omega)).trans ( (show Xi U4 904 15 = Xi U3 904 15 from by rw [eU4]; exact Xi_ne (by omega)).trans ( (show Xi U3 904 15 = Xi U2 904 15 from by rw [eU3]; exact Xi_ne (by omega)).trans ( (show Xi U2 904 15 = Xi U1 904 15 from by rw [eU2]; exact Xi_ne (by omega)).trans ((show Xi U1 904 15 = Xi S 904 15 from by rw [eU1]; exact Xi_ne (by omega))))))))
          have w139 : Xi T9 904 70 = Xi S 904 70 := (show Xi T9 904 70 = Xi T6 904 70 from w80.x _ _ rfl).trans ( (show Xi T6 904 70 = Xi U5 904 70 from w35.x _ _ rfl).trans ( (show Xi U5 904 70 = Xi U4 904 70 from by rw [eU5]; exact Xi_ne (by omega)).trans ( (show Xi U4 904 70 = Xi U3 904 70 from by rw [eU4]; exact Xi_ne (by omega)).trans ( (show Xi U3 904 70 = Xi U2 904 70 from by rw [eU3]; exact Xi_ne (by omega)).trans ( (show Xi U2 904 70 = Xi U1 904 70 from by rw [eU2]; exact Xi_ne (by omega)).trans ((show Xi U1 904 70 = Xi S 904 70 from by rw [eU1]; exact Xi_ne (by omega))))))))
          refine y_callV rfl rfl rfl (t_mo_need__p hHT9 1 7 (Xi T6 950 (((Xi S 904 102)).toNat)) ⟨by omega, by omega⟩ ⟨by omega, by omega⟩ ⟨by omega, by omega⟩ _) ?_
          rintro _ T15 ⟨hHT15, w141, rfl, nt102⟩
          have hFT15 : FR md_mo_actingMeant__1 S T15 := FR.tr hFT9 w141 rfl
          show Pl _ _ _ _ _ _ [] _ _
          have F102 := (by assumption : FR md_mo_need__p T9 T15)
          have N102 : NT3 T15 = (if z34 < 2 then NT3 T9 else ntF (NT3 T9) 7 (pR S (Xi S 904 102))) := by rw [← p101]; first | (rw [if_pos (by omega)]; exact nt102.trans (if_neg (by decide))) | (rw [if_neg (by omega)]; exact nt102.trans (if_pos rfl))
          refine y_iload_n rfl rfl ?_
          refine y_if_le rfl rfl (by unfold rg; omega) (fun w142 => ?_) (fun w143 => ?_)
          · exfalso; omega
          · refine y_aload_n rfl rfl ?_
            refine y_gfr rfl rfl rfl rfl rfl (hHT15.r 904 132 979 rfl) ?_
            refine y_iload_n rfl rfl ?_
            refine y_aload_n rfl rfl ?_
            refine y_gfi rfl rfl rfl rfl rfl ?_
            have w144 : -2147483648 ≤ (Xi T15 904 128) ∧ (Xi T15 904 128) ≤ 2147483647 := Xi_rgI
            have t115 : (Xi T15 904 128) = Xi T6 904 128 := by rw [F102.x 904 128 rfl, F80.x 904 128 rfl]
            refine y_iastoreP (n := 24) rfl rfl (by unfold rg; omega) (fun w145 w146 => ?_)
            obtain ⟨U16, eU16⟩ : ∃ T : sS, T = uI T15 979 ((l).toNat) (Int32.ofInt (Xi T15 904 128)) := ⟨_, rfl⟩
            rw [← eU16]
            have hHU16 : RI U16 := by rw [eU16]; exact RI_w hHT15
            have hFU16 : FR md_mo_actingMeant__1 S U16 := by rw [eU16]; exact FR.wI hFT15 (mdf_i (r := (979, 980, 0, 100000)) (List.mem_of_getElem? (i := 13) rfl) (inR_i (by omega) (by omega) (by omega) (by omega)))
            have w147 : Xi U16 979 ((l).toNat) = (Xi T15 904 128) := by rw [eU16]; exact Xi_same (by unfold rg; omega)
            have e118 := eU16
            refine y_aload_n rfl rfl ?_
            refine y_gfr rfl rfl rfl rfl rfl (hHU16.r 904 133 980 rfl) ?_
            refine y_iload_n rfl rfl ?_
            refine y_aload_n rfl rfl ?_
            refine y_gfi rfl rfl rfl rfl rfl ?_
            have w148 : -2147483648 ≤ (Xi U16 904 129) ∧ (Xi U16 904 129) ≤ 2147483647 := Xi_rgI
            have t125 : (Xi U16 904 129) = Xi T6 904 129 := by first | (rw [F102.x 904 129 rfl, F80.x 904 129 rfl]) | (rw [e118, Xi_ne (by omega), F102.x 904 129 rfl, F80.x 904 129 rfl])
            refine y_iastoreP (n := 24) rfl rfl (by unfold rg; omega) (fun w149 w150 => ?_)
            obtain ⟨U17, eU17⟩ : ∃ T : sS, T = uI U16 980 ((l).toNat) (Int32.ofInt (Xi U16 904 129)) := ⟨_, rfl⟩
            rw [← eU17]
            have hHU17 : RI U17 := by rw [eU17]; exact RI_w hHU16
            have hFU17 : FR md_mo_actingMeant__1 S U17 := by rw [eU17]; exact FR.wI hFU16 (mdf_i (r := (980, 981, 0, 100000)) (List.mem_of_getElem? (i := 14) rfl) (inR_i (by omega) (by omega) (by omega) (by omega)))
            have w151 : Xi U17 980 ((l).toNat) = (Xi U16 904 129) := by rw [eU17]; exact Xi_same (by unfold rg; omega)
            have e128 := eU17
            refine y_aload_n rfl rfl ?_
            refine y_aload_n rfl rfl ?_
            refine y_gfi rfl rfl rfl rfl rfl ?_
            have w152 : (Xi U17 904 129) = (Xi U16 904 129) := (show Xi U17 904 129 = Xi U16 904 129 from by rw [eU17]; exact Xi_ne (by omega))
            rw [w152]
            have t131 : (Xi U16 904 129) = Xi T6 904 129 := by first | exact t125 | (rw [e128, Xi_ne (by omega)]; exact t125)
            refine y_iconst rfl ?_
            refine y_icmp_eq rfl rfl (by unfold rg; omega) (by unfold rg; omega) (fun w153 => ?_) (fun w154 => ?_)
            · refine y_iconst rfl ?_
              refine y_aload_n rfl rfl ?_
              refine y_gfr rfl rfl rfl rfl rfl (hHU17.r 904 50 942 rfl) ?_
              refine y_aload_n rfl rfl ?_
              refine y_gfi rfl rfl rfl rfl rfl ?_
              have w155 : (Xi U17 904 128) = (Xi T15 904 128) := (show Xi U17 904 128 = Xi U16 904 128 from by rw [eU17]; exact Xi_ne (by omega)).trans ((show Xi U16 904 128 = Xi T15 904 128 from by rw [eU16]; exact Xi_ne (by omega)))
              rw [w155]
              have t156 : (Xi T15 904 128) = Xi T6 904 128 := by first | exact t115 | (rw [e128, Xi_ne (by omega), e118, Xi_ne (by omega)]; exact t115)
              refine y_ialoadP (n := 12) rfl rfl (by unfold rg; omega) (fun w156 w157 => ?_)
              have w158 : -2147483648 ≤ (Xi U17 942 (((Xi T15 904 128)).toNat)) ∧ (Xi U17 942 (((Xi T15 904 128)).toNat)) ≤ 2147483647 := Xi_rgI
              have k159 : (Xi U17 942 (((Xi T15 904 128)).toNat)) = Xi S 942 (Xi T6 904 128).toNat := by rw [(hFU17.cx 942 rfl _).1, t156]
              refine y_max rfl rfl rfl (by unfold rg; omega) (by unfold rg; omega) ?_
              have K163 : nkA S T6 = (if (-1) < (Xi U17 942 (((Xi T15 904 128)).toNat)) then (Xi U17 942 (((Xi T15 904 128)).toNat)) else (-1)) := by unfold nkA; rw [if_neg (by rw [← t131]; omega), ← k159]
              refine y_pfi rfl rfl rfl rfl ?_
              obtain ⟨U18, eU18⟩ : ∃ T : sS, T = uI U17 904 116 (Int32.ofInt (if (-1) < (Xi U17 942 (((Xi T15 904 128)).toNat)) then (Xi U17 942 (((Xi T15 904 128)).toNat)) else (-1))) := ⟨_, rfl⟩
              rw [← eU18]
              have hHU18 : RI U18 := by rw [eU18]; exact RI_w hHU17
              have hFU18 : FR md_mo_actingMeant__1 S U18 := by rw [eU18]; exact FR.wI hFU17 (mdf_i (r := (904, 905, 116, 117)) (List.mem_of_getElem? (i := 8) rfl) (inR_i (by omega) (by omega) (by omega) (by omega)))
              have w159 : Xi U18 904 116 = (if (-1) < (Xi U17 942 (((Xi T15 904 128)).toNat)) then (Xi U17 942 (((Xi T15 904 128)).toNat)) else (-1)) := by rw [eU18]; exact Xi_same (by unfold rg; omega)
              have e163 := eU18
              refine y_return rfl rfl ?_
              exact ⟨hHU18, hFU18, rfl, (by first | (have u := e163; exact ⟨_, _, _, _, by rw [← A30, ← a44]; exact o59, by rw [← A30]; exact F59, N80, F80, N102, F102, fun w => absurd (by omega) w, fun _ => by rw [K163, ← t115, ← t125, ← e118, ← e128]; exact e163⟩) | exact ⟨_, _, _, _, by rw [← A30, ← a44]; exact o59, by rw [← A30]; exact F59, N80, F80, N102, F102, fun _ => rfl, fun w => absurd w (by omega)⟩)⟩
            · refine y_aload_n rfl rfl ?_
              refine y_gfr rfl rfl rfl rfl rfl (hHU17.r 904 20 918 rfl) ?_
              refine y_aload_n rfl rfl ?_
              refine y_gfi rfl rfl rfl rfl rfl ?_
              have w166 : (Xi U17 904 129) = (Xi U16 904 129) := (show Xi U17 904 129 = Xi U16 904 129 from by rw [eU17]; exact Xi_ne (by omega))
              rw [w166]
              have t143 : (Xi U16 904 129) = Xi T6 904 129 := by first | exact t131 | exact t125
              refine y_ialoadP (n := 24) rfl rfl (by unfold rg; omega) (fun w167 w168 => ?_)
              have w169 : -2147483648 ≤ (Xi U17 918 (((Xi U16 904 129)).toNat)) ∧ (Xi U17 918 (((Xi U16 904 129)).toNat)) ≤ 2147483647 := Xi_rgI
              have k146 : (Xi U17 918 (((Xi U16 904 129)).toNat)) = Xi S 918 (Xi T6 904 129).toNat := by rw [(hFU17.cx 918 rfl _).1, t143]
              have K163 : nkA S T6 = (Xi U17 918 (((Xi U16 904 129)).toNat)) := by unfold nkA; rw [if_pos (by rw [← t131]; omega)]; exact k146.symm
              refine y_goto rfl rfl ?_
              refine y_pfi rfl rfl rfl rfl ?_
              obtain ⟨U19, eU19⟩ : ∃ T : sS, T = uI U17 904 116 (Int32.ofInt (Xi U17 918 (((Xi U16 904 129)).toNat))) := ⟨_, rfl⟩
              rw [← eU19]
              have hHU19 : RI U19 := by rw [eU19]; exact RI_w hHU17
              have hFU19 : FR md_mo_actingMeant__1 S U19 := by rw [eU19]; exact FR.wI hFU17 (mdf_i (r := (904, 905, 116, 117)) (List.mem_of_getElem? (i := 8) rfl) (inR_i (by omega) (by omega) (by omega) (by omega)))
              have w170 : Xi U19 904 116 = (Xi U17 918 (((Xi U16 904 129)).toNat)) := by rw [eU19]; exact Xi_same (by unfold rg; omega)
              have e163 := eU19
              refine y_return rfl rfl ?_
              exact ⟨hHU19, hFU19, rfl, (by first | (have u := e163; exact ⟨_, _, _, _, by rw [← A30, ← a44]; exact o59, by rw [← A30]; exact F59, N80, F80, N102, F102, fun w => absurd (by omega) w, fun _ => by rw [K163, ← t115, ← t125, ← e118, ← e128]; exact e163⟩) | exact ⟨_, _, _, _, by rw [← A30, ← a44]; exact o59, by rw [← A30]; exact F59, N80, F80, N102, F102, fun _ => rfl, fun w => absurd w (by omega)⟩)⟩
  · exfalso; omega
end
