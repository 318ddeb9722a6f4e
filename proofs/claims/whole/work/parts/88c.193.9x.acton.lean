section
/-! rules of the class: ACTING with ART RUN -/
theorem ccC_F {l : List rec} {S T : sS} (h : FR l S T) (e : (kdis l kA && !(mdf l 1 3)) = true) (e6 : kdis l [(6, 7)] = true) {a t pl d al m : Int} : ccC T a t pl d al m = ccC S a t pl d al m := by
  have k : ckC T t pl m = ckC S t pl m := fnd_FR h e
  unfold ccC cokC
  rw [k, isK_F h e6, cpF_FR h e]
theorem ccT_F {l : List rec} {S T : sS} (h : FR l S T) (e : (kdis l kA && !(mdf l 1 3)) = true) (e6 : kdis l [(6, 7)] = true) {a t pl d al v : Int} : ccT T a t pl d al v = ccT S a t pl d al v := by
  unfold ccT
  rw [ccC_F h e e6, ccC_F h e e6, ccC_F h e e6]
def obI (S : sS) (l h k : Int) : Int := if 0 ≤ whoC S l h ∧ isK S (whkC S l h) k ≠ 0 then 1 else 0
def rdC (S : sS) (l h k : Int) : Int := if h - l ≤ 6 then ccT S l h 0 1 k 4 else 0
theorem rdC_b {S : sS} {l h k : Int} : 0 ≤ rdC S l h k ∧ rdC S l h k ≤ 13349232 := by
  have u1 := ccC_nn (S := S) (a := l) (t := h) (pl := 0) (d := 1) (al := k) (m := 1)
  have u2 := ccC_nn (S := S) (a := l) (t := h) (pl := 0) (d := 1) (al := k) (m := 2)
  have u3 := ccC_nn (S := S) (a := l) (t := h) (pl := 0) (d := 1) (al := k) (m := 3)
  unfold rdC ccT
  split
  · split <;> split <;> split <;> omega
  · omega
def AOM (S T : sS) (ru : Nat) (A K l h : Int) : Prop := ∃ m : Int, (1 ≤ m ∧ m ≤ 3 ∧ m ≤ h - l) ∧ ccC S l h 0 1 K m = 1 ∧ Xi T (248 + ru) 1 = A ∧ Xi T (248 + ru) 3 = ckC S h 0 m ∧ Xi T (248 + ru) 4 = Xi T 895 14 ∧ (∀ j : Nat, j ≠ 1 → j ≠ 3 → j ≠ 4 → Xi T (248 + ru) j = Xi S (248 + ru) j) ∧ KPC T (fA S (ckC S h 0 m) l 1) (g1C S l) (g2C S (ckC S h 0 m) l) (h - m - l) ∧ KRU S T ru
def AOC (S T : sS) (n : Nat) : Prop := Xi T 246 5 = Xi S 246 5 + n ∧ (∀ i : Nat, i < n → CLM T ((Xi S 246 5).toNat + i) (if Xi T 897 i = -1 then 0 else 1) 0 (-2) (if Xi T 897 i = -1 then Xi T 896 i else Xi T 897 i) (Xi T 896 i) 0 (-1)) ∧ (∀ c j : Nat, c < (Xi S 246 5).toNat → Xi T (276 + c) j = Xi S (276 + c) j)
def AOW (S S1 : sS) (ru : Nat) (A o : Int) : Prop := KRU S S1 ru ∧ (∀ j : Nat, j ≠ 1 → j ≠ 2 → Xi S1 (248 + ru) j = Xi S (248 + ru) j) ∧ Xi S1 (248 + ru) 1 = A ∧ Xi S1 (248 + ru) 2 = o ∧ Xi S1 246 5 = Xi S 246 5 ∧ (∀ c j : Nat, c < 600 → Xi S1 (276 + c) j = Xi S (276 + c) j)
def AOR (S S1 : sS) (ru : Nat) (A K l h z : Int) : Prop :=
  (obI S l h K + rdC S l h K ≠ 1 → z = 0 ∧ FTO S S1 (if obI S l h K = 1 ∨ 0 < rdC S l h K then 7 else 4) l) ∧
  (obI S l h K + rdC S l h K = 1 → obI S l h K = 1 → z = 1 ∧ Xi S1 876 8 = 0 ∧ AOW S S1 ru A (whoC S l h)) ∧
  (obI S l h K + rdC S l h K = 1 → obI S l h K = 0 → z = 1 ∧ Xi S1 876 8 = 0 ∧ ∃ n : Nat, Xi S1 895 14 = n ∧ AOM S S1 ru A K l h ∧ AOC S S1 n)
def AOO (S S1 : sS) (ru : Nat) (a b h z : Int) : Prop :=
  (fnd S 8 a b = -1 → z = 0 ∧ FTO S S1 4 a) ∧ (fnd S 8 a b ≠ -1 → Xi S 19 (fnd S 8 a b).toNat < 0 → z = 0 ∧ FTO S S1 4 (b + 1)) ∧
  (fnd S 8 a b ≠ -1 → 0 ≤ Xi S 19 (fnd S 8 a b).toNat → AOR S S1 ru (fnd S 8 a b) (Xi S 19 (fnd S 8 a b).toNat) (b + 1) h z)
theorem aoo_r {S S1 : sS} {ru : Nat} {a b h z A K : Int} (hA : A = fnd S 8 a b) (hK : K = Xi S 19 (fnd S 8 a b).toNat) (n : A ≠ -1) (k : 0 ≤ K) (r : AOR S S1 ru A K (b + 1) h z) : AOO S S1 ru a b h z := by
  subst hA hK
  exact ⟨fun q => absurd q n, fun _ q => absurd k (by omega), fun _ _ => r⟩
theorem aor_f {S S1 : sS} {ru : Nat} {A K l h z o r c : Int} (ho : o = obI S l h K) (hr : r = rdC S l h K) (hn : o + r ≠ 1) (hz : z = 0) (hc : c = if o = 1 ∨ 0 < r then 7 else 4) (f : FTO S S1 c l) : AOR S S1 ru A K l h z := by
  subst ho hr hc
  exact ⟨fun _ => ⟨hz, f⟩, fun q => absurd q hn, fun q => absurd q hn⟩
theorem aor_o {S S1 : sS} {ru : Nat} {A K l h z o r : Int} (ho : o = obI S l h K) (hr : r = rdC S l h K) (hn : o + r = 1) (h1 : o = 1) (hz : z = 1) (f : Xi S1 876 8 = 0) (w : AOW S S1 ru A (whoC S l h)) : AOR S S1 ru A K l h z := by
  subst ho hr
  exact ⟨fun q => absurd hn q, fun _ _ => ⟨hz, f, w⟩, fun _ q => absurd q (by omega)⟩
theorem aor_k {S S1 : sS} {ru : Nat} {A K l h z : Int} {n : Nat} (hn : obI S l h K = 0 ∧ rdC S l h K = 1) (hz : z = 1) (f : Xi S1 876 8 = 0) (hl : Xi S1 895 14 = n) (m : AOM S S1 ru A K l h) (c : AOC S S1 n) : AOR S S1 ru A K l h z :=
  ⟨fun q => absurd hn (by omega), fun _ q => absurd q (by omega), fun _ _ => ⟨hz, f, n, hl, m, c⟩⟩
theorem aoc_s {S T U : sS} {n cl : Nat} (c : AOC S T n) (hcl : cl = (Xi S 246 5).toNat + n) (h6 : cl < 600) (k : KCL T U cl) (e5 : Xi U 246 5 = Xi T 246 5 + 1) (e6 : ∀ j, Xi U 896 j = Xi T 896 j) (e7 : ∀ j, Xi U 897 j = Xi T 897 j) (cm : CLM U cl (if Xi T 897 n = -1 then 0 else 1) 0 (-2) (if Xi T 897 n = -1 then Xi T 896 n else Xi T 897 n) (Xi T 896 n) 0 (-1)) : AOC S U (n + 1) := by
  obtain ⟨c1, c2, c3⟩ := c
  refine ⟨by omega, fun i hi => ?_, fun x j hx => ?_⟩
  · rw [e6, e7]
    by_cases q : i < n
    · exact clm_e (fun j => k _ j (by omega) (by omega)) (c2 i q)
    · rw [show i = n by omega, ← hcl]; exact cm
  · rw [k x j (by omega) (by omega)]; exact c3 x j hx
theorem aom_k {S T U : sS} {ru : Nat} {A K l h : Int} (m : AOM S T ru A K l h) (hr : ru < 24) (e4 : Xi U 895 14 = Xi T 895 14) (e6 : ∀ j, Xi U 896 j = Xi T 896 j) (e7 : ∀ j, Xi U 897 j = Xi T 897 j) (er : ∀ k j : Nat, k < 24 → Xi U (248 + k) j = Xi T (248 + k) j) : AOM S U ru A K l h := by
  obtain ⟨x, m1, m2, m3, m4, m5, m6, m7, m8⟩ := m
  refine ⟨x, m1, m2, by rw [er _ _ hr]; exact m3, by rw [er _ _ hr]; exact m4, by rw [er _ _ hr, e4]; exact m5, fun j p q r => by rw [er _ _ hr]; exact m6 j p q r, ?_, fun k j hk hn => by rw [er _ _ hk]; exact m8 k j hk hn⟩
  unfold KPC at m7 ⊢
  exact ⟨e4.trans m7.1, m7.2.1, fun i hi => by rw [e6, e7]; exact m7.2.2 i hi⟩
theorem nad_clm {T N W U : sS} {cl : Nat} {m p : Int} (hc : CLM N cl 0 0 (-1) (-1) 0 0 (-1)) (e : W = uI N (276 + cl) 2 (Int32.ofInt (-2))) (n : NAD W U cl m p) (f1 : Xi U (276 + cl) 1 = Xi W (276 + cl) 1) (f2 : Xi U (276 + cl) 2 = Xi W (276 + cl) 2) (f5 : Xi U (276 + cl) 5 = Xi W (276 + cl) 5) (f6 : Xi U (276 + cl) 6 = Xi W (276 + cl) 6) : CLM U cl (if p = -1 then 0 else 1) 0 (-2) (if p = -1 then m else p) m 0 (-1) := by
  obtain ⟨n1, n2, n3, n4⟩ := n
  obtain ⟨c0, c1, c2, c3, c4, c5, c6⟩ := hc
  refine ⟨n2, ?_, ?_, n3, n4, ?_, ?_⟩
  · rw [f1, e, Xi_ne (by omega)]; exact c1
  · rw [f2, e]; exact Xi_same (by unfold rg; omega)
  · rw [f5, e, Xi_ne (by omega)]; exact c5
  · rw [f6, e, Xi_ne (by omega)]; exact c6

def md_rr_actingOn__p : List rec := [(246, 247, 5, 6), (248, 272, 0, 100000), (276, 876, 0, 1), (276, 876, 1, 2), (276, 876, 2, 3), (276, 876, 3, 4), (276, 876, 4, 5), (276, 876, 5, 6), (276, 876, 6, 7), (876, 877, 8, 9), (876, 877, 9, 10), (895, 896, 5, 6), (895, 896, 6, 7), (895, 896, 7, 8), (895, 896, 8, 9), (895, 896, 9, 10), (895, 896, 12, 13), (895, 896, 13, 14), (895, 896, 14, 15), (896, 897, 0, 100000), (897, 898, 0, 100000), (898, 899, 0, 100000)]
abbrev Q_rr_actingOn__p (S : sS) (ru : Nat) (from_ : Int) (to : Int) : pst := fun r S1 => RI S1 ∧ FR md_rr_actingOn__p S S1 ∧ (∃ z : Int, r = some (iv z) ∧ (0 ≤ z ∧ z ≤ 1) ∧ (AOO S S1 ru from_ to (Xi S 899 5) z))
set_option maxRecDepth 100000 in
theorem t_rr_actingOn__p {S : sS} (hH : RI S) (ru : Nat) (from_ : Int) (to : Int) (hfrom_ : 0 ≤ from_ ∧ from_ ≤ 5130) (hto : 0 ≤ to ∧ to ≤ 5130) (hru : S.2.2 899 4 = some (248 + ru)) (hrk : ru < 24) (h13 : 0 ≤ Xi S 1 3 ∧ Xi S 1 3 ≤ 200) (hCE : CEN S) (hf : Xi S 876 8 = 0) (hr : Xi S 876 7 ≤ 5130) (hcc : 0 ≤ Xi S 246 5 ∧ Xi S 246 5 + 6 ≤ 600) (hh : 0 ≤ Xi S 899 5 ∧ Xi S 899 5 ≤ 5140) (hak : Hid (∀ j : Nat, -2 ≤ Xi S 19 j ∧ Xi S 19 j ≤ 15)) (d : Nat) : Mp lay0 (d + 5) m_rr_actingOn [.ref 899, iv from_, iv to] S (Q_rr_actingOn__p S ru from_ to) := by
  refine Mp_R rfl rfl (fun fu => ?_)
  have hF : FR md_rr_actingOn__p S S := FR.rf
  have w1 : -2147483648 ≤ Xi S 1 3 ∧ Xi S 1 3 ≤ 2147483647 := Xi_rgI
  have w2 : -2147483648 ≤ Xi S 246 5 ∧ Xi S 246 5 ≤ 2147483647 := Xi_rgI
  have w3 : -2147483648 ≤ Xi S 876 7 ∧ Xi S 876 7 ≤ 2147483647 := Xi_rgI
  have w4 : -2147483648 ≤ Xi S 876 8 ∧ Xi S 876 8 ≤ 2147483647 := Xi_rgI
  have w5 : -2147483648 ≤ Xi S 895 12 ∧ Xi S 895 12 ≤ 2147483647 := Xi_rgI
  have w6 : -2147483648 ≤ Xi S 895 13 ∧ Xi S 895 13 ≤ 2147483647 := Xi_rgI
  have w7 : -2147483648 ≤ Xi S 895 14 ∧ Xi S 895 14 ≤ 2147483647 := Xi_rgI
  have w8 : -2147483648 ≤ Xi S 895 5 ∧ Xi S 895 5 ≤ 2147483647 := Xi_rgI
  have w9 : -2147483648 ≤ Xi S 895 6 ∧ Xi S 895 6 ≤ 2147483647 := Xi_rgI
  have w10 : -2147483648 ≤ Xi S 899 5 ∧ Xi S 899 5 ≤ 2147483647 := Xi_rgI
  have C237 : ∀ (n237 : Nat) (_ : n237 ≤ fu) (T1 : sS) (_ : RI T1) (_ : FR md_rr_actingOn__p S T1) (v8 : Int), (0 ≤ v8 ∧ v8 ≤ 6) → (0 ≤ v8 ∧ v8 ≤ Xi T1 895 14 ∧ Xi T1 895 14 ≤ 6) → (Xi T1 876 8 = 0) → (Xi T1 246 5 = Xi S 246 5 + v8) → ((fnd S 8 from_ to) ≠ -1 ∧ 0 ≤ (Xi S 19 (fnd S 8 from_ to).toNat)) → (Hid (obI S (to + 1) (Xi S 899 5) (Xi S 19 (fnd S 8 from_ to).toNat) = 0 ∧ rdC S (to + 1) (Xi S 899 5) (Xi S 19 (fnd S 8 from_ to).toNat) = 1)) → (Hid (AOM S T1 ru (fnd S 8 from_ to) (Xi S 19 (fnd S 8 from_ to).toNat) (to + 1) (Xi S 899 5))) → (Hid (AOC S T1 (v8).toNat)) → Pl n237 lay0 (d + 4) m_rr_actingOn 237 [(0, .ref 899), (8, iv v8)] [] T1 (Q_rr_actingOn__p S ru from_ to) := by
    intro n237
    induction n237 with
    | zero => intros; exact Pl_0
    | succ n237 ih237 =>
      intro hm237 T1 hHT1 hFT1 v8 w11 w12 w13 w14 A237 x237 M237 C237
      have w15 : Xi T1 1 3 = Xi S 1 3 := hFT1.x _ _ rfl
      have w16 : Xi T1 876 7 = Xi S 876 7 := hFT1.x _ _ rfl
      have w17 : Xi T1 895 4 = Xi S 895 4 := hFT1.x _ _ rfl
      have w18 : Xi T1 899 5 = Xi S 899 5 := hFT1.x _ _ rfl
      have w19 : -2147483648 ≤ Xi T1 246 5 ∧ Xi T1 246 5 ≤ 2147483647 := Xi_rgI
      have w20 : -2147483648 ≤ Xi T1 876 8 ∧ Xi T1 876 8 ≤ 2147483647 := Xi_rgI
      have w21 : -2147483648 ≤ Xi T1 895 12 ∧ Xi T1 895 12 ≤ 2147483647 := Xi_rgI
      have w22 : -2147483648 ≤ Xi T1 895 13 ∧ Xi T1 895 13 ≤ 2147483647 := Xi_rgI
      have w23 : -2147483648 ≤ Xi T1 895 14 ∧ Xi T1 895 14 ≤ 2147483647 := Xi_rgI
      have w24 : -2147483648 ≤ Xi T1 895 5 ∧ Xi T1 895 5 ≤ 2147483647 := Xi_rgI
      have w25 : -2147483648 ≤ Xi T1 895 6 ∧ Xi T1 895 6 ≤ 2147483647 := Xi_rgI
      have w26 : -2147483648 ≤ Xi T1 899 5 ∧ Xi T1 899 5 ≤ 2147483647 := Xi_rgI
      refine ys_iload rfl rfl ?_
      refine y_aload_n rfl rfl ?_
      refine y_gfr rfl rfl rfl rfl rfl (hHT1.r 899 2 895 rfl) ?_
      refine y_gfi rfl rfl rfl rfl rfl ?_
      refine y_icmp_ge rfl rfl (by unfold rg; omega) (by unfold rg; omega) (fun w27 => ?_) (fun w28 => ?_)
      · refine y_iconst rfl ?_
        refine y_ireturn rfl rfl ?_
        exact ⟨hHT1, hFT1, _, rfl, ⟨by omega, by omega⟩, (by first | (have u := x237; exact aoo_r (A := (fnd S 8 from_ to)) (K := (Xi S 19 (fnd S 8 from_ to).toNat)) rfl rfl A237.1 A237.2 (aor_k x237.o rfl (by omega) (by show Xi T1 895 14 = (((v8).toNat : Nat) : Int); omega) M237.o C237.o)) | (have u := W195; exact aoo_r (A := (fnd S 8 from_ to)) (K := (Xi S 19 (fnd S 8 from_ to).toNat)) rfl rfl (by rw [← v8_]; omega) (by omega) (aor_o O107 R123 (by omega) rfl rfl z195 W195)) | (have u := Y167; exact aoo_r (A := (fnd S 8 from_ to)) (K := (Xi S 19 (fnd S 8 from_ to).toNat)) rfl rfl (by rw [← v8_]; omega) (by omega) (aor_f O107 R123 (by omega) (by omega) (by first | (rw [if_pos (by omega)]) | (rw [if_neg (by omega)])) Y167)) | (have u := Y55; exact ⟨fun q => absurd q (by rw [← v8_]; omega), fun _ _ => ⟨by omega, Y55⟩, fun _ q => absurd q (by omega)⟩) | exact ⟨fun _ => ⟨by omega, Y28⟩, fun q => absurd (v8_.symm.trans (by omega)) q, fun q => absurd (v8_.symm.trans (by omega)) q⟩)⟩
      · refine y_aload_n rfl rfl ?_
        refine y_gfr rfl rfl rfl rfl rfl (hHT1.r 899 3 246 rfl) ?_
        refine y_iconst rfl ?_
        refine y_callV rfl rfl rfl (t_bo_nextClause__p hHT1 0 ⟨by omega, by omega⟩ (by first | assumption | omega) _) ?_
        rintro _ T2 ⟨hHT2, w30, z29, rfl, w29, p254, q254, k254, c254⟩
        have hFT2 : FR md_rr_actingOn__p S T2 := FR.tr hFT1 w30 rfl
        show Pl _ _ _ _ _ _ [.ref (276 + z29)] _ _
        have F254 := (by assumption : FR md_bo_nextClause__p T1 T2)
        refine y_astore rfl rfl rfl ?_
        refine y_aload rfl rfl ?_
        refine y_bipush rfl rfl ?_
        refine y_pfi rfl rfl (layClW (by omega) rfl) rfl ?_
        obtain ⟨U3, eU3⟩ : ∃ T : sS, T = uI T2 (276 + z29) 2 (Int32.ofInt (-2)) := ⟨_, rfl⟩
        rw [← eU3]
        have hHU3 : RI U3 := by rw [eU3]; exact RI_w hHT2
        have hFU3 : FR md_rr_actingOn__p S U3 := by rw [eU3]; exact FR.wI hFT2 (mdf_i (r := (276, 876, 2, 3)) (List.mem_of_getElem? (i := 4) rfl) (inR_i (by omega) (by omega) (by omega) (by omega)))
        have w31 : Xi U3 (276 + z29) 2 = (-2) := by rw [eU3]; exact Xi_same (by unfold rg; omega)
        have e263 := eU3
        refine y_aload rfl rfl ?_
        refine y_aload_n rfl rfl ?_
        refine y_gfr rfl rfl rfl rfl rfl (hHU3.r 899 2 895 rfl) ?_
        refine y_gfr rfl rfl rfl rfl rfl (hHU3.r 895 15 896 rfl) ?_
        refine y_iload rfl rfl ?_
        refine y_ialoadP (n := 5) rfl rfl (by unfold rg; omega) (fun w32 w33 => ?_)
        have w34 : -2147483648 ≤ (Xi U3 896 ((v8).toNat)) ∧ (Xi U3 896 ((v8).toNat)) ≤ 2147483647 := Xi_rgI
        refine y_aload_n rfl rfl ?_
        refine y_gfr rfl rfl rfl rfl rfl (hHU3.r 899 2 895 rfl) ?_
        refine y_gfr rfl rfl rfl rfl rfl (hHU3.r 895 16 897 rfl) ?_
        refine y_iload rfl rfl ?_
        refine y_ialoadP (n := 5) rfl rfl (by unfold rg; omega) (fun w35 w36 => ?_)
        have w37 : -2147483648 ≤ (Xi U3 897 ((v8).toNat)) ∧ (Xi U3 897 ((v8).toNat)) ≤ 2147483647 := Xi_rgI
        have w38 : Xi U3 246 5 = Xi T2 246 5 := (show Xi U3 246 5 = Xi T2 246 5 from by rw [eU3]; exact Xi_ne (by omega))
        have w39 : Xi U3 876 8 = Xi T1 876 8 := (show Xi U3 876 8 = Xi T2 876 8 from by rw [eU3]; exact Xi_ne (by omega)).trans ((show Xi T2 876 8 = Xi T1 876 8 from w30.x _ _ rfl))
        have w40 : Xi U3 895 12 = Xi T1 895 12 := (show Xi U3 895 12 = Xi T2 895 12 from by rw [eU3]; exact Xi_ne (by omega)).trans ((show Xi T2 895 12 = Xi T1 895 12 from w30.x _ _ rfl))
        have w41 : Xi U3 895 13 = Xi T1 895 13 := (show Xi U3 895 13 = Xi T2 895 13 from by rw [eU3]; exact Xi_ne (by omega)).trans ((show Xi T2 895 13 = Xi T1 895 13 from w30.x _ _ rfl))
        have w42 : Xi U3 895 14 = Xi T1 895 14 := (show Xi U3 895 14 = Xi T2 895 14 from by rw [eU3]; exact Xi_ne (by omega)).trans ((show Xi T2 895 14 = Xi T1 895 14 from w30.x _ _ rfl))
        have w43 : Xi U3 895 5 = Xi T1 895 5 := (show Xi U3 895 5 = Xi T2 895 5 from by rw [eU3]; exact Xi_ne (by omega)).trans ((show Xi T2 895 5 = Xi T1 895 5 from w30.x _ _ rfl))
        have w44 : Xi U3 895 6 = Xi T1 895 6 := (show Xi U3 895 6 = Xi T2 895 6 from by rw [eU3]; exact Xi_ne (by omega)).trans ((show Xi T2 895 6 = Xi T1 895 6 from w30.x _ _ rfl))
        have w45 : Xi U3 899 5 = Xi T1 899 5 := (show Xi U3 899 5 = Xi T2 899 5 from by rw [eU3]; exact Xi_ne (by omega)).trans ((show Xi T2 899 5 = Xi T1 899 5 from w30.x _ _ rfl))
        refine y_callS rfl rfl (by decide) rfl (t_rr_nameAdjective__p hHU3 z29 (Xi U3 896 ((v8).toNat)) (Xi U3 897 ((v8).toNat)) (by omega) ⟨by omega, by omega⟩ ⟨by omega, by omega⟩ _) ?_
        rintro _ T4 ⟨hHT4, w47, rfl, e288⟩
        have hFT4 : FR md_rr_actingOn__p S T4 := FR.tr hFU3 w47 rfl
        show Pl _ _ _ _ _ _ [] _ _
        have F288 := (by assumption : FR md_rr_nameAdjective__p U3 T4)
        have i288 : ∀ j, Xi T4 896 j = Xi T1 896 j := fun j => by rw [(F288.cx 896 rfl _).1, e263, Xi_ne (by omega), (F254.cx 896 rfl _).1]
        have j288 : ∀ j, Xi T4 897 j = Xi T1 897 j := fun j => by rw [(F288.cx 897 rfl _).1, e263, Xi_ne (by omega), (F254.cx 897 rfl _).1]
        have r288 : ∀ k j : Nat, k < 24 → Xi T4 (248 + k) j = Xi T1 (248 + k) j := fun k j q => by rw [FR_ru F288 rfl q, e263, Xi_ne (by omega), FR_ru F254 rfl q]
        have d288 : Xi T4 895 14 = Xi T1 895 14 := by rw [F288.x 895 14 rfl, e263, Xi_ne (by omega), F254.x 895 14 rfl]
        have z288 : Xi T4 876 8 = Xi T1 876 8 := by rw [F288.x 876 8 rfl, e263, Xi_ne (by omega), F254.x 876 8 rfl]
        have c288 : Xi T4 246 5 = Xi T1 246 5 + 1 := by rw [F288.x 246 5 rfl, e263, Xi_ne (by omega)]; exact p254
        have M288 : Hid (AOM S T4 ru (fnd S 8 from_ to) (Xi S 19 (fnd S 8 from_ to).toNat) (to + 1) (Xi S 899 5)) := aom_k M237.o hrk d288 i288 j288 r288
        have k288 : KCL T1 T4 _ := kcl_tr (kcl_w e263 k254) e288.1
        have h288 := C237.o.1
        have m288 := nad_clm (T := T1) c254 e263 e288 (FR_clj F288 rfl (by omega)) (FR_clj F288 rfl (by omega)) (FR_clj F288 rfl (by omega)) (FR_clj F288 rfl (by omega))
        have C288 : Hid (AOC S T4 (v8 + 1).toNat) := by rw [show (v8 + 1).toNat = (v8).toNat + 1 by omega]; refine aoc_s C237.o (by omega) (by omega) k288 c288 i288 j288 ?_; rw [e263, Xi_ne (by omega), Xi_ne (by omega), (F254.cx 896 rfl _).1, (F254.cx 897 rfl _).1] at m288; exact m288
        refine y_iinc rfl rfl rfl rfl ?_
        refine y_goto rfl rfl ?_
        have w48 : Xi T4 246 5 = Xi T2 246 5 := (show Xi T4 246 5 = Xi U3 246 5 from w47.x _ _ rfl).trans ((show Xi U3 246 5 = Xi T2 246 5 from by rw [eU3]; exact Xi_ne (by omega)))
        have w49 : Xi T4 876 8 = Xi T1 876 8 := (show Xi T4 876 8 = Xi U3 876 8 from w47.x _ _ rfl).trans ( (show Xi U3 876 8 = Xi T2 876 8 from by rw [eU3]; exact Xi_ne (by omega)).trans ((show Xi T2 876 8 = Xi T1 876 8 from w30.x _ _ rfl)))
        have w50 : Xi T4 895 12 = Xi T1 895 12 := (show Xi T4 895 12 = Xi U3 895 12 from w47.x _ _ rfl).trans ( (show Xi U3 895 12 = Xi T2 895 12 from by rw [eU3]; exact Xi_ne (by omega)).trans ((show Xi T2 895 12 = Xi T1 895 12 from w30.x _ _ rfl)))
        have w51 : Xi T4 895 13 = Xi T1 895 13 := (show Xi T4 895 13 = Xi U3 895 13 from w47.x _ _ rfl).trans ( (show Xi U3 895 13 = Xi T2 895 13 from by rw [eU3]; exact Xi_ne (by omega)).trans ((show Xi T2 895 13 = Xi T1 895 13 from w30.x _ _ rfl)))
        have w52 : Xi T4 895 14 = Xi T1 895 14 := (show Xi T4 895 14 = Xi U3 895 14 from w47.x _ _ rfl).trans ( (show Xi U3 895 14 = Xi T2 895 14 from by rw [eU3]; exact Xi_ne (by omega)).trans ((show Xi T2 895 14 = Xi T1 895 14 from w30.x _ _ rfl)))
        have w53 : Xi T4 895 5 = Xi T1 895 5 := (show Xi T4 895 5 = Xi U3 895 5 from w47.x _ _ rfl).trans ( (show Xi U3 895 5 = Xi T2 895 5 from by rw [eU3]; exact Xi_ne (by omega)).trans ((show Xi T2 895 5 = Xi T1 895 5 from w30.x _ _ rfl)))
        have w54 : Xi T4 895 6 = Xi T1 895 6 := (show Xi T4 895 6 = Xi U3 895 6 from w47.x _ _ rfl).trans ( (show Xi U3 895 6 = Xi T2 895 6 from by rw [eU3]; exact Xi_ne (by omega)).trans ((show Xi T2 895 6 = Xi T1 895 6 from w30.x _ _ rfl)))
        have w55 : Xi T4 899 5 = Xi T1 899 5 := (show Xi T4 899 5 = Xi U3 899 5 from w47.x _ _ rfl).trans ( (show Xi U3 899 5 = Xi T2 899 5 from by rw [eU3]; exact Xi_ne (by omega)).trans ((show Xi T2 899 5 = Xi T1 899 5 from w30.x _ _ rfl)))
        exact Pl_weak (ih237 (by omega) T4 hHT4 hFT4 ((v8 + 1)) (by omega) (by omega) (by omega) (by omega) (by first | exact A237 | exact ⟨by rw [← v8_]; omega, by omega⟩) (by first | exact x237 | exact ⟨by omega, by omega⟩) (by first | exact M288 | exact M233) (by first | exact C288 | exact C233)) (by omega) (And.intro rfl (And.intro rfl (True.intro)))
  refine y_aload_n rfl rfl ?_
  refine y_gfr rfl rfl rfl rfl rfl (hH.r 899 2 895 rfl) ?_
  refine y_bipush rfl rfl ?_
  refine y_iload_n rfl rfl ?_
  refine y_iload_n rfl rfl ?_
  refine y_callV rfl rfl rfl (t_me_find__p hH 8 from_ to ⟨by omega, by omega⟩ ⟨by omega, by omega⟩ ⟨by omega, by omega⟩ (by first | assumption | omega) (by first | assumption | exact (CEN_FR hF rfl rfl (by assumption : CEN S))) _) ?_
  rintro _ _ ⟨rfl, z56, rfl, w56, v8_⟩
  show Pl _ _ _ _ _ _ [iv z56] _ _
  refine y_istore_n rfl rfl rfl ?_
  refine y_iload_n rfl rfl ?_
  refine y_iconst rfl ?_
  refine y_iadd rfl ?_
  refine y_istore rfl rfl rfl ?_
  refine y_iload_n rfl rfl ?_
  refine y_iconst rfl ?_
  refine y_icmp_ne rfl rfl (by unfold rg; omega) (by unfold rg; omega) (fun w57 => ?_) (fun w58 => ?_)
  · refine y_aload_n rfl rfl ?_
    refine y_gfr rfl rfl rfl rfl rfl (hH.r 899 1 1 rfl) ?_
    refine y_gfr rfl rfl rfl rfl rfl (hH.r 1 18 19 rfl) ?_
    refine y_iload_n rfl rfl ?_
    refine y_ialoadP (n := 12) rfl rfl (by unfold rg; omega) (fun w59 w60 => ?_)
    have w61 : -2147483648 ≤ (Xi S 19 ((z56).toNat)) ∧ (Xi S 19 ((z56).toNat)) ≤ 2147483647 := Xi_rgI
    have k40 : (Xi S 19 (fnd S 8 from_ to).toNat) = (Xi S 19 ((z56).toNat)) := by rw [← v8_]
    have b40 := hak.o ((fnd S 8 from_ to)).toNat
    refine y_istore rfl rfl rfl ?_
    refine y_iload rfl rfl ?_
    refine y_if_ge rfl rfl (by unfold rg; omega) (fun w62 => ?_) (fun w63 => ?_)
    · refine y_aload_n rfl rfl ?_
      refine y_gfr rfl rfl rfl rfl rfl (hH.r 899 2 895 rfl) ?_
      refine y_iload rfl rfl ?_
      refine y_aload_n rfl rfl ?_
      refine y_gfi rfl rfl rfl rfl rfl ?_
      refine y_callV rfl rfl rfl (t_me_readThing__p hH (to + 1) (Xi S 899 5) ⟨by omega, by omega⟩ ⟨by omega, by omega⟩ (by first | assumption | omega) (by first | assumption | exact (CEN_FR hF rfl rfl (by assumption : CEN S))) (by first | assumption | omega) _) ?_
      rintro _ T5 ⟨hHT5, w66, z65, rfl, w65, o69, w64⟩
      have hFT5 : FR md_rr_actingOn__p S T5 := FR.tr hF w66 rfl
      show Pl _ _ _ _ _ _ [iv z65] _ _
      have F69 := (by assumption : FR md_me_readThing__p S T5)
      have R69 := o69
      clear o69
      have z69 : Xi T5 876 8 = 0 := (F69.x 876 8 rfl).trans hf
      have Wa69 : Xi T5 895 5 = whoC S (to + 1) (Xi S 899 5) := R69.1
      refine y_pop rfl rfl ?_
      refine y_aload_n rfl rfl ?_
      refine y_gfr rfl rfl rfl rfl rfl (hHT5.r 899 2 895 rfl) ?_
      refine y_gfi rfl rfl rfl rfl rfl ?_
      have w67 : -2147483648 ≤ (Xi T5 895 5) ∧ (Xi T5 895 5) ≤ 2147483647 := Xi_rgI
      refine y_if_lt rfl rfl (by unfold rg; omega) (fun w68 => ?_) (fun w69 => ?_)
      · refine y_iconst rfl ?_
        refine y_istore rfl rfl rfl ?_
        have O107 : (0 : Int) = obI S (to + 1) (Xi S 899 5) (Xi S 19 (fnd S 8 from_ to).toNat) := by unfold obI; first | (have t := k96; first | (rw [if_pos ⟨by omega, by omega⟩]) | (rw [if_neg (fun q => q.2 (by omega))])) | (rw [if_neg (fun q => by have := q.1; omega)])
        refine y_aload_n rfl rfl ?_
        refine y_gfr rfl rfl rfl rfl rfl (hHT5.r 899 2 895 rfl) ?_
        refine y_iload rfl rfl ?_
        refine y_aload_n rfl rfl ?_
        refine y_gfi rfl rfl rfl rfl rfl ?_
        have w70 : (Xi T5 899 5) = (Xi S 899 5) := (show Xi T5 899 5 = Xi S 899 5 from w66.x _ _ rfl)
        rw [w70]
        refine y_iconst rfl ?_
        refine y_iconst rfl ?_
        refine y_iload rfl rfl ?_
        have w71 : Xi T5 1 3 = Xi S 1 3 := (show Xi T5 1 3 = Xi S 1 3 from w66.x _ _ rfl)
        have w72 : Xi T5 246 5 = Xi S 246 5 := (show Xi T5 246 5 = Xi S 246 5 from w66.x _ _ rfl)
        have w73 : Xi T5 876 8 = Xi S 876 8 := (show Xi T5 876 8 = Xi S 876 8 from w66.x _ _ rfl)
        have w74 : Xi T5 895 12 = Xi S 895 12 := (show Xi T5 895 12 = Xi S 895 12 from w66.x _ _ rfl)
        have w75 : Xi T5 895 13 = Xi S 895 13 := (show Xi T5 895 13 = Xi S 895 13 from w66.x _ _ rfl)
        have w76 : Xi T5 895 14 = Xi S 895 14 := (show Xi T5 895 14 = Xi S 895 14 from w66.x _ _ rfl)
        have w77 : Xi T5 899 5 = Xi S 899 5 := (show Xi T5 899 5 = Xi S 899 5 from w66.x _ _ rfl)
        refine y_callV rfl rfl rfl (t_me_countReadings__p hHT5 (to + 1) (Xi S 899 5) 0 1 (Xi S 19 ((z56).toNat)) ⟨by omega, by omega⟩ ⟨by omega, by omega⟩ ⟨by omega, by omega⟩ ⟨by omega, by omega⟩ ⟨by omega, by omega⟩ (by first | assumption | omega) (by first | assumption | exact (CEN_FR hFT5 rfl rfl (by assumption : CEN S))) _) ?_
        rintro _ T6 ⟨hHT6, w79, z78, rfl, w78, o123⟩
        have hFT6 : FR md_rr_actingOn__p S T6 := FR.tr hFT5 w79 rfl
        show Pl _ _ _ _ _ _ [iv z78] _ _
        have F123 := (by assumption : FR md_me_countReadings__p T5 T6)
        have R123 : z78 = rdC S (to + 1) (Xi S 899 5) (Xi S 19 (fnd S 8 from_ to).toNat) := by unfold rdC; by_cases q : Xi S 899 5 - (to + 1) ≤ 6; (rw [if_pos q]; have u := (o123.1 (by omega)).1; rw [ccT_F F69 rfl rfl, ← k40] at u; exact u); (rw [if_neg q]; exact o123.2 (by omega))
        have n123 : 0 ≤ z78 ∧ z78 ≤ 13349232 := by rw [R123]; exact rdC_b
        have O123 : Hid (Xi S 899 5 - (to + 1) ≤ 6 → 0 < z78 → ∃ m : Int, (1 ≤ m ∧ m ≤ 3 ∧ m ≤ Xi S 899 5 - (to + 1)) ∧ 0 < ccC S (to + 1) (Xi S 899 5) 0 1 (Xi S 19 (fnd S 8 from_ to).toNat) m ∧ Xi T6 895 12 = ckC S (Xi S 899 5) 0 m ∧ Xi T6 895 13 = Xi S 899 5 - m) := fun a b => by obtain ⟨m, a1, a2, a3, a4, a5⟩ := (o123.1 (by omega)).2 b; rw [ccC_F F69 rfl rfl, ← k40] at a2; rw [show ckC T5 (Xi S 899 5) 0 m = ckC S (Xi S 899 5) 0 m from fnd_FR F69 rfl] at a4; exact ⟨m, ⟨a1.1, by omega, a1.2.2⟩, a2, a4, a5⟩
        clear o123
        have z123 : Xi T6 876 8 = 0 := (F123.x 876 8 rfl).trans z69
        have y123 : Xi T6 895 5 = whoC S (to + 1) (Xi S 899 5) := (F123.x 895 5 rfl).trans Wa69
        have u123 : Xi T6 246 5 = Xi S 246 5 := (F123.x 246 5 rfl).trans (F69.x 246 5 rfl)
        refine y_istore rfl rfl rfl ?_
        refine y_iload rfl rfl ?_
        refine y_iload rfl rfl ?_
        refine y_if_eq rfl rfl (by unfold rg; omega) (fun w80 => ?_) (fun w81 => absurd w81 (by omega))
        · refine y_iconst rfl ?_
          refine y_iadd rfl ?_
          refine y_iconst rfl ?_
          refine y_icmp_eq rfl rfl (by unfold rg; omega) (by unfold rg; omega) (fun w82 => ?_) (fun w83 => ?_)
          · refine y_aload_n rfl rfl ?_
            refine y_gfr rfl rfl rfl rfl rfl ((hFT6 899 4 rfl).2.2.trans hru) ?_
            refine y_iconst rfl ?_
            refine y_iload_n rfl rfl ?_
            refine y_iastoreP (n := 8) rfl (lay_248 (by omega)) (by unfold rg; omega) (fun w85 w86 => ?_)
            obtain ⟨U7, eU7⟩ : ∃ T : sS, T = uI T6 (248 + ru) ((1 : Int).toNat) (Int32.ofInt z56) := ⟨_, rfl⟩
            rw [← eU7]
            have hHU7 : RI U7 := by rw [eU7]; exact RI_w hHT6
            have hFU7 : FR md_rr_actingOn__p S U7 := by rw [eU7]; exact FR.wI hFT6 (mdf_i (r := (248, 272, 0, 100000)) (List.mem_of_getElem? (i := 1) rfl) (inR_i (by omega) (by omega) (by omega) (by omega)))
            have w87 : Xi U7 (248 + ru) ((1 : Int).toNat) = z56 := by rw [eU7]; exact Xi_same (by unfold rg; omega)
            have e177 := eU7
            have x177 : Xi U7 (248 + ru) 1 = (fnd S 8 from_ to) := by rw [e177]; exact (Xi_same (by unfold rg; omega)).trans v8_
            have g177 : KRU S U7 ru := kru_w e177 (kru_f F123 rfl (kru_f F69 rfl KRU.rf))
            have r177 : ∀ j : Nat, j ≠ 1 → Xi U7 (248 + ru) j = Xi S (248 + ru) j := fun j q => by rw [e177, Xi_ne (by omega), FR_ru F123 rfl hrk, FR_ru F69 rfl hrk]
            have z177 : Xi U7 876 8 = 0 := by rw [e177, Xi_ne (by omega)]; exact z123
            have c177 : Hid (∀ c j : Nat, c < 600 → Xi U7 (276 + c) j = Xi S (276 + c) j) := fun c j q => by rw [e177, Xi_ne (by omega), FR_cl F123 rfl q, FR_cl F69 rfl q]
            have u177 : Xi U7 246 5 = Xi S 246 5 := by rw [e177, Xi_ne (by omega)]; exact u123
            refine y_iload rfl rfl ?_
            refine y_if_eq rfl rfl (by unfold rg; omega) (fun w88 => ?_) (fun w89 => absurd w89 (by omega))
            · refine y_aload_n rfl rfl ?_
              have c198 : Xi S 899 5 - (to + 1) ≤ 6 := by have u := R123; unfold rdC at u; by_cases q : Xi S 899 5 - (to + 1) ≤ 6; exact q; (rw [if_neg q] at u; omega)
              have m198 : Hid (∃ m : Int, (1 ≤ m ∧ m ≤ 3 ∧ m ≤ Xi S 899 5 - (to + 1)) ∧ 0 < ccC S (to + 1) (Xi S 899 5) 0 1 (Xi S 19 (fnd S 8 from_ to).toNat) m ∧ Xi U7 895 12 = ckC S (Xi S 899 5) 0 m ∧ Xi U7 895 13 = Xi S 899 5 - m) := by obtain ⟨m, a1, a2, a4, a5⟩ := O123.o c198 (by omega); exact ⟨m, a1, a2, by rw [e177, Xi_ne (by omega)]; exact a4, by rw [e177, Xi_ne (by omega)]; exact a5⟩
              have t198 : ccT S (to + 1) (Xi S 899 5) 0 1 (Xi S 19 (fnd S 8 from_ to).toNat) 4 = 1 := by have u := R123; unfold rdC at u; rw [if_pos c198] at u; omega
              have p198 : Hid ((to + 1) ≤ Xi U7 895 13 ∧ Xi U7 895 13 - (to + 1) ≤ 5 ∧ 0 < cpF U7 (Xi U7 895 12) (to + 1) (Xi U7 895 13) 1) := by obtain ⟨m, a1, a2, a4, a5⟩ := m198.o; rw [a5, a4, cpF_FR hFU7 rfl, ← ccc_y (ccp a2)]; exact ⟨by omega, by omega, a2⟩
              refine y_gfr rfl rfl rfl rfl rfl (hHU7.r 899 2 895 rfl) ?_
              refine y_iload rfl rfl ?_
              refine y_iconst rfl ?_
              have w90 : Xi U7 1 3 = Xi S 1 3 := (show Xi U7 1 3 = Xi T6 1 3 from by rw [eU7]; exact Xi_ne (by omega)).trans ( (show Xi T6 1 3 = Xi T5 1 3 from w79.x _ _ rfl).trans ((show Xi T5 1 3 = Xi S 1 3 from w66.x _ _ rfl)))
              have w91 : Xi U7 246 5 = Xi S 246 5 := (show Xi U7 246 5 = Xi T6 246 5 from by rw [eU7]; exact Xi_ne (by omega)).trans ( (show Xi T6 246 5 = Xi T5 246 5 from w79.x _ _ rfl).trans ((show Xi T5 246 5 = Xi S 246 5 from w66.x _ _ rfl)))
              have w92 : Xi U7 876 8 = Xi S 876 8 := (show Xi U7 876 8 = Xi T6 876 8 from by rw [eU7]; exact Xi_ne (by omega)).trans ( (show Xi T6 876 8 = Xi T5 876 8 from w79.x _ _ rfl).trans ((show Xi T5 876 8 = Xi S 876 8 from w66.x _ _ rfl)))
              have w93 : Xi U7 895 12 = Xi T6 895 12 := (show Xi U7 895 12 = Xi T6 895 12 from by rw [eU7]; exact Xi_ne (by omega))
              have w94 : Xi U7 895 13 = Xi T6 895 13 := (show Xi U7 895 13 = Xi T6 895 13 from by rw [eU7]; exact Xi_ne (by omega))
              have w95 : Xi U7 895 14 = Xi S 895 14 := (show Xi U7 895 14 = Xi T6 895 14 from by rw [eU7]; exact Xi_ne (by omega)).trans ( (show Xi T6 895 14 = Xi T5 895 14 from w79.x _ _ rfl).trans ((show Xi T5 895 14 = Xi S 895 14 from w66.x _ _ rfl)))
              have w96 : Xi U7 895 5 = Xi T5 895 5 := (show Xi U7 895 5 = Xi T6 895 5 from by rw [eU7]; exact Xi_ne (by omega)).trans ((show Xi T6 895 5 = Xi T5 895 5 from w79.x _ _ rfl))
              have w97 : Xi U7 895 6 = Xi T5 895 6 := (show Xi U7 895 6 = Xi T6 895 6 from by rw [eU7]; exact Xi_ne (by omega)).trans ((show Xi T6 895 6 = Xi T5 895 6 from w79.x _ _ rfl))
              have w98 : Xi U7 899 5 = Xi S 899 5 := (show Xi U7 899 5 = Xi T6 899 5 from by rw [eU7]; exact Xi_ne (by omega)).trans ( (show Xi T6 899 5 = Xi T5 899 5 from w79.x _ _ rfl).trans ((show Xi T5 899 5 = Xi S 899 5 from w66.x _ _ rfl)))
              refine y_callV rfl rfl rfl (t_me_keepReading__p hHU7 (to + 1) 1 ⟨by omega, by omega⟩ ⟨by omega, by omega⟩ (by first | assumption | omega) (by first | assumption | exact (CEN_FR hFU7 rfl rfl (by assumption : CEN S))) (⟨p198.o.1, p198.o.2.1⟩) (p198.o.2.2) _) ?_
              rintro _ T8 ⟨hHT8, w100, rfl, o205⟩
              have hFT8 : FR md_rr_actingOn__p S T8 := FR.tr hFU7 w100 rfl
              show Pl _ _ _ _ _ _ [] _ _
              have F205 := (by assumption : FR md_me_keepReading__p U7 T8)
              have b205 : Xi T8 895 14 ≤ 6 ∧ 0 ≤ Xi T8 895 14 := by have u := o205.1; have w := prs_len (f := fA U7 (Xi U7 895 12) (to + 1) 1) (g := g1C U7 (to + 1)) (z := Xi U7 895 13 - (to + 1)) 6 0; omega
              have N205 : Hid (∃ m : Int, (1 ≤ m ∧ m ≤ 3 ∧ m ≤ Xi S 899 5 - (to + 1)) ∧ ccC S (to + 1) (Xi S 899 5) 0 1 (Xi S 19 (fnd S 8 from_ to).toNat) m = 1 ∧ Xi T8 895 12 = ckC S (Xi S 899 5) 0 m ∧ KPC T8 (fA S (ckC S (Xi S 899 5) 0 m) (to + 1) 1) (g1C S (to + 1)) (g2C S (ckC S (Xi S 899 5) 0 m) (to + 1)) (Xi S 899 5 - m - (to + 1))) := by obtain ⟨m, a1, a2, a4, a5⟩ := m198.o; have t := o205; rw [a4, a5, fA_FR hFU7 rfl, g1C_FR hFU7 rfl, g2C_FR hFU7 rfl] at t; exact ⟨m, a1, ccT_1 t198 (by omega) a1.2.2 a2, (F205.x 895 12 rfl).trans a4, t⟩
              clear o205
              have e205 : Xi T8 246 5 = Xi S 246 5 := (F205.x 246 5 rfl).trans u177
              have z205 : Xi T8 876 8 = 0 := (F205.x 876 8 rfl).trans z177
              refine y_aload_n rfl rfl ?_
              refine y_gfr rfl rfl rfl rfl rfl ((hFT8 899 4 rfl).2.2.trans hru) ?_
              refine y_iconst rfl ?_
              refine y_aload_n rfl rfl ?_
              refine y_gfr rfl rfl rfl rfl rfl (hHT8.r 899 2 895 rfl) ?_
              refine y_gfi rfl rfl rfl rfl rfl ?_
              have w102 : -2147483648 ≤ (Xi T8 895 12) ∧ (Xi T8 895 12) ≤ 2147483647 := Xi_rgI
              refine y_iastoreP (n := 8) rfl (lay_248 (by omega)) (by unfold rg; omega) (fun w103 w104 => ?_)
              obtain ⟨U9, eU9⟩ : ∃ T : sS, T = uI T8 (248 + ru) ((3 : Int).toNat) (Int32.ofInt (Xi T8 895 12)) := ⟨_, rfl⟩
              rw [← eU9]
              have hHU9 : RI U9 := by rw [eU9]; exact RI_w hHT8
              have hFU9 : FR md_rr_actingOn__p S U9 := by rw [eU9]; exact FR.wI hFT8 (mdf_i (r := (248, 272, 0, 100000)) (List.mem_of_getElem? (i := 1) rfl) (inR_i (by omega) (by omega) (by omega) (by omega)))
              have w105 : Xi U9 (248 + ru) ((3 : Int).toNat) = (Xi T8 895 12) := by rw [eU9]; exact Xi_same (by unfold rg; omega)
              have e220 := eU9
              refine y_aload_n rfl rfl ?_
              refine y_gfr rfl rfl rfl rfl rfl ((hFU9 899 4 rfl).2.2.trans hru) ?_
              refine y_iconst rfl ?_
              refine y_aload_n rfl rfl ?_
              refine y_gfr rfl rfl rfl rfl rfl (hHU9.r 899 2 895 rfl) ?_
              refine y_gfi rfl rfl rfl rfl rfl ?_
              have w107 : -2147483648 ≤ (Xi U9 895 14) ∧ (Xi U9 895 14) ≤ 2147483647 := Xi_rgI
              refine y_iastoreP (n := 8) rfl (lay_248 (by omega)) (by unfold rg; omega) (fun w108 w109 => ?_)
              obtain ⟨U10, eU10⟩ : ∃ T : sS, T = uI U9 (248 + ru) ((4 : Int).toNat) (Int32.ofInt (Xi U9 895 14)) := ⟨_, rfl⟩
              rw [← eU10]
              have hHU10 : RI U10 := by rw [eU10]; exact RI_w hHU9
              have hFU10 : FR md_rr_actingOn__p S U10 := by rw [eU10]; exact FR.wI hFU9 (mdf_i (r := (248, 272, 0, 100000)) (List.mem_of_getElem? (i := 1) rfl) (inR_i (by omega) (by omega) (by omega) (by omega)))
              have w110 : Xi U10 (248 + ru) ((4 : Int).toNat) = (Xi U9 895 14) := by rw [eU10]; exact Xi_same (by unfold rg; omega)
              have e233 := eU10
              have M233 : Hid (AOM S U10 ru (fnd S 8 from_ to) (Xi S 19 (fnd S 8 from_ to).toNat) (to + 1) (Xi S 899 5)) := by obtain ⟨m, a1, a2, a4, a5⟩ := N205.o; exact ⟨m, a1, a2, by rw [e233, Xi_ne (by omega), e220, Xi_ne (by omega), FR_ru F205 rfl hrk]; exact x177, by rw [e233, Xi_ne (by omega), e220]; exact (Xi_same (by unfold rg; omega)).trans a4, by rw [show Xi U10 895 14 = Xi U9 895 14 by rw [e233]; exact Xi_ne (by omega)]; rw [e233]; exact (Xi_same (by unfold rg; omega)).trans (by first | rfl | omega), fun j p q r => by rw [e233, Xi_ne (by omega), e220, Xi_ne (by omega), FR_ru F205 rfl hrk]; exact r177 j p, by unfold KPC at a5 ⊢; rw [e233, Xi_ne (by omega), e220, Xi_ne (by omega)]; exact ⟨a5.1, a5.2.1, fun i hi => by rw [Xi_ne (by omega), Xi_ne (by omega), Xi_ne (by omega), Xi_ne (by omega)]; exact a5.2.2 i hi⟩, kru_w e233 (kru_w e220 (kru_f F205 rfl g177))⟩
              have v233 : Xi U10 895 14 ≤ 6 ∧ 0 ≤ Xi U10 895 14 := by rw [e233, Xi_ne (by omega), e220, Xi_ne (by omega)]; exact b205
              have z233 : Xi U10 876 8 = 0 := by rw [e233, Xi_ne (by omega), e220, Xi_ne (by omega)]; exact z205
              have u233 : Xi U10 246 5 = Xi S 246 5 := by rw [e233, Xi_ne (by omega), e220, Xi_ne (by omega)]; exact e205
              have C233 : Hid (AOC S U10 0) := ⟨by omega, fun i q => absurd q (Nat.not_lt_zero _), fun c j q => by rw [e233, Xi_ne (by omega), e220, Xi_ne (by omega), FR_cl F205 rfl (by omega)]; exact c177.o c j (by omega)⟩
              refine y_iconst rfl ?_
              refine y_istore rfl rfl rfl ?_
              have w111 : Xi U10 246 5 = Xi S 246 5 := (show Xi U10 246 5 = Xi U9 246 5 from by rw [eU10]; exact Xi_ne (by omega)).trans ( (show Xi U9 246 5 = Xi T8 246 5 from by rw [eU9]; exact Xi_ne (by omega)).trans ( (show Xi T8 246 5 = Xi U7 246 5 from w100.x _ _ rfl).trans ( (show Xi U7 246 5 = Xi T6 246 5 from by rw [eU7]; exact Xi_ne (by omega)).trans ( (show Xi T6 246 5 = Xi T5 246 5 from w79.x _ _ rfl).trans ((show Xi T5 246 5 = Xi S 246 5 from w66.x _ _ rfl))))))
              have w112 : Xi U10 876 8 = Xi S 876 8 := (show Xi U10 876 8 = Xi U9 876 8 from by rw [eU10]; exact Xi_ne (by omega)).trans ( (show Xi U9 876 8 = Xi T8 876 8 from by rw [eU9]; exact Xi_ne (by omega)).trans ( (show Xi T8 876 8 = Xi U7 876 8 from w100.x _ _ rfl).trans ( (show Xi U7 876 8 = Xi T6 876 8 from by rw [eU7]; exact Xi_ne (by omega)).trans ( (show Xi T6 876 8 = Xi T5 876 8 from w79.x _ _ rfl).trans ((show Xi T5 876 8 = Xi S 876 8 from w66.x _ _ rfl))))))
              have w113 : Xi U10 895 12 = Xi T6 895 12 := (show Xi U10 895 12 = Xi U9 895 12 from by rw [eU10]; exact Xi_ne (by omega)).trans ( (show Xi U9 895 12 = Xi T8 895 12 from by rw [eU9]; exact Xi_ne (by omega)).trans ( (show Xi T8 895 12 = Xi U7 895 12 from w100.x _ _ rfl).trans ((show Xi U7 895 12 = Xi T6 895 12 from by rw [eU7]; exact Xi_ne (by omega)))))
              have w114 : Xi U10 895 13 = Xi T6 895 13 := (show Xi U10 895 13 = Xi U9 895 13 from by rw [eU10]; exact Xi_ne (by omega)).trans ( (show Xi U9 895 13 = Xi T8 895 13 from by rw [eU9]; exact Xi_ne (by omega)).trans ( (show Xi T8 895 13 = Xi U7 895 13 from w100.x _ _ rfl).trans ((show Xi U7 895 13 = Xi T6 895 13 from by rw [eU7]; exact Xi_ne (by omega)))))
              have w115 : Xi U10 895 14 = Xi T8 895 14 := (show Xi U10 895 14 = Xi U9 895 14 from by rw [eU10]; exact Xi_ne (by omega)).trans ((show Xi U9 895 14 = Xi T8 895 14 from by rw [eU9]; exact Xi_ne (by omega)))
              have w116 : Xi U10 895 5 = Xi T5 895 5 := (show Xi U10 895 5 = Xi U9 895 5 from by rw [eU10]; exact Xi_ne (by omega)).trans ( (show Xi U9 895 5 = Xi T8 895 5 from by rw [eU9]; exact Xi_ne (by omega)).trans ( (show Xi T8 895 5 = Xi U7 895 5 from w100.x _ _ rfl).trans ( (show Xi U7 895 5 = Xi T6 895 5 from by rw [eU7]; exact Xi_ne (by omega)).trans ((show Xi T6 895 5 = Xi T5 895 5 from w79.x _ _ rfl)))))
              have w117 : Xi U10 895 6 = Xi T5 895 6 := (show Xi U10 895 6 = Xi U9 895 6 from by rw [eU10]; exact Xi_ne (by omega)).trans ( (show Xi U9 895 6 = Xi T8 895 6 from by rw [eU9]; exact Xi_ne (by omega)).trans ( (show Xi T8 895 6 = Xi U7 895 6 from w100.x _ _ rfl).trans ( (show Xi U7 895 6 = Xi T6 895 6 from by rw [eU7]; exact Xi_ne (by omega)).trans ((show Xi T6 895 6 = Xi T5 895 6 from w79.x _ _ rfl)))))
              have w118 : Xi U10 899 5 = Xi S 899 5 := (show Xi U10 899 5 = Xi U9 899 5 from by rw [eU10]; exact Xi_ne (by omega)).trans ( (show Xi U9 899 5 = Xi T8 899 5 from by rw [eU9]; exact Xi_ne (by omega)).trans ( (show Xi T8 899 5 = Xi U7 899 5 from w100.x _ _ rfl).trans ( (show Xi U7 899 5 = Xi T6 899 5 from by rw [eU7]; exact Xi_ne (by omega)).trans ( (show Xi T6 899 5 = Xi T5 899 5 from w79.x _ _ rfl).trans ((show Xi T5 899 5 = Xi S 899 5 from w66.x _ _ rfl))))))
              exact Pl_weak (C237 fu (by omega) U10 hHU10 hFU10 (0) (by omega) (by omega) (by omega) (by omega) (by first | exact A237 | exact ⟨by rw [← v8_]; omega, by omega⟩) (by first | exact x237 | exact ⟨by omega, by omega⟩) (by first | exact M288 | exact M233) (by first | exact C288 | exact C233)) (by omega) (And.intro rfl (And.intro rfl (True.intro)))
          · refine y_aload_n rfl rfl ?_
            refine y_gfr rfl rfl rfl rfl rfl (hHT6.r 899 0 876 rfl) ?_
            refine y_iload rfl rfl ?_
            refine y_if_ne rfl rfl (by unfold rg; omega) (fun w119 => absurd w119 (by omega)) (fun w120 => ?_)
            · refine y_iload rfl rfl ?_
              refine y_if_le rfl rfl (by unfold rg; omega) (fun w121 => ?_) (fun w122 => ?_)
              · refine y_iconst rfl ?_
                refine y_iload rfl rfl ?_
                have w124 : Xi T6 876 8 = Xi S 876 8 := (show Xi T6 876 8 = Xi T5 876 8 from w79.x _ _ rfl).trans ((show Xi T5 876 8 = Xi S 876 8 from w66.x _ _ rfl))
                have w125 : Xi T6 876 9 = Xi S 876 9 := (show Xi T6 876 9 = Xi T5 876 9 from w79.x _ _ rfl).trans ((show Xi T5 876 9 = Xi S 876 9 from w66.x _ _ rfl))
                refine y_callV rfl rfl rfl (t_to_wrong__p hHT6 4 (to + 1) ⟨by omega, by omega⟩ ⟨by omega, by omega⟩ _) ?_
                rintro _ T11 ⟨hHT11, w133, z132, rfl, w132, w130, f167, w131⟩
                have hFT11 : FR md_rr_actingOn__p S T11 := FR.tr hFT6 w133 rfl
                show Pl _ _ _ _ _ _ [iv z132] _ _
                have Y167 : FTO S T11 _ (to + 1) := (by have u := f167 z123; exact ⟨u.1, u.2.trans (pc7_FR hFT6 rfl rfl rfl _)⟩)
                refine y_ireturn rfl (retI_z (by omega)) ?_
                have w134 : Xi T11 246 5 = Xi S 246 5 := (show Xi T11 246 5 = Xi T6 246 5 from w133.x _ _ rfl).trans ( (show Xi T6 246 5 = Xi T5 246 5 from w79.x _ _ rfl).trans ((show Xi T5 246 5 = Xi S 246 5 from w66.x _ _ rfl)))
                have w135 : Xi T11 895 12 = Xi T6 895 12 := (show Xi T11 895 12 = Xi T6 895 12 from w133.x _ _ rfl)
                have w136 : Xi T11 895 13 = Xi T6 895 13 := (show Xi T11 895 13 = Xi T6 895 13 from w133.x _ _ rfl)
                have w137 : Xi T11 895 14 = Xi S 895 14 := (show Xi T11 895 14 = Xi T6 895 14 from w133.x _ _ rfl).trans ( (show Xi T6 895 14 = Xi T5 895 14 from w79.x _ _ rfl).trans ((show Xi T5 895 14 = Xi S 895 14 from w66.x _ _ rfl)))
                have w138 : Xi T11 895 5 = Xi T5 895 5 := (show Xi T11 895 5 = Xi T6 895 5 from w133.x _ _ rfl).trans ((show Xi T6 895 5 = Xi T5 895 5 from w79.x _ _ rfl))
                have w139 : Xi T11 895 6 = Xi T5 895 6 := (show Xi T11 895 6 = Xi T6 895 6 from w133.x _ _ rfl).trans ((show Xi T6 895 6 = Xi T5 895 6 from w79.x _ _ rfl))
                have w140 : Xi T11 899 5 = Xi S 899 5 := (show Xi T11 899 5 = Xi T6 899 5 from w133.x _ _ rfl).trans ( (show Xi T6 899 5 = Xi T5 899 5 from w79.x _ _ rfl).trans ((show Xi T5 899 5 = Xi S 899 5 from w66.x _ _ rfl)))
                exact ⟨hHT11, hFT11, _, rfl, ⟨by omega, by omega⟩, (by first | (have u := x237; exact aoo_r (A := (fnd S 8 from_ to)) (K := (Xi S 19 (fnd S 8 from_ to).toNat)) rfl rfl A237.1 A237.2 (aor_k x237.o rfl (by omega) (by show Xi T11 895 14 = (((v8).toNat : Nat) : Int); omega) M237.o C237.o)) | (have u := W195; exact aoo_r (A := (fnd S 8 from_ to)) (K := (Xi S 19 (fnd S 8 from_ to).toNat)) rfl rfl (by rw [← v8_]; omega) (by omega) (aor_o O107 R123 (by omega) rfl rfl z195 W195)) | (have u := Y167; exact aoo_r (A := (fnd S 8 from_ to)) (K := (Xi S 19 (fnd S 8 from_ to).toNat)) rfl rfl (by rw [← v8_]; omega) (by omega) (aor_f O107 R123 (by omega) (by omega) (by first | (rw [if_pos (by omega)]) | (rw [if_neg (by omega)])) Y167)) | (have u := Y55; exact ⟨fun q => absurd q (by rw [← v8_]; omega), fun _ _ => ⟨by omega, Y55⟩, fun _ q => absurd q (by omega)⟩) | exact ⟨fun _ => ⟨by omega, Y28⟩, fun q => absurd (v8_.symm.trans (by omega)) q, fun q => absurd (v8_.symm.trans (by omega)) q⟩)⟩
              · refine y_bipush rfl rfl ?_
                refine y_goto rfl rfl ?_
                refine y_iload rfl rfl ?_
                have w142 : Xi T6 876 8 = Xi S 876 8 := (show Xi T6 876 8 = Xi T5 876 8 from w79.x _ _ rfl).trans ((show Xi T5 876 8 = Xi S 876 8 from w66.x _ _ rfl))
                have w143 : Xi T6 876 9 = Xi S 876 9 := (show Xi T6 876 9 = Xi T5 876 9 from w79.x _ _ rfl).trans ((show Xi T5 876 9 = Xi S 876 9 from w66.x _ _ rfl))
                refine y_callV rfl rfl rfl (t_to_wrong__p hHT6 7 (to + 1) ⟨by omega, by omega⟩ ⟨by omega, by omega⟩ _) ?_
                rintro _ T12 ⟨hHT12, w151, z150, rfl, w150, w148, f167, w149⟩
                have hFT12 : FR md_rr_actingOn__p S T12 := FR.tr hFT6 w151 rfl
                show Pl _ _ _ _ _ _ [iv z150] _ _
                have Y167 : FTO S T12 _ (to + 1) := (by have u := f167 z123; exact ⟨u.1, u.2.trans (pc7_FR hFT6 rfl rfl rfl _)⟩)
                refine y_ireturn rfl (retI_z (by omega)) ?_
                have w152 : Xi T12 246 5 = Xi S 246 5 := (show Xi T12 246 5 = Xi T6 246 5 from w151.x _ _ rfl).trans ( (show Xi T6 246 5 = Xi T5 246 5 from w79.x _ _ rfl).trans ((show Xi T5 246 5 = Xi S 246 5 from w66.x _ _ rfl)))
                have w153 : Xi T12 895 12 = Xi T6 895 12 := (show Xi T12 895 12 = Xi T6 895 12 from w151.x _ _ rfl)
                have w154 : Xi T12 895 13 = Xi T6 895 13 := (show Xi T12 895 13 = Xi T6 895 13 from w151.x _ _ rfl)
                have w155 : Xi T12 895 14 = Xi S 895 14 := (show Xi T12 895 14 = Xi T6 895 14 from w151.x _ _ rfl).trans ( (show Xi T6 895 14 = Xi T5 895 14 from w79.x _ _ rfl).trans ((show Xi T5 895 14 = Xi S 895 14 from w66.x _ _ rfl)))
                have w156 : Xi T12 895 5 = Xi T5 895 5 := (show Xi T12 895 5 = Xi T6 895 5 from w151.x _ _ rfl).trans ((show Xi T6 895 5 = Xi T5 895 5 from w79.x _ _ rfl))
                have w157 : Xi T12 895 6 = Xi T5 895 6 := (show Xi T12 895 6 = Xi T6 895 6 from w151.x _ _ rfl).trans ((show Xi T6 895 6 = Xi T5 895 6 from w79.x _ _ rfl))
                have w158 : Xi T12 899 5 = Xi S 899 5 := (show Xi T12 899 5 = Xi T6 899 5 from w151.x _ _ rfl).trans ( (show Xi T6 899 5 = Xi T5 899 5 from w79.x _ _ rfl).trans ((show Xi T5 899 5 = Xi S 899 5 from w66.x _ _ rfl)))
                exact ⟨hHT12, hFT12, _, rfl, ⟨by omega, by omega⟩, (by first | (have u := x237; exact aoo_r (A := (fnd S 8 from_ to)) (K := (Xi S 19 (fnd S 8 from_ to).toNat)) rfl rfl A237.1 A237.2 (aor_k x237.o rfl (by omega) (by show Xi T12 895 14 = (((v8).toNat : Nat) : Int); omega) M237.o C237.o)) | (have u := W195; exact aoo_r (A := (fnd S 8 from_ to)) (K := (Xi S 19 (fnd S 8 from_ to).toNat)) rfl rfl (by rw [← v8_]; omega) (by omega) (aor_o O107 R123 (by omega) rfl rfl z195 W195)) | (have u := Y167; exact aoo_r (A := (fnd S 8 from_ to)) (K := (Xi S 19 (fnd S 8 from_ to).toNat)) rfl rfl (by rw [← v8_]; omega) (by omega) (aor_f O107 R123 (by omega) (by omega) (by first | (rw [if_pos (by omega)]) | (rw [if_neg (by omega)])) Y167)) | (have u := Y55; exact ⟨fun q => absurd q (by rw [← v8_]; omega), fun _ _ => ⟨by omega, Y55⟩, fun _ q => absurd q (by omega)⟩) | exact ⟨fun _ => ⟨by omega, Y28⟩, fun q => absurd (v8_.symm.trans (by omega)) q, fun q => absurd (v8_.symm.trans (by omega)) q⟩)⟩
      · refine y_aload_n rfl rfl ?_
        refine y_gfr rfl rfl rfl rfl rfl (hHT5.r 899 1 1 rfl) ?_
        refine y_aload_n rfl rfl ?_
        refine y_gfr rfl rfl rfl rfl rfl (hHT5.r 899 2 895 rfl) ?_
        refine y_gfi rfl rfl rfl rfl rfl ?_
        have w159 : -2147483648 ≤ (Xi T5 895 6) ∧ (Xi T5 895 6) ≤ 2147483647 := Xi_rgI
        refine y_iload rfl rfl ?_
        have w160 : Xi T5 246 5 = Xi S 246 5 := (show Xi T5 246 5 = Xi S 246 5 from w66.x _ _ rfl)
        have w161 : Xi T5 876 8 = Xi S 876 8 := (show Xi T5 876 8 = Xi S 876 8 from w66.x _ _ rfl)
        have w162 : Xi T5 895 12 = Xi S 895 12 := (show Xi T5 895 12 = Xi S 895 12 from w66.x _ _ rfl)
        have w163 : Xi T5 895 13 = Xi S 895 13 := (show Xi T5 895 13 = Xi S 895 13 from w66.x _ _ rfl)
        have w164 : Xi T5 895 14 = Xi S 895 14 := (show Xi T5 895 14 = Xi S 895 14 from w66.x _ _ rfl)
        have w165 : Xi T5 899 5 = Xi S 899 5 := (show Xi T5 899 5 = Xi S 899 5 from w66.x _ _ rfl)
        refine y_callV rfl rfl rfl (t_vo_isKind__p hHT5 (Xi T5 895 6) (Xi S 19 ((z56).toNat)) ⟨by omega, by omega⟩ ⟨by omega, by omega⟩ _) ?_
        rintro _ _ ⟨rfl, z166, rfl, w166, q96⟩
        show Pl _ _ _ _ _ _ [iv z166] _ _
        have k96 : z166 = isK S (whkC S (to + 1) (Xi S 899 5)) (Xi S 19 (fnd S 8 from_ to).toNat) := by have u := q96; rw [isK_F hFT5 rfl, R69.2.1, ← k40] at u; exact u
        clear q96
        refine y_if_eq rfl rfl (by unfold rg; omega) (fun w167 => ?_) (fun w168 => ?_)
        · refine y_iconst rfl ?_
          refine y_istore rfl rfl rfl ?_
          have O107 : (0 : Int) = obI S (to + 1) (Xi S 899 5) (Xi S 19 (fnd S 8 from_ to).toNat) := by unfold obI; first | (have t := k96; first | (rw [if_pos ⟨by omega, by omega⟩]) | (rw [if_neg (fun q => q.2 (by omega))])) | (rw [if_neg (fun q => by have := q.1; omega)])
          refine y_aload_n rfl rfl ?_
          refine y_gfr rfl rfl rfl rfl rfl (hHT5.r 899 2 895 rfl) ?_
          refine y_iload rfl rfl ?_
          refine y_aload_n rfl rfl ?_
          refine y_gfi rfl rfl rfl rfl rfl ?_
          have w169 : (Xi T5 899 5) = (Xi S 899 5) := (show Xi T5 899 5 = Xi S 899 5 from w66.x _ _ rfl)
          rw [w169]
          refine y_iconst rfl ?_
          refine y_iconst rfl ?_
          refine y_iload rfl rfl ?_
          have w170 : Xi T5 1 3 = Xi S 1 3 := (show Xi T5 1 3 = Xi S 1 3 from w66.x _ _ rfl)
          refine y_callV rfl rfl rfl (t_me_countReadings__p hHT5 (to + 1) (Xi S 899 5) 0 1 (Xi S 19 ((z56).toNat)) ⟨by omega, by omega⟩ ⟨by omega, by omega⟩ ⟨by omega, by omega⟩ ⟨by omega, by omega⟩ ⟨by omega, by omega⟩ (by first | assumption | omega) (by first | assumption | exact (CEN_FR hFT5 rfl rfl (by assumption : CEN S))) _) ?_
          rintro _ T13 ⟨hHT13, w178, z177, rfl, w177, o123⟩
          have hFT13 : FR md_rr_actingOn__p S T13 := FR.tr hFT5 w178 rfl
          show Pl _ _ _ _ _ _ [iv z177] _ _
          have F123 := (by assumption : FR md_me_countReadings__p T5 T13)
          have R123 : z177 = rdC S (to + 1) (Xi S 899 5) (Xi S 19 (fnd S 8 from_ to).toNat) := by unfold rdC; by_cases q : Xi S 899 5 - (to + 1) ≤ 6; (rw [if_pos q]; have u := (o123.1 (by omega)).1; rw [ccT_F F69 rfl rfl, ← k40] at u; exact u); (rw [if_neg q]; exact o123.2 (by omega))
          have n123 : 0 ≤ z177 ∧ z177 ≤ 13349232 := by rw [R123]; exact rdC_b
          have O123 : Hid (Xi S 899 5 - (to + 1) ≤ 6 → 0 < z177 → ∃ m : Int, (1 ≤ m ∧ m ≤ 3 ∧ m ≤ Xi S 899 5 - (to + 1)) ∧ 0 < ccC S (to + 1) (Xi S 899 5) 0 1 (Xi S 19 (fnd S 8 from_ to).toNat) m ∧ Xi T13 895 12 = ckC S (Xi S 899 5) 0 m ∧ Xi T13 895 13 = Xi S 899 5 - m) := fun a b => by obtain ⟨m, a1, a2, a3, a4, a5⟩ := (o123.1 (by omega)).2 b; rw [ccC_F F69 rfl rfl, ← k40] at a2; rw [show ckC T5 (Xi S 899 5) 0 m = ckC S (Xi S 899 5) 0 m from fnd_FR F69 rfl] at a4; exact ⟨m, ⟨a1.1, by omega, a1.2.2⟩, a2, a4, a5⟩
          clear o123
          have z123 : Xi T13 876 8 = 0 := (F123.x 876 8 rfl).trans z69
          have y123 : Xi T13 895 5 = whoC S (to + 1) (Xi S 899 5) := (F123.x 895 5 rfl).trans Wa69
          have u123 : Xi T13 246 5 = Xi S 246 5 := (F123.x 246 5 rfl).trans (F69.x 246 5 rfl)
          refine y_istore rfl rfl rfl ?_
          refine y_iload rfl rfl ?_
          refine y_iload rfl rfl ?_
          refine y_if_eq rfl rfl (by unfold rg; omega) (fun w179 => ?_) (fun w180 => absurd w180 (by omega))
          · refine y_iconst rfl ?_
            refine y_iadd rfl ?_
            refine y_iconst rfl ?_
            refine y_icmp_eq rfl rfl (by unfold rg; omega) (by unfold rg; omega) (fun w181 => ?_) (fun w182 => ?_)
            · refine y_aload_n rfl rfl ?_
              refine y_gfr rfl rfl rfl rfl rfl ((hFT13 899 4 rfl).2.2.trans hru) ?_
              refine y_iconst rfl ?_
              refine y_iload_n rfl rfl ?_
              refine y_iastoreP (n := 8) rfl (lay_248 (by omega)) (by unfold rg; omega) (fun w184 w185 => ?_)
              obtain ⟨U14, eU14⟩ : ∃ T : sS, T = uI T13 (248 + ru) ((1 : Int).toNat) (Int32.ofInt z56) := ⟨_, rfl⟩
              rw [← eU14]
              have hHU14 : RI U14 := by rw [eU14]; exact RI_w hHT13
              have hFU14 : FR md_rr_actingOn__p S U14 := by rw [eU14]; exact FR.wI hFT13 (mdf_i (r := (248, 272, 0, 100000)) (List.mem_of_getElem? (i := 1) rfl) (inR_i (by omega) (by omega) (by omega) (by omega)))
              have w186 : Xi U14 (248 + ru) ((1 : Int).toNat) = z56 := by rw [eU14]; exact Xi_same (by unfold rg; omega)
              have e177 := eU14
              have x177 : Xi U14 (248 + ru) 1 = (fnd S 8 from_ to) := by rw [e177]; exact (Xi_same (by unfold rg; omega)).trans v8_
              have g177 : KRU S U14 ru := kru_w e177 (kru_f F123 rfl (kru_f F69 rfl KRU.rf))
              have r177 : ∀ j : Nat, j ≠ 1 → Xi U14 (248 + ru) j = Xi S (248 + ru) j := fun j q => by rw [e177, Xi_ne (by omega), FR_ru F123 rfl hrk, FR_ru F69 rfl hrk]
              have z177 : Xi U14 876 8 = 0 := by rw [e177, Xi_ne (by omega)]; exact z123
              have c177 : Hid (∀ c j : Nat, c < 600 → Xi U14 (276 + c) j = Xi S (276 + c) j) := fun c j q => by rw [e177, Xi_ne (by omega), FR_cl F123 rfl q, FR_cl F69 rfl q]
              have u177 : Xi U14 246 5 = Xi S 246 5 := by rw [e177, Xi_ne (by omega)]; exact u123
              refine y_iload rfl rfl ?_
              refine y_if_eq rfl rfl (by unfold rg; omega) (fun w187 => ?_) (fun w188 => absurd w188 (by omega))
              · refine y_aload_n rfl rfl ?_
                have c198 : Xi S 899 5 - (to + 1) ≤ 6 := by have u := R123; unfold rdC at u; by_cases q : Xi S 899 5 - (to + 1) ≤ 6; exact q; (rw [if_neg q] at u; omega)
                have m198 : Hid (∃ m : Int, (1 ≤ m ∧ m ≤ 3 ∧ m ≤ Xi S 899 5 - (to + 1)) ∧ 0 < ccC S (to + 1) (Xi S 899 5) 0 1 (Xi S 19 (fnd S 8 from_ to).toNat) m ∧ Xi U14 895 12 = ckC S (Xi S 899 5) 0 m ∧ Xi U14 895 13 = Xi S 899 5 - m) := by obtain ⟨m, a1, a2, a4, a5⟩ := O123.o c198 (by omega); exact ⟨m, a1, a2, by rw [e177, Xi_ne (by omega)]; exact a4, by rw [e177, Xi_ne (by omega)]; exact a5⟩
                have t198 : ccT S (to + 1) (Xi S 899 5) 0 1 (Xi S 19 (fnd S 8 from_ to).toNat) 4 = 1 := by have u := R123; unfold rdC at u; rw [if_pos c198] at u; omega
                have p198 : Hid ((to + 1) ≤ Xi U14 895 13 ∧ Xi U14 895 13 - (to + 1) ≤ 5 ∧ 0 < cpF U14 (Xi U14 895 12) (to + 1) (Xi U14 895 13) 1) := by obtain ⟨m, a1, a2, a4, a5⟩ := m198.o; rw [a5, a4, cpF_FR hFU14 rfl, ← ccc_y (ccp a2)]; exact ⟨by omega, by omega, a2⟩
                refine y_gfr rfl rfl rfl rfl rfl (hHU14.r 899 2 895 rfl) ?_
                refine y_iload rfl rfl ?_
                refine y_iconst rfl ?_
                have w189 : Xi U14 1 3 = Xi S 1 3 := (show Xi U14 1 3 = Xi T13 1 3 from by rw [eU14]; exact Xi_ne (by omega)).trans ( (show Xi T13 1 3 = Xi T5 1 3 from w178.x _ _ rfl).trans ((show Xi T5 1 3 = Xi S 1 3 from w66.x _ _ rfl)))
                have w190 : Xi U14 246 5 = Xi S 246 5 := (show Xi U14 246 5 = Xi T13 246 5 from by rw [eU14]; exact Xi_ne (by omega)).trans ( (show Xi T13 246 5 = Xi T5 246 5 from w178.x _ _ rfl).trans ((show Xi T5 246 5 = Xi S 246 5 from w66.x _ _ rfl)))
                have w191 : Xi U14 876 8 = Xi S 876 8 := (show Xi U14 876 8 = Xi T13 876 8 from by rw [eU14]; exact Xi_ne (by omega)).trans ( (show Xi T13 876 8 = Xi T5 876 8 from w178.x _ _ rfl).trans ((show Xi T5 876 8 = Xi S 876 8 from w66.x _ _ rfl)))
                have w192 : Xi U14 895 12 = Xi T13 895 12 := (show Xi U14 895 12 = Xi T13 895 12 from by rw [eU14]; exact Xi_ne (by omega))
                have w193 : Xi U14 895 13 = Xi T13 895 13 := (show Xi U14 895 13 = Xi T13 895 13 from by rw [eU14]; exact Xi_ne (by omega))
                have w194 : Xi U14 895 14 = Xi S 895 14 := (show Xi U14 895 14 = Xi T13 895 14 from by rw [eU14]; exact Xi_ne (by omega)).trans ( (show Xi T13 895 14 = Xi T5 895 14 from w178.x _ _ rfl).trans ((show Xi T5 895 14 = Xi S 895 14 from w66.x _ _ rfl)))
                have w195 : Xi U14 895 5 = Xi T5 895 5 := (show Xi U14 895 5 = Xi T13 895 5 from by rw [eU14]; exact Xi_ne (by omega)).trans ((show Xi T13 895 5 = Xi T5 895 5 from w178.x _ _ rfl))
                have w196 : Xi U14 895 6 = Xi T5 895 6 := (show Xi U14 895 6 = Xi T13 895 6 from by rw [eU14]; exact Xi_ne (by omega)).trans ((show Xi T13 895 6 = Xi T5 895 6 from w178.x _ _ rfl))
                have w197 : Xi U14 899 5 = Xi S 899 5 := (show Xi U14 899 5 = Xi T13 899 5 from by rw [eU14]; exact Xi_ne (by omega)).trans ( (show Xi T13 899 5 = Xi T5 899 5 from w178.x _ _ rfl).trans ((show Xi T5 899 5 = Xi S 899 5 from w66.x _ _ rfl)))
                refine y_callV rfl rfl rfl (t_me_keepReading__p hHU14 (to + 1) 1 ⟨by omega, by omega⟩ ⟨by omega, by omega⟩ (by first | assumption | omega) (by first | assumption | exact (CEN_FR hFU14 rfl rfl (by assumption : CEN S))) (⟨p198.o.1, p198.o.2.1⟩) (p198.o.2.2) _) ?_
                rintro _ T15 ⟨hHT15, w199, rfl, o205⟩
                have hFT15 : FR md_rr_actingOn__p S T15 := FR.tr hFU14 w199 rfl
                show Pl _ _ _ _ _ _ [] _ _
                have F205 := (by assumption : FR md_me_keepReading__p U14 T15)
                have b205 : Xi T15 895 14 ≤ 6 ∧ 0 ≤ Xi T15 895 14 := by have u := o205.1; have w := prs_len (f := fA U14 (Xi U14 895 12) (to + 1) 1) (g := g1C U14 (to + 1)) (z := Xi U14 895 13 - (to + 1)) 6 0; omega
                have N205 : Hid (∃ m : Int, (1 ≤ m ∧ m ≤ 3 ∧ m ≤ Xi S 899 5 - (to + 1)) ∧ ccC S (to + 1) (Xi S 899 5) 0 1 (Xi S 19 (fnd S 8 from_ to).toNat) m = 1 ∧ Xi T15 895 12 = ckC S (Xi S 899 5) 0 m ∧ KPC T15 (fA S (ckC S (Xi S 899 5) 0 m) (to + 1) 1) (g1C S (to + 1)) (g2C S (ckC S (Xi S 899 5) 0 m) (to + 1)) (Xi S 899 5 - m - (to + 1))) := by obtain ⟨m, a1, a2, a4, a5⟩ := m198.o; have t := o205; rw [a4, a5, fA_FR hFU14 rfl, g1C_FR hFU14 rfl, g2C_FR hFU14 rfl] at t; exact ⟨m, a1, ccT_1 t198 (by omega) a1.2.2 a2, (F205.x 895 12 rfl).trans a4, t⟩
                clear o205
                have e205 : Xi T15 246 5 = Xi S 246 5 := (F205.x 246 5 rfl).trans u177
                have z205 : Xi T15 876 8 = 0 := (F205.x 876 8 rfl).trans z177
                refine y_aload_n rfl rfl ?_
                refine y_gfr rfl rfl rfl rfl rfl ((hFT15 899 4 rfl).2.2.trans hru) ?_
                refine y_iconst rfl ?_
                refine y_aload_n rfl rfl ?_
                refine y_gfr rfl rfl rfl rfl rfl (hHT15.r 899 2 895 rfl) ?_
                refine y_gfi rfl rfl rfl rfl rfl ?_
                have w201 : -2147483648 ≤ (Xi T15 895 12) ∧ (Xi T15 895 12) ≤ 2147483647 := Xi_rgI
                refine y_iastoreP (n := 8) rfl (lay_248 (by omega)) (by unfold rg; omega) (fun w202 w203 => ?_)
                obtain ⟨U16, eU16⟩ : ∃ T : sS, T = uI T15 (248 + ru) ((3 : Int).toNat) (Int32.ofInt (Xi T15 895 12)) := ⟨_, rfl⟩
                rw [← eU16]
                have hHU16 : RI U16 := by rw [eU16]; exact RI_w hHT15
                have hFU16 : FR md_rr_actingOn__p S U16 := by rw [eU16]; exact FR.wI hFT15 (mdf_i (r := (248, 272, 0, 100000)) (List.mem_of_getElem? (i := 1) rfl) (inR_i (by omega) (by omega) (by omega) (by omega)))
                have w204 : Xi U16 (248 + ru) ((3 : Int).toNat) = (Xi T15 895 12) := by rw [eU16]; exact Xi_same (by unfold rg; omega)
                have e220 := eU16
                refine y_aload_n rfl rfl ?_
                refine y_gfr rfl rfl rfl rfl rfl ((hFU16 899 4 rfl).2.2.trans hru) ?_
                refine y_iconst rfl ?_
                refine y_aload_n rfl rfl ?_
                refine y_gfr rfl rfl rfl rfl rfl (hHU16.r 899 2 895 rfl) ?_
                refine y_gfi rfl rfl rfl rfl rfl ?_
                have w206 : -2147483648 ≤ (Xi U16 895 14) ∧ (Xi U16 895 14) ≤ 2147483647 := Xi_rgI
                refine y_iastoreP (n := 8) rfl (lay_248 (by omega)) (by unfold rg; omega) (fun w207 w208 => ?_)
                obtain ⟨U17, eU17⟩ : ∃ T : sS, T = uI U16 (248 + ru) ((4 : Int).toNat) (Int32.ofInt (Xi U16 895 14)) := ⟨_, rfl⟩
                rw [← eU17]
                have hHU17 : RI U17 := by rw [eU17]; exact RI_w hHU16
                have hFU17 : FR md_rr_actingOn__p S U17 := by rw [eU17]; exact FR.wI hFU16 (mdf_i (r := (248, 272, 0, 100000)) (List.mem_of_getElem? (i := 1) rfl) (inR_i (by omega) (by omega) (by omega) (by omega)))
                have w209 : Xi U17 (248 + ru) ((4 : Int).toNat) = (Xi U16 895 14) := by rw [eU17]; exact Xi_same (by unfold rg; omega)
                have e233 := eU17
                have M233 : Hid (AOM S U17 ru (fnd S 8 from_ to) (Xi S 19 (fnd S 8 from_ to).toNat) (to + 1) (Xi S 899 5)) := by obtain ⟨m, a1, a2, a4, a5⟩ := N205.o; exact ⟨m, a1, a2, by rw [e233, Xi_ne (by omega), e220, Xi_ne (by omega), FR_ru F205 rfl hrk]; exact x177, by rw [e233, Xi_ne (by omega), e220]; exact (Xi_same (by unfold rg; omega)).trans a4, by rw [show Xi U17 895 14 = Xi U16 895 14 by rw [e233]; exact Xi_ne (by omega)]; rw [e233]; exact (Xi_same (by unfold rg; omega)).trans (by first | rfl | omega), fun j p q r => by rw [e233, Xi_ne (by omega), e220, Xi_ne (by omega), FR_ru F205 rfl hrk]; exact r177 j p, by unfold KPC at a5 ⊢; rw [e233, Xi_ne (by omega), e220, Xi_ne (by omega)]; exact ⟨a5.1, a5.2.1, fun i hi => by rw [Xi_ne (by omega), Xi_ne (by omega), Xi_ne (by omega), Xi_ne (by omega)]; exact a5.2.2 i hi⟩, kru_w e233 (kru_w e220 (kru_f F205 rfl g177))⟩
                have v233 : Xi U17 895 14 ≤ 6 ∧ 0 ≤ Xi U17 895 14 := by rw [e233, Xi_ne (by omega), e220, Xi_ne (by omega)]; exact b205
                have z233 : Xi U17 876 8 = 0 := by rw [e233, Xi_ne (by omega), e220, Xi_ne (by omega)]; exact z205
                have u233 : Xi U17 246 5 = Xi S 246 5 := by rw [e233, Xi_ne (by omega), e220, Xi_ne (by omega)]; exact e205
                have C233 : Hid (AOC S U17 0) := ⟨by omega, fun i q => absurd q (Nat.not_lt_zero _), fun c j q => by rw [e233, Xi_ne (by omega), e220, Xi_ne (by omega), FR_cl F205 rfl (by omega)]; exact c177.o c j (by omega)⟩
                refine y_iconst rfl ?_
                refine y_istore rfl rfl rfl ?_
                have w210 : Xi U17 246 5 = Xi S 246 5 := (show Xi U17 246 5 = Xi U16 246 5 from by rw [eU17]; exact Xi_ne (by omega)).trans ( (show Xi U16 246 5 = Xi T15 246 5 from by rw [eU16]; exact Xi_ne (by omega)).trans ( (show Xi T15 246 5 = Xi U14 246 5 from w199.x _ _ rfl).trans ( (show Xi U14 246 5 = Xi T13 246 5 from by rw [eU14]; exact Xi_ne (by omega)).trans ( (show Xi T13 246 5 = Xi T5 246 5 from w178.x _ _ rfl).trans ((show Xi T5 246 5 = Xi S 246 5 from w66.x _ _ rfl))))))
                have w211 : Xi U17 876 8 = Xi S 876 8 := (show Xi U17 876 8 = Xi U16 876 8 from by rw [eU17]; exact Xi_ne (by omega)).trans ( (show Xi U16 876 8 = Xi T15 876 8 from by rw [eU16]; exact Xi_ne (by omega)).trans ( (show Xi T15 876 8 = Xi U14 876 8 from w199.x _ _ rfl).trans ( (show Xi U14 876 8 = Xi T13 876 8 from by rw [eU14]; exact Xi_ne (by omega)).trans ( (show Xi T13 876 8 = Xi T5 876 8 from w178.x _ _ rfl).trans ((show Xi T5 876 8 = Xi S 876 8 from w66.x _ _ rfl))))))
                have w212 : Xi U17 895 12 = Xi T13 895 12 := (show Xi U17 895 12 = Xi U16 895 12 from by rw [eU17]; exact Xi_ne (by omega)).trans ( (show Xi U16 895 12 = Xi T15 895 12 from by rw [eU16]; exact Xi_ne (by omega)).trans ( (show Xi T15 895 12 = Xi U14 895 12 from w199.x _ _ rfl).trans ((show Xi U14 895 12 = Xi T13 895 12 from by rw [eU14]; exact Xi_ne (by omega)))))
                have w213 : Xi U17 895 13 = Xi T13 895 13 := (show Xi U17 895 13 = Xi U16 895 13 from by rw [eU17]; exact Xi_ne (by omega)).trans ( (show Xi U16 895 13 = Xi T15 895 13 from by rw [eU16]; exact Xi_ne (by omega)).trans ( (show Xi T15 895 13 = Xi U14 895 13 from w199.x _ _ rfl).trans ((show Xi U14 895 13 = Xi T13 895 13 from by rw [eU14]; exact Xi_ne (by omega)))))
                have w214 : Xi U17 895 14 = Xi T15 895 14 := (show Xi U17 895 14 = Xi U16 895 14 from by rw [eU17]; exact Xi_ne (by omega)).trans ((show Xi U16 895 14 = Xi T15 895 14 from by rw [eU16]; exact Xi_ne (by omega)))
                have w215 : Xi U17 895 5 = Xi T5 895 5 := (show Xi U17 895 5 = Xi U16 895 5 from by rw [eU17]; exact Xi_ne (by omega)).trans ( (show Xi U16 895 5 = Xi T15 895 5 from by rw [eU16]; exact Xi_ne (by omega)).trans ( (show Xi T15 895 5 = Xi U14 895 5 from w199.x _ _ rfl).trans ( (show Xi U14 895 5 = Xi T13 895 5 from by rw [eU14]; exact Xi_ne (by omega)).trans ((show Xi T13 895 5 = Xi T5 895 5 from w178.x _ _ rfl)))))
                have w216 : Xi U17 895 6 = Xi T5 895 6 := (show Xi U17 895 6 = Xi U16 895 6 from by rw [eU17]; exact Xi_ne (by omega)).trans ( (show Xi U16 895 6 = Xi T15 895 6 from by rw [eU16]; exact Xi_ne (by omega)).trans ( (show Xi T15 895 6 = Xi U14 895 6 from w199.x _ _ rfl).trans ( (show Xi U14 895 6 = Xi T13 895 6 from by rw [eU14]; exact Xi_ne (by omega)).trans ((show Xi T13 895 6 = Xi T5 895 6 from w178.x _ _ rfl)))))
                have w217 : Xi U17 899 5 = Xi S 899 5 := (show Xi U17 899 5 = Xi U16 899 5 from by rw [eU17]; exact Xi_ne (by omega)).trans ( (show Xi U16 899 5 = Xi T15 899 5 from by rw [eU16]; exact Xi_ne (by omega)).trans ( (show Xi T15 899 5 = Xi U14 899 5 from w199.x _ _ rfl).trans ( (show Xi U14 899 5 = Xi T13 899 5 from by rw [eU14]; exact Xi_ne (by omega)).trans ( (show Xi T13 899 5 = Xi T5 899 5 from w178.x _ _ rfl).trans ((show Xi T5 899 5 = Xi S 899 5 from w66.x _ _ rfl))))))
                exact Pl_weak (C237 fu (by omega) U17 hHU17 hFU17 (0) (by omega) (by omega) (by omega) (by omega) (by first | exact A237 | exact ⟨by rw [← v8_]; omega, by omega⟩) (by first | exact x237 | exact ⟨by omega, by omega⟩) (by first | exact M288 | exact M233) (by first | exact C288 | exact C233)) (by omega) (And.intro rfl (And.intro rfl (True.intro)))
            · refine y_aload_n rfl rfl ?_
              refine y_gfr rfl rfl rfl rfl rfl (hHT13.r 899 0 876 rfl) ?_
              refine y_iload rfl rfl ?_
              refine y_if_ne rfl rfl (by unfold rg; omega) (fun w218 => absurd w218 (by omega)) (fun w219 => ?_)
              · refine y_iload rfl rfl ?_
                refine y_if_le rfl rfl (by unfold rg; omega) (fun w220 => ?_) (fun w221 => ?_)
                · refine y_iconst rfl ?_
                  refine y_iload rfl rfl ?_
                  have w223 : Xi T13 876 8 = Xi S 876 8 := (show Xi T13 876 8 = Xi T5 876 8 from w178.x _ _ rfl).trans ((show Xi T5 876 8 = Xi S 876 8 from w66.x _ _ rfl))
                  have w224 : Xi T13 876 9 = Xi S 876 9 := (show Xi T13 876 9 = Xi T5 876 9 from w178.x _ _ rfl).trans ((show Xi T5 876 9 = Xi S 876 9 from w66.x _ _ rfl))
                  refine y_callV rfl rfl rfl (t_to_wrong__p hHT13 4 (to + 1) ⟨by omega, by omega⟩ ⟨by omega, by omega⟩ _) ?_
                  rintro _ T18 ⟨hHT18, w232, z231, rfl, w231, w229, f167, w230⟩
                  have hFT18 : FR md_rr_actingOn__p S T18 := FR.tr hFT13 w232 rfl
                  show Pl _ _ _ _ _ _ [iv z231] _ _
                  have Y167 : FTO S T18 _ (to + 1) := (by have u := f167 z123; exact ⟨u.1, u.2.trans (pc7_FR hFT13 rfl rfl rfl _)⟩)
                  refine y_ireturn rfl (retI_z (by omega)) ?_
                  have w233 : Xi T18 246 5 = Xi S 246 5 := (show Xi T18 246 5 = Xi T13 246 5 from w232.x _ _ rfl).trans ( (show Xi T13 246 5 = Xi T5 246 5 from w178.x _ _ rfl).trans ((show Xi T5 246 5 = Xi S 246 5 from w66.x _ _ rfl)))
                  have w234 : Xi T18 895 12 = Xi T13 895 12 := (show Xi T18 895 12 = Xi T13 895 12 from w232.x _ _ rfl)
                  have w235 : Xi T18 895 13 = Xi T13 895 13 := (show Xi T18 895 13 = Xi T13 895 13 from w232.x _ _ rfl)
                  have w236 : Xi T18 895 14 = Xi S 895 14 := (show Xi T18 895 14 = Xi T13 895 14 from w232.x _ _ rfl).trans ( (show Xi T13 895 14 = Xi T5 895 14 from w178.x _ _ rfl).trans ((show Xi T5 895 14 = Xi S 895 14 from w66.x _ _ rfl)))
                  have w237 : Xi T18 895 5 = Xi T5 895 5 := (show Xi T18 895 5 = Xi T13 895 5 from w232.x _ _ rfl).trans ((show Xi T13 895 5 = Xi T5 895 5 from w178.x _ _ rfl))
                  have w238 : Xi T18 895 6 = Xi T5 895 6 := (show Xi T18 895 6 = Xi T13 895 6 from w232.x _ _ rfl).trans ((show Xi T13 895 6 = Xi T5 895 6 from w178.x _ _ rfl))
                  have w239 : Xi T18 899 5 = Xi S 899 5 := (show Xi T18 899 5 = Xi T13 899 5 from w232.x _ _ rfl).trans ( (show Xi T13 899 5 = Xi T5 899 5 from w178.x _ _ rfl).trans ((show Xi T5 899 5 = Xi S 899 5 from w66.x _ _ rfl)))
                  exact ⟨hHT18, hFT18, _, rfl, ⟨by omega, by omega⟩, (by first | (have u := x237; exact aoo_r (A := (fnd S 8 from_ to)) (K := (Xi S 19 (fnd S 8 from_ to).toNat)) rfl rfl A237.1 A237.2 (aor_k x237.o rfl (by omega) (by show Xi T18 895 14 = (((v8).toNat : Nat) : Int); omega) M237.o C237.o)) | (have u := W195; exact aoo_r (A := (fnd S 8 from_ to)) (K := (Xi S 19 (fnd S 8 from_ to).toNat)) rfl rfl (by rw [← v8_]; omega) (by omega) (aor_o O107 R123 (by omega) rfl rfl z195 W195)) | (have u := Y167; exact aoo_r (A := (fnd S 8 from_ to)) (K := (Xi S 19 (fnd S 8 from_ to).toNat)) rfl rfl (by rw [← v8_]; omega) (by omega) (aor_f O107 R123 (by omega) (by omega) (by first | (rw [if_pos (by omega)]) | (rw [if_neg (by omega)])) Y167)) | (have u := Y55; exact ⟨fun q => absurd q (by rw [← v8_]; omega), fun _ _ => ⟨by omega, Y55⟩, fun _ q => absurd q (by omega)⟩) | exact ⟨fun _ => ⟨by omega, Y28⟩, fun q => absurd (v8_.symm.trans (by omega)) q, fun q => absurd (v8_.symm.trans (by omega)) q⟩)⟩
                · refine y_bipush rfl rfl ?_
                  refine y_goto rfl rfl ?_
                  refine y_iload rfl rfl ?_
                  have w241 : Xi T13 876 8 = Xi S 876 8 := (show Xi T13 876 8 = Xi T5 876 8 from w178.x _ _ rfl).trans ((show Xi T5 876 8 = Xi S 876 8 from w66.x _ _ rfl))
                  have w242 : Xi T13 876 9 = Xi S 876 9 := (show Xi T13 876 9 = Xi T5 876 9 from w178.x _ _ rfl).trans ((show Xi T5 876 9 = Xi S 876 9 from w66.x _ _ rfl))
                  refine y_callV rfl rfl rfl (t_to_wrong__p hHT13 7 (to + 1) ⟨by omega, by omega⟩ ⟨by omega, by omega⟩ _) ?_
                  rintro _ T19 ⟨hHT19, w250, z249, rfl, w249, w247, f167, w248⟩
                  have hFT19 : FR md_rr_actingOn__p S T19 := FR.tr hFT13 w250 rfl
                  show Pl _ _ _ _ _ _ [iv z249] _ _
                  have Y167 : FTO S T19 _ (to + 1) := (by have u := f167 z123; exact ⟨u.1, u.2.trans (pc7_FR hFT13 rfl rfl rfl _)⟩)
                  refine y_ireturn rfl (retI_z (by omega)) ?_
                  have w251 : Xi T19 246 5 = Xi S 246 5 := (show Xi T19 246 5 = Xi T13 246 5 from w250.x _ _ rfl).trans ( (show Xi T13 246 5 = Xi T5 246 5 from w178.x _ _ rfl).trans ((show Xi T5 246 5 = Xi S 246 5 from w66.x _ _ rfl)))
                  have w252 : Xi T19 895 12 = Xi T13 895 12 := (show Xi T19 895 12 = Xi T13 895 12 from w250.x _ _ rfl)
                  have w253 : Xi T19 895 13 = Xi T13 895 13 := (show Xi T19 895 13 = Xi T13 895 13 from w250.x _ _ rfl)
                  have w254 : Xi T19 895 14 = Xi S 895 14 := (show Xi T19 895 14 = Xi T13 895 14 from w250.x _ _ rfl).trans ( (show Xi T13 895 14 = Xi T5 895 14 from w178.x _ _ rfl).trans ((show Xi T5 895 14 = Xi S 895 14 from w66.x _ _ rfl)))
                  have w255 : Xi T19 895 5 = Xi T5 895 5 := (show Xi T19 895 5 = Xi T13 895 5 from w250.x _ _ rfl).trans ((show Xi T13 895 5 = Xi T5 895 5 from w178.x _ _ rfl))
                  have w256 : Xi T19 895 6 = Xi T5 895 6 := (show Xi T19 895 6 = Xi T13 895 6 from w250.x _ _ rfl).trans ((show Xi T13 895 6 = Xi T5 895 6 from w178.x _ _ rfl))
                  have w257 : Xi T19 899 5 = Xi S 899 5 := (show Xi T19 899 5 = Xi T13 899 5 from w250.x _ _ rfl).trans ( (show Xi T13 899 5 = Xi T5 899 5 from w178.x _ _ rfl).trans ((show Xi T5 899 5 = Xi S 899 5 from w66.x _ _ rfl)))
                  exact ⟨hHT19, hFT19, _, rfl, ⟨by omega, by omega⟩, (by first | (have u := x237; exact aoo_r (A := (fnd S 8 from_ to)) (K := (Xi S 19 (fnd S 8 from_ to).toNat)) rfl rfl A237.1 A237.2 (aor_k x237.o rfl (by omega) (by show Xi T19 895 14 = (((v8).toNat : Nat) : Int); omega) M237.o C237.o)) | (have u := W195; exact aoo_r (A := (fnd S 8 from_ to)) (K := (Xi S 19 (fnd S 8 from_ to).toNat)) rfl rfl (by rw [← v8_]; omega) (by omega) (aor_o O107 R123 (by omega) rfl rfl z195 W195)) | (have u := Y167; exact aoo_r (A := (fnd S 8 from_ to)) (K := (Xi S 19 (fnd S 8 from_ to).toNat)) rfl rfl (by rw [← v8_]; omega) (by omega) (aor_f O107 R123 (by omega) (by omega) (by first | (rw [if_pos (by omega)]) | (rw [if_neg (by omega)])) Y167)) | (have u := Y55; exact ⟨fun q => absurd q (by rw [← v8_]; omega), fun _ _ => ⟨by omega, Y55⟩, fun _ q => absurd q (by omega)⟩) | exact ⟨fun _ => ⟨by omega, Y28⟩, fun q => absurd (v8_.symm.trans (by omega)) q, fun q => absurd (v8_.symm.trans (by omega)) q⟩)⟩
        · refine y_iconst rfl ?_
          refine y_goto rfl rfl ?_
          refine y_istore rfl rfl rfl ?_
          have O107 : (1 : Int) = obI S (to + 1) (Xi S 899 5) (Xi S 19 (fnd S 8 from_ to).toNat) := by unfold obI; first | (have t := k96; first | (rw [if_pos ⟨by omega, by omega⟩]) | (rw [if_neg (fun q => q.2 (by omega))])) | (rw [if_neg (fun q => by have := q.1; omega)])
          refine y_aload_n rfl rfl ?_
          refine y_gfr rfl rfl rfl rfl rfl (hHT5.r 899 2 895 rfl) ?_
          refine y_iload rfl rfl ?_
          refine y_aload_n rfl rfl ?_
          refine y_gfi rfl rfl rfl rfl rfl ?_
          have w258 : (Xi T5 899 5) = (Xi S 899 5) := (show Xi T5 899 5 = Xi S 899 5 from w66.x _ _ rfl)
          rw [w258]
          refine y_iconst rfl ?_
          refine y_iconst rfl ?_
          refine y_iload rfl rfl ?_
          have w259 : Xi T5 1 3 = Xi S 1 3 := (show Xi T5 1 3 = Xi S 1 3 from w66.x _ _ rfl)
          refine y_callV rfl rfl rfl (t_me_countReadings__p hHT5 (to + 1) (Xi S 899 5) 0 1 (Xi S 19 ((z56).toNat)) ⟨by omega, by omega⟩ ⟨by omega, by omega⟩ ⟨by omega, by omega⟩ ⟨by omega, by omega⟩ ⟨by omega, by omega⟩ (by first | assumption | omega) (by first | assumption | exact (CEN_FR hFT5 rfl rfl (by assumption : CEN S))) _) ?_
          rintro _ T20 ⟨hHT20, w267, z266, rfl, w266, o123⟩
          have hFT20 : FR md_rr_actingOn__p S T20 := FR.tr hFT5 w267 rfl
          show Pl _ _ _ _ _ _ [iv z266] _ _
          have F123 := (by assumption : FR md_me_countReadings__p T5 T20)
          have R123 : z266 = rdC S (to + 1) (Xi S 899 5) (Xi S 19 (fnd S 8 from_ to).toNat) := by unfold rdC; by_cases q : Xi S 899 5 - (to + 1) ≤ 6; (rw [if_pos q]; have u := (o123.1 (by omega)).1; rw [ccT_F F69 rfl rfl, ← k40] at u; exact u); (rw [if_neg q]; exact o123.2 (by omega))
          have n123 : 0 ≤ z266 ∧ z266 ≤ 13349232 := by rw [R123]; exact rdC_b
          have O123 : Hid (Xi S 899 5 - (to + 1) ≤ 6 → 0 < z266 → ∃ m : Int, (1 ≤ m ∧ m ≤ 3 ∧ m ≤ Xi S 899 5 - (to + 1)) ∧ 0 < ccC S (to + 1) (Xi S 899 5) 0 1 (Xi S 19 (fnd S 8 from_ to).toNat) m ∧ Xi T20 895 12 = ckC S (Xi S 899 5) 0 m ∧ Xi T20 895 13 = Xi S 899 5 - m) := fun a b => by obtain ⟨m, a1, a2, a3, a4, a5⟩ := (o123.1 (by omega)).2 b; rw [ccC_F F69 rfl rfl, ← k40] at a2; rw [show ckC T5 (Xi S 899 5) 0 m = ckC S (Xi S 899 5) 0 m from fnd_FR F69 rfl] at a4; exact ⟨m, ⟨a1.1, by omega, a1.2.2⟩, a2, a4, a5⟩
          clear o123
          have z123 : Xi T20 876 8 = 0 := (F123.x 876 8 rfl).trans z69
          have y123 : Xi T20 895 5 = whoC S (to + 1) (Xi S 899 5) := (F123.x 895 5 rfl).trans Wa69
          have u123 : Xi T20 246 5 = Xi S 246 5 := (F123.x 246 5 rfl).trans (F69.x 246 5 rfl)
          refine y_istore rfl rfl rfl ?_
          refine y_iload rfl rfl ?_
          refine y_iload rfl rfl ?_
          refine y_if_eq rfl rfl (by unfold rg; omega) (fun w268 => absurd w268 (by omega)) (fun w269 => ?_)
          · refine y_iconst rfl ?_
            refine y_goto rfl rfl ?_
            refine y_iadd rfl ?_
            refine y_iconst rfl ?_
            refine y_icmp_eq rfl rfl (by unfold rg; omega) (by unfold rg; omega) (fun w270 => ?_) (fun w271 => ?_)
            · refine y_aload_n rfl rfl ?_
              refine y_gfr rfl rfl rfl rfl rfl ((hFT20 899 4 rfl).2.2.trans hru) ?_
              refine y_iconst rfl ?_
              refine y_iload_n rfl rfl ?_
              refine y_iastoreP (n := 8) rfl (lay_248 (by omega)) (by unfold rg; omega) (fun w273 w274 => ?_)
              obtain ⟨U21, eU21⟩ : ∃ T : sS, T = uI T20 (248 + ru) ((1 : Int).toNat) (Int32.ofInt z56) := ⟨_, rfl⟩
              rw [← eU21]
              have hHU21 : RI U21 := by rw [eU21]; exact RI_w hHT20
              have hFU21 : FR md_rr_actingOn__p S U21 := by rw [eU21]; exact FR.wI hFT20 (mdf_i (r := (248, 272, 0, 100000)) (List.mem_of_getElem? (i := 1) rfl) (inR_i (by omega) (by omega) (by omega) (by omega)))
              have w275 : Xi U21 (248 + ru) ((1 : Int).toNat) = z56 := by rw [eU21]; exact Xi_same (by unfold rg; omega)
              have e177 := eU21
              have x177 : Xi U21 (248 + ru) 1 = (fnd S 8 from_ to) := by rw [e177]; exact (Xi_same (by unfold rg; omega)).trans v8_
              have g177 : KRU S U21 ru := kru_w e177 (kru_f F123 rfl (kru_f F69 rfl KRU.rf))
              have r177 : ∀ j : Nat, j ≠ 1 → Xi U21 (248 + ru) j = Xi S (248 + ru) j := fun j q => by rw [e177, Xi_ne (by omega), FR_ru F123 rfl hrk, FR_ru F69 rfl hrk]
              have z177 : Xi U21 876 8 = 0 := by rw [e177, Xi_ne (by omega)]; exact z123
              have c177 : Hid (∀ c j : Nat, c < 600 → Xi U21 (276 + c) j = Xi S (276 + c) j) := fun c j q => by rw [e177, Xi_ne (by omega), FR_cl F123 rfl q, FR_cl F69 rfl q]
              have u177 : Xi U21 246 5 = Xi S 246 5 := by rw [e177, Xi_ne (by omega)]; exact u123
              refine y_iload rfl rfl ?_
              refine y_if_eq rfl rfl (by unfold rg; omega) (fun w276 => absurd w276 (by omega)) (fun w277 => ?_)
              · refine y_aload_n rfl rfl ?_
                refine y_gfr rfl rfl rfl rfl rfl ((hFU21 899 4 rfl).2.2.trans hru) ?_
                refine y_iconst rfl ?_
                refine y_aload_n rfl rfl ?_
                refine y_gfr rfl rfl rfl rfl rfl (hHU21.r 899 2 895 rfl) ?_
                refine y_gfi rfl rfl rfl rfl rfl ?_
                have w279 : (Xi U21 895 5) = (Xi T5 895 5) := (show Xi U21 895 5 = Xi T20 895 5 from by rw [eU21]; exact Xi_ne (by omega)).trans ((show Xi T20 895 5 = Xi T5 895 5 from w267.x _ _ rfl))
                rw [w279]
                refine y_iastoreP (n := 8) rfl (lay_248 (by omega)) (by unfold rg; omega) (fun w280 w281 => ?_)
                obtain ⟨U22, eU22⟩ : ∃ T : sS, T = uI U21 (248 + ru) ((2 : Int).toNat) (Int32.ofInt (Xi T5 895 5)) := ⟨_, rfl⟩
                rw [← eU22]
                have hHU22 : RI U22 := by rw [eU22]; exact RI_w hHU21
                have hFU22 : FR md_rr_actingOn__p S U22 := by rw [eU22]; exact FR.wI hFU21 (mdf_i (r := (248, 272, 0, 100000)) (List.mem_of_getElem? (i := 1) rfl) (inR_i (by omega) (by omega) (by omega) (by omega)))
                have w282 : Xi U22 (248 + ru) ((2 : Int).toNat) = (Xi T5 895 5) := by rw [eU22]; exact Xi_same (by unfold rg; omega)
                have W195 : AOW S U22 ru (fnd S 8 from_ to) (whoC S (to + 1) (Xi S 899 5)) := ⟨kru_w eU22 g177, fun j p q => by rw [eU22, Xi_ne (by omega)]; exact r177 j p, by rw [eU22, Xi_ne (by omega)]; exact x177, by rw [eU22]; exact (Xi_same (by unfold rg; omega)).trans (by first | exact y123 | (rw [e177, Xi_ne (by omega)]; exact y123) | exact Wa69), by rw [eU22, Xi_ne (by omega)]; exact u177, fun c j q => by rw [eU22, Xi_ne (by omega)]; exact c177.o c j q⟩
                have z195 : Xi U22 876 8 = 0 := by rw [eU22, Xi_ne (by omega)]; exact z177
                refine y_iconst rfl ?_
                refine y_ireturn rfl rfl ?_
                have w283 : Xi U22 246 5 = Xi S 246 5 := (show Xi U22 246 5 = Xi U21 246 5 from by rw [eU22]; exact Xi_ne (by omega)).trans ( (show Xi U21 246 5 = Xi T20 246 5 from by rw [eU21]; exact Xi_ne (by omega)).trans ( (show Xi T20 246 5 = Xi T5 246 5 from w267.x _ _ rfl).trans ((show Xi T5 246 5 = Xi S 246 5 from w66.x _ _ rfl))))
                have w284 : Xi U22 876 8 = Xi S 876 8 := (show Xi U22 876 8 = Xi U21 876 8 from by rw [eU22]; exact Xi_ne (by omega)).trans ( (show Xi U21 876 8 = Xi T20 876 8 from by rw [eU21]; exact Xi_ne (by omega)).trans ( (show Xi T20 876 8 = Xi T5 876 8 from w267.x _ _ rfl).trans ((show Xi T5 876 8 = Xi S 876 8 from w66.x _ _ rfl))))
                have w285 : Xi U22 895 12 = Xi T20 895 12 := (show Xi U22 895 12 = Xi U21 895 12 from by rw [eU22]; exact Xi_ne (by omega)).trans ((show Xi U21 895 12 = Xi T20 895 12 from by rw [eU21]; exact Xi_ne (by omega)))
                have w286 : Xi U22 895 13 = Xi T20 895 13 := (show Xi U22 895 13 = Xi U21 895 13 from by rw [eU22]; exact Xi_ne (by omega)).trans ((show Xi U21 895 13 = Xi T20 895 13 from by rw [eU21]; exact Xi_ne (by omega)))
                have w287 : Xi U22 895 14 = Xi S 895 14 := (show Xi U22 895 14 = Xi U21 895 14 from by rw [eU22]; exact Xi_ne (by omega)).trans ( (show Xi U21 895 14 = Xi T20 895 14 from by rw [eU21]; exact Xi_ne (by omega)).trans ( (show Xi T20 895 14 = Xi T5 895 14 from w267.x _ _ rfl).trans ((show Xi T5 895 14 = Xi S 895 14 from w66.x _ _ rfl))))
                have w288 : Xi U22 895 5 = Xi T5 895 5 := (show Xi U22 895 5 = Xi U21 895 5 from by rw [eU22]; exact Xi_ne (by omega)).trans ( (show Xi U21 895 5 = Xi T20 895 5 from by rw [eU21]; exact Xi_ne (by omega)).trans ((show Xi T20 895 5 = Xi T5 895 5 from w267.x _ _ rfl)))
                have w289 : Xi U22 895 6 = Xi T5 895 6 := (show Xi U22 895 6 = Xi U21 895 6 from by rw [eU22]; exact Xi_ne (by omega)).trans ( (show Xi U21 895 6 = Xi T20 895 6 from by rw [eU21]; exact Xi_ne (by omega)).trans ((show Xi T20 895 6 = Xi T5 895 6 from w267.x _ _ rfl)))
                have w290 : Xi U22 899 5 = Xi S 899 5 := (show Xi U22 899 5 = Xi U21 899 5 from by rw [eU22]; exact Xi_ne (by omega)).trans ( (show Xi U21 899 5 = Xi T20 899 5 from by rw [eU21]; exact Xi_ne (by omega)).trans ( (show Xi T20 899 5 = Xi T5 899 5 from w267.x _ _ rfl).trans ((show Xi T5 899 5 = Xi S 899 5 from w66.x _ _ rfl))))
                exact ⟨hHU22, hFU22, _, rfl, ⟨by omega, by omega⟩, (by first | (have u := x237; exact aoo_r (A := (fnd S 8 from_ to)) (K := (Xi S 19 (fnd S 8 from_ to).toNat)) rfl rfl A237.1 A237.2 (aor_k x237.o rfl (by omega) (by show Xi U22 895 14 = (((v8).toNat : Nat) : Int); omega) M237.o C237.o)) | (have u := W195; exact aoo_r (A := (fnd S 8 from_ to)) (K := (Xi S 19 (fnd S 8 from_ to).toNat)) rfl rfl (by rw [← v8_]; omega) (by omega) (aor_o O107 R123 (by omega) rfl rfl z195 W195)) | (have u := Y167; exact aoo_r (A := (fnd S 8 from_ to)) (K := (Xi S 19 (fnd S 8 from_ to).toNat)) rfl rfl (by rw [← v8_]; omega) (by omega) (aor_f O107 R123 (by omega) (by omega) (by first | (rw [if_pos (by omega)]) | (rw [if_neg (by omega)])) Y167)) | (have u := Y55; exact ⟨fun q => absurd q (by rw [← v8_]; omega), fun _ _ => ⟨by omega, Y55⟩, fun _ q => absurd q (by omega)⟩) | exact ⟨fun _ => ⟨by omega, Y28⟩, fun q => absurd (v8_.symm.trans (by omega)) q, fun q => absurd (v8_.symm.trans (by omega)) q⟩)⟩
            · refine y_aload_n rfl rfl ?_
              refine y_gfr rfl rfl rfl rfl rfl (hHT20.r 899 0 876 rfl) ?_
              refine y_iload rfl rfl ?_
              refine y_if_ne rfl rfl (by unfold rg; omega) (fun w291 => ?_) (fun w292 => absurd w292 (by omega))
              · refine y_bipush rfl rfl ?_
                refine y_goto rfl rfl ?_
                refine y_iload rfl rfl ?_
                have w294 : Xi T20 876 8 = Xi S 876 8 := (show Xi T20 876 8 = Xi T5 876 8 from w267.x _ _ rfl).trans ((show Xi T5 876 8 = Xi S 876 8 from w66.x _ _ rfl))
                have w295 : Xi T20 876 9 = Xi S 876 9 := (show Xi T20 876 9 = Xi T5 876 9 from w267.x _ _ rfl).trans ((show Xi T5 876 9 = Xi S 876 9 from w66.x _ _ rfl))
                refine y_callV rfl rfl rfl (t_to_wrong__p hHT20 7 (to + 1) ⟨by omega, by omega⟩ ⟨by omega, by omega⟩ _) ?_
                rintro _ T23 ⟨hHT23, w303, z302, rfl, w302, w300, f167, w301⟩
                have hFT23 : FR md_rr_actingOn__p S T23 := FR.tr hFT20 w303 rfl
                show Pl _ _ _ _ _ _ [iv z302] _ _
                have Y167 : FTO S T23 _ (to + 1) := (by have u := f167 z123; exact ⟨u.1, u.2.trans (pc7_FR hFT20 rfl rfl rfl _)⟩)
                refine y_ireturn rfl (retI_z (by omega)) ?_
                have w304 : Xi T23 246 5 = Xi S 246 5 := (show Xi T23 246 5 = Xi T20 246 5 from w303.x _ _ rfl).trans ( (show Xi T20 246 5 = Xi T5 246 5 from w267.x _ _ rfl).trans ((show Xi T5 246 5 = Xi S 246 5 from w66.x _ _ rfl)))
                have w305 : Xi T23 895 12 = Xi T20 895 12 := (show Xi T23 895 12 = Xi T20 895 12 from w303.x _ _ rfl)
                have w306 : Xi T23 895 13 = Xi T20 895 13 := (show Xi T23 895 13 = Xi T20 895 13 from w303.x _ _ rfl)
                have w307 : Xi T23 895 14 = Xi S 895 14 := (show Xi T23 895 14 = Xi T20 895 14 from w303.x _ _ rfl).trans ( (show Xi T20 895 14 = Xi T5 895 14 from w267.x _ _ rfl).trans ((show Xi T5 895 14 = Xi S 895 14 from w66.x _ _ rfl)))
                have w308 : Xi T23 895 5 = Xi T5 895 5 := (show Xi T23 895 5 = Xi T20 895 5 from w303.x _ _ rfl).trans ((show Xi T20 895 5 = Xi T5 895 5 from w267.x _ _ rfl))
                have w309 : Xi T23 895 6 = Xi T5 895 6 := (show Xi T23 895 6 = Xi T20 895 6 from w303.x _ _ rfl).trans ((show Xi T20 895 6 = Xi T5 895 6 from w267.x _ _ rfl))
                have w310 : Xi T23 899 5 = Xi S 899 5 := (show Xi T23 899 5 = Xi T20 899 5 from w303.x _ _ rfl).trans ( (show Xi T20 899 5 = Xi T5 899 5 from w267.x _ _ rfl).trans ((show Xi T5 899 5 = Xi S 899 5 from w66.x _ _ rfl)))
                exact ⟨hHT23, hFT23, _, rfl, ⟨by omega, by omega⟩, (by first | (have u := x237; exact aoo_r (A := (fnd S 8 from_ to)) (K := (Xi S 19 (fnd S 8 from_ to).toNat)) rfl rfl A237.1 A237.2 (aor_k x237.o rfl (by omega) (by show Xi T23 895 14 = (((v8).toNat : Nat) : Int); omega) M237.o C237.o)) | (have u := W195; exact aoo_r (A := (fnd S 8 from_ to)) (K := (Xi S 19 (fnd S 8 from_ to).toNat)) rfl rfl (by rw [← v8_]; omega) (by omega) (aor_o O107 R123 (by omega) rfl rfl z195 W195)) | (have u := Y167; exact aoo_r (A := (fnd S 8 from_ to)) (K := (Xi S 19 (fnd S 8 from_ to).toNat)) rfl rfl (by rw [← v8_]; omega) (by omega) (aor_f O107 R123 (by omega) (by omega) (by first | (rw [if_pos (by omega)]) | (rw [if_neg (by omega)])) Y167)) | (have u := Y55; exact ⟨fun q => absurd q (by rw [← v8_]; omega), fun _ _ => ⟨by omega, Y55⟩, fun _ q => absurd q (by omega)⟩) | exact ⟨fun _ => ⟨by omega, Y28⟩, fun q => absurd (v8_.symm.trans (by omega)) q, fun q => absurd (v8_.symm.trans (by omega)) q⟩)⟩
    · refine y_aload_n rfl rfl ?_
      refine y_gfr rfl rfl rfl rfl rfl (hH.r 899 0 876 rfl) ?_
      refine y_iconst rfl ?_
      refine y_iload rfl rfl ?_
      refine y_callV rfl rfl rfl (t_to_wrong__p hH 4 (to + 1) ⟨by omega, by omega⟩ ⟨by omega, by omega⟩ _) ?_
      rintro _ T24 ⟨hHT24, w314, z313, rfl, w313, w311, f55, w312⟩
      have hFT24 : FR md_rr_actingOn__p S T24 := FR.tr hF w314 rfl
      show Pl _ _ _ _ _ _ [iv z313] _ _
      have Y55 : FTO S T24 4 (to + 1) := f55 hf
      refine y_ireturn rfl (retI_z (by omega)) ?_
      have w315 : Xi T24 246 5 = Xi S 246 5 := (show Xi T24 246 5 = Xi S 246 5 from w314.x _ _ rfl)
      have w316 : Xi T24 895 12 = Xi S 895 12 := (show Xi T24 895 12 = Xi S 895 12 from w314.x _ _ rfl)
      have w317 : Xi T24 895 13 = Xi S 895 13 := (show Xi T24 895 13 = Xi S 895 13 from w314.x _ _ rfl)
      have w318 : Xi T24 895 14 = Xi S 895 14 := (show Xi T24 895 14 = Xi S 895 14 from w314.x _ _ rfl)
      have w319 : Xi T24 895 5 = Xi S 895 5 := (show Xi T24 895 5 = Xi S 895 5 from w314.x _ _ rfl)
      have w320 : Xi T24 895 6 = Xi S 895 6 := (show Xi T24 895 6 = Xi S 895 6 from w314.x _ _ rfl)
      have w321 : Xi T24 899 5 = Xi S 899 5 := (show Xi T24 899 5 = Xi S 899 5 from w314.x _ _ rfl)
      exact ⟨hHT24, hFT24, _, rfl, ⟨by omega, by omega⟩, (by first | (have u := x237; exact aoo_r (A := (fnd S 8 from_ to)) (K := (Xi S 19 (fnd S 8 from_ to).toNat)) rfl rfl A237.1 A237.2 (aor_k x237.o rfl (by omega) (by show Xi T24 895 14 = (((v8).toNat : Nat) : Int); omega) M237.o C237.o)) | (have u := W195; exact aoo_r (A := (fnd S 8 from_ to)) (K := (Xi S 19 (fnd S 8 from_ to).toNat)) rfl rfl (by rw [← v8_]; omega) (by omega) (aor_o O107 R123 (by omega) rfl rfl z195 W195)) | (have u := Y167; exact aoo_r (A := (fnd S 8 from_ to)) (K := (Xi S 19 (fnd S 8 from_ to).toNat)) rfl rfl (by rw [← v8_]; omega) (by omega) (aor_f O107 R123 (by omega) (by omega) (by first | (rw [if_pos (by omega)]) | (rw [if_neg (by omega)])) Y167)) | (have u := Y55; exact ⟨fun q => absurd q (by rw [← v8_]; omega), fun _ _ => ⟨by omega, Y55⟩, fun _ q => absurd q (by omega)⟩) | exact ⟨fun _ => ⟨by omega, Y28⟩, fun q => absurd (v8_.symm.trans (by omega)) q, fun q => absurd (v8_.symm.trans (by omega)) q⟩)⟩
  · refine y_aload_n rfl rfl ?_
    refine y_gfr rfl rfl rfl rfl rfl (hH.r 899 0 876 rfl) ?_
    refine y_iconst rfl ?_
    refine y_iload_n rfl rfl ?_
    refine y_callV rfl rfl rfl (t_to_wrong__p hH 4 from_ ⟨by omega, by omega⟩ ⟨by omega, by omega⟩ _) ?_
    rintro _ T25 ⟨hHT25, w325, z324, rfl, w324, w322, f28, w323⟩
    have hFT25 : FR md_rr_actingOn__p S T25 := FR.tr hF w325 rfl
    show Pl _ _ _ _ _ _ [iv z324] _ _
    have Y28 : FTO S T25 4 from_ := f28 hf
    refine y_ireturn rfl (retI_z (by omega)) ?_
    have w326 : Xi T25 246 5 = Xi S 246 5 := (show Xi T25 246 5 = Xi S 246 5 from w325.x _ _ rfl)
    have w327 : Xi T25 895 12 = Xi S 895 12 := (show Xi T25 895 12 = Xi S 895 12 from w325.x _ _ rfl)
    have w328 : Xi T25 895 13 = Xi S 895 13 := (show Xi T25 895 13 = Xi S 895 13 from w325.x _ _ rfl)
    have w329 : Xi T25 895 14 = Xi S 895 14 := (show Xi T25 895 14 = Xi S 895 14 from w325.x _ _ rfl)
    have w330 : Xi T25 895 5 = Xi S 895 5 := (show Xi T25 895 5 = Xi S 895 5 from w325.x _ _ rfl)
    have w331 : Xi T25 895 6 = Xi S 895 6 := (show Xi T25 895 6 = Xi S 895 6 from w325.x _ _ rfl)
    have w332 : Xi T25 899 5 = Xi S 899 5 := (show Xi T25 899 5 = Xi S 899 5 from w325.x _ _ rfl)
    exact ⟨hHT25, hFT25, _, rfl, ⟨by omega, by omega⟩, (by first | (have u := x237; exact aoo_r (A := (fnd S 8 from_ to)) (K := (Xi S 19 (fnd S 8 from_ to).toNat)) rfl rfl A237.1 A237.2 (aor_k x237.o rfl (by omega) (by show Xi T25 895 14 = (((v8).toNat : Nat) : Int); omega) M237.o C237.o)) | (have u := W195; exact aoo_r (A := (fnd S 8 from_ to)) (K := (Xi S 19 (fnd S 8 from_ to).toNat)) rfl rfl (by rw [← v8_]; omega) (by omega) (aor_o O107 R123 (by omega) rfl rfl z195 W195)) | (have u := Y167; exact aoo_r (A := (fnd S 8 from_ to)) (K := (Xi S 19 (fnd S 8 from_ to).toNat)) rfl rfl (by rw [← v8_]; omega) (by omega) (aor_f O107 R123 (by omega) (by omega) (by first | (rw [if_pos (by omega)]) | (rw [if_neg (by omega)])) Y167)) | (have u := Y55; exact ⟨fun q => absurd q (by rw [← v8_]; omega), fun _ _ => ⟨by omega, Y55⟩, fun _ q => absurd q (by omega)⟩) | exact ⟨fun _ => ⟨by omega, Y28⟩, fun q => absurd (v8_.symm.trans (by omega)) q, fun q => absurd (v8_.symm.trans (by omega)) q⟩)⟩
end
