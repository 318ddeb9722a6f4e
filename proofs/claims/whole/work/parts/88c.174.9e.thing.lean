section
/-! tests of the class: whom they speak of -/
def thk (T : Int → Int) (a : Int) : Int := if T a = 2 ∧ T (a + 1) = 53 then 53 else T a
def the7 (T : Int → Int) (a : Int) : Int := if T a = 2 ∧ T (a + 1) = 53 then a + 2 else a + 1
def whoC (S : sS) (a l : Int) : Int := if thk (ty7 S) a = 53 ∨ thk (ty7 S) a = 54 then (if thk (ty7 S) a = Xi S 895 3 ∧ Xi S 895 4 ≠ -1 then -2 else -1) else fnd S 2 (bA (ty7 S) a) (ruF S (bA (ty7 S) a) l)
def whkC (S : sS) (a l : Int) : Int := if thk (ty7 S) a = 53 ∨ thk (ty7 S) a = 54 then (if thk (ty7 S) a = Xi S 895 3 ∧ Xi S 895 4 ≠ -1 then Xi S 895 4 else -1) else (if fnd S 2 (bA (ty7 S) a) (ruF S (bA (ty7 S) a) l) ≠ -1 then Xi S 21 (fnd S 2 (bA (ty7 S) a) (ruF S (bA (ty7 S) a) l)).toNat else -1)
def whrC (S : sS) (a : Int) : Int := if thk (ty7 S) a = 53 ∨ thk (ty7 S) a = 54 then a else bA (ty7 S) a
def wheC (S : sS) (a l : Int) : Int := if thk (ty7 S) a = 53 ∨ thk (ty7 S) a = 54 then the7 (ty7 S) a else ruF S (bA (ty7 S) a) l
def RTH (S S1 : sS) (a l z : Int) : Prop := Xi S1 895 5 = whoC S a l ∧ Xi S1 895 6 = whkC S a l ∧ Xi S1 895 7 = whrC S a ∧ z = wheC S a l
theorem rth_s {S S1 : sS} {a l z k e : Int} (hk : k = thk (ty7 S) a) (he : e = the7 (ty7 S) a) (h : k = 53 ∨ k = 54) (hw : (k = Xi S 895 3 ∧ Xi S 895 4 ≠ -1 ∧ Xi S1 895 5 = -2 ∧ Xi S1 895 6 = Xi S 895 4) ∨ (¬ (k = Xi S 895 3 ∧ Xi S 895 4 ≠ -1) ∧ Xi S1 895 5 = -1 ∧ Xi S1 895 6 = -1)) (hr : Xi S1 895 7 = a) (hz : z = e) : RTH S S1 a l z := by
  unfold RTH whoC whkC whrC wheC
  rw [← hk, if_pos h, if_pos h, if_pos h, if_pos h, ← he]
  rcases hw with w | w
  · rw [if_pos ⟨w.1, w.2.1⟩, if_pos ⟨w.1, w.2.1⟩]; exact ⟨w.2.2.1, w.2.2.2, hr, hz⟩
  · rw [if_neg w.1, if_neg w.1]; exact ⟨w.2.1, w.2.2, hr, hz⟩
theorem rth_n {S S1 : sS} {a l z k b o : Int} (hk : k = thk (ty7 S) a) (h : ¬ (k = 53 ∨ k = 54)) (hb : b = bA (ty7 S) a) (hz : z = ruF S b l) (ho : o = fnd S 2 b z) (h5 : Xi S1 895 5 = o) (h6 : (o = -1 ∧ Xi S1 895 6 = -1) ∨ (o ≠ -1 ∧ Xi S1 895 6 = Xi S 21 o.toNat)) (hr : Xi S1 895 7 = b) : RTH S S1 a l z := by
  unfold RTH whoC whkC whrC wheC
  rw [← hk, if_neg h, if_neg h, if_neg h, if_neg h, ← hb, ← hz, ← ho]
  rcases h6 with w | w
  · rw [if_neg (fun q => q w.1)]; exact ⟨h5, w.2, hr, rfl⟩
  · rw [if_pos w.1]; exact ⟨h5, w.2, hr, rfl⟩
theorem thk_n {T : Int → Int} {a k : Int} (hk : k = thk T a) (h : ¬ (k = 53 ∨ k = 54)) : T a = k := by
  unfold thk at hk
  by_cases q : T a = 2 ∧ T (a + 1) = 53
  · rw [if_pos q] at hk; exact absurd (Or.inl hk) h
  · rw [if_neg q] at hk; exact hk.symm

def md_me_startSelf__p : List rec := [(895, 896, 3, 4), (895, 896, 4, 5)]
abbrev Q_me_startSelf__p (S : sS) (key : Int) (kind : Int) : pst := fun r S1 => RI S1 ∧ FR md_me_startSelf__p S S1 ∧ (r = none ∧ (S1 = uI (uI S 895 3 (Int32.ofInt key)) 895 4 (Int32.ofInt kind)))
set_option maxRecDepth 100000 in
theorem t_me_startSelf__p {S : sS} (hH : RI S) (key : Int) (kind : Int) (hkey : -2147483648 ≤ key ∧ key ≤ 2147483647) (hkind : -2147483648 ≤ kind ∧ kind ≤ 2147483647) (d : Nat) : Mp lay0 (d + 1) m_me_startSelf [.ref 895, iv key, iv kind] S (Q_me_startSelf__p S key kind) := by
  refine Mp_R rfl rfl (fun fu => ?_)
  have hF : FR md_me_startSelf__p S S := FR.rf
  refine y_aload_n rfl rfl ?_
  refine y_iload_n rfl rfl ?_
  refine y_pfi rfl rfl rfl rfl ?_
  obtain ⟨U1, eU1⟩ : ∃ T : sS, T = uI S 895 3 (Int32.ofInt key) := ⟨_, rfl⟩
  rw [← eU1]
  have hHU1 : RI U1 := by rw [eU1]; exact RI_w hH
  have hFU1 : FR md_me_startSelf__p S U1 := by rw [eU1]; exact FR.wI hF (mdf_i (r := (895, 896, 3, 4)) (List.mem_of_getElem? (i := 0) rfl) (inR_i (by omega) (by omega) (by omega) (by omega)))
  have w1 : Xi U1 895 3 = key := by rw [eU1]; exact Xi_same (by unfold rg; omega)
  have e2 := eU1
  refine y_aload_n rfl rfl ?_
  refine y_iload_n rfl rfl ?_
  refine y_pfi rfl rfl rfl rfl ?_
  obtain ⟨U2, eU2⟩ : ∃ T : sS, T = uI U1 895 4 (Int32.ofInt kind) := ⟨_, rfl⟩
  rw [← eU2]
  have hHU2 : RI U2 := by rw [eU2]; exact RI_w hHU1
  have hFU2 : FR md_me_startSelf__p S U2 := by rw [eU2]; exact FR.wI hFU1 (mdf_i (r := (895, 896, 4, 5)) (List.mem_of_getElem? (i := 1) rfl) (inR_i (by omega) (by omega) (by omega) (by omega)))
  have w2 : Xi U2 895 4 = kind := by rw [eU2]; exact Xi_same (by unfold rg; omega)
  have e7 := eU2
  refine y_return rfl rfl ?_
  exact ⟨hHU2, hFU2, rfl, (by rw [← e2]; exact e7)⟩
def md_me_readThing__p : List rec := [(895, 896, 5, 6), (895, 896, 6, 7), (895, 896, 7, 8)]
abbrev Q_me_readThing__p (S : sS) (from_ : Int) (limit : Int) : pst := fun r S1 => RI S1 ∧ FR md_me_readThing__p S S1 ∧ (∃ z : Int, r = some (iv z) ∧ (-2147483648 ≤ z ∧ z ≤ 2147483647) ∧ (RTH S S1 from_ limit z) ∧ (from_ ≤ z ∧ z ≤ 5142))
set_option maxRecDepth 100000 in
theorem t_me_readThing__p {S : sS} (hH : RI S) (from_ : Int) (limit : Int) (hfrom_ : 0 ≤ from_ ∧ from_ ≤ 5140) (hlimit : -1 ≤ limit ∧ limit ≤ 5140) (h13 : 0 ≤ Xi S 1 3 ∧ Xi S 1 3 ≤ 200) (hCE : CEN S) (hr : Xi S 876 7 ≤ 5130) (d : Nat) : Mp lay0 (d + 2) m_me_readThing [.ref 895, iv from_, iv limit] S (Q_me_readThing__p S from_ limit) := by
  refine Mp_R rfl rfl (fun fu => ?_)
  have hF : FR md_me_readThing__p S S := FR.rf
  have w1 : -2147483648 ≤ Xi S 1 3 ∧ Xi S 1 3 ≤ 2147483647 := Xi_rgI
  have w2 : -2147483648 ≤ Xi S 876 7 ∧ Xi S 876 7 ≤ 2147483647 := Xi_rgI
  have w3 : -2147483648 ≤ Xi S 895 3 ∧ Xi S 895 3 ≤ 2147483647 := Xi_rgI
  have w4 : -2147483648 ≤ Xi S 895 4 ∧ Xi S 895 4 ≤ 2147483647 := Xi_rgI
  have w5 : -2147483648 ≤ Xi S 895 5 ∧ Xi S 895 5 ≤ 2147483647 := Xi_rgI
  have w6 : -2147483648 ≤ Xi S 895 6 ∧ Xi S 895 6 ≤ 2147483647 := Xi_rgI
  have w7 : -2147483648 ≤ Xi S 895 7 ∧ Xi S 895 7 ≤ 2147483647 := Xi_rgI
  have C42 : ∀  (v3 : Int) (v4 : Int), (-2147483648 ≤ v3 ∧ v3 ≤ 2147483647) → (0 ≤ v4 ∧ v4 ≤ 5142) → (v3 = thk (ty7 S) from_) → (v4 = the7 (ty7 S) from_) → (v4 = from_ + 1 ∨ v4 = from_ + 2) → Pl fu lay0 (d + 1) m_me_readThing 42 [(0, .ref 895), (1, iv from_), (2, iv limit), (3, iv v3), (4, iv v4)] [] S (Q_me_readThing__p S from_ limit) := by
    intro v3 v4 w8 w9 k42 e42 w10
    refine y_aload_n rfl rfl ?_
    refine y_iload_n rfl rfl ?_
    refine y_pfi rfl rfl rfl rfl ?_
    obtain ⟨U1, eU1⟩ : ∃ T : sS, T = uI S 895 7 (Int32.ofInt from_) := ⟨_, rfl⟩
    rw [← eU1]
    have hHU1 : RI U1 := by rw [eU1]; exact RI_w hH
    have hFU1 : FR md_me_readThing__p S U1 := by rw [eU1]; exact FR.wI hF (mdf_i (r := (895, 896, 7, 8)) (List.mem_of_getElem? (i := 2) rfl) (inR_i (by omega) (by omega) (by omega) (by omega)))
    have w11 : Xi U1 895 7 = from_ := by rw [eU1]; exact Xi_same (by unfold rg; omega)
    refine y_aload_n rfl rfl ?_
    refine y_iconst rfl ?_
    refine y_pfi rfl rfl rfl rfl ?_
    obtain ⟨U2, eU2⟩ : ∃ T : sS, T = uI U1 895 5 (Int32.ofInt (-1)) := ⟨_, rfl⟩
    rw [← eU2]
    have hHU2 : RI U2 := by rw [eU2]; exact RI_w hHU1
    have hFU2 : FR md_me_readThing__p S U2 := by rw [eU2]; exact FR.wI hFU1 (mdf_i (r := (895, 896, 5, 6)) (List.mem_of_getElem? (i := 0) rfl) (inR_i (by omega) (by omega) (by omega) (by omega)))
    have w12 : Xi U2 895 5 = (-1) := by rw [eU2]; exact Xi_same (by unfold rg; omega)
    refine y_aload_n rfl rfl ?_
    refine y_iconst rfl ?_
    refine y_pfi rfl rfl rfl rfl ?_
    obtain ⟨U3, eU3⟩ : ∃ T : sS, T = uI U2 895 6 (Int32.ofInt (-1)) := ⟨_, rfl⟩
    rw [← eU3]
    have hHU3 : RI U3 := by rw [eU3]; exact RI_w hHU2
    have hFU3 : FR md_me_readThing__p S U3 := by rw [eU3]; exact FR.wI hFU2 (mdf_i (r := (895, 896, 6, 7)) (List.mem_of_getElem? (i := 1) rfl) (inR_i (by omega) (by omega) (by omega) (by omega)))
    have w13 : Xi U3 895 6 = (-1) := by rw [eU3]; exact Xi_same (by unfold rg; omega)
    refine y_iload_n rfl rfl ?_
    refine y_bipush rfl rfl ?_
    refine y_icmp_eq rfl rfl (by unfold rg; omega) (by unfold rg; omega) (fun w14 => ?_) (fun w15 => ?_)
    · refine y_aload_n rfl rfl ?_
      refine y_iload_n rfl rfl ?_
      refine y_aload_n rfl rfl ?_
      refine y_gfi rfl rfl rfl rfl rfl ?_
      have w16 : (Xi U3 895 3) = (Xi S 895 3) := (show Xi U3 895 3 = Xi U2 895 3 from by rw [eU3]; exact Xi_ne (by omega)).trans ( (show Xi U2 895 3 = Xi U1 895 3 from by rw [eU2]; exact Xi_ne (by omega)).trans ((show Xi U1 895 3 = Xi S 895 3 from by rw [eU1]; exact Xi_ne (by omega))))
      rw [w16]
      refine y_icmp_ne rfl rfl (by unfold rg; omega) (by unfold rg; omega) (fun w17 => ?_) (fun w18 => ?_)
      · refine y_iconst rfl ?_
        refine y_pfi rfl rfl rfl rfl ?_
        obtain ⟨U4, eU4⟩ : ∃ T : sS, T = uI U3 895 5 (Int32.ofInt (-1)) := ⟨_, rfl⟩
        rw [← eU4]
        have hHU4 : RI U4 := by rw [eU4]; exact RI_w hHU3
        have hFU4 : FR md_me_readThing__p S U4 := by rw [eU4]; exact FR.wI hFU3 (mdf_i (r := (895, 896, 5, 6)) (List.mem_of_getElem? (i := 0) rfl) (inR_i (by omega) (by omega) (by omega) (by omega)))
        have w19 : Xi U4 895 5 = (-1) := by rw [eU4]; exact Xi_same (by unfold rg; omega)
        refine y_aload_n rfl rfl ?_
        refine y_aload_n rfl rfl ?_
        refine y_gfi rfl rfl rfl rfl rfl ?_
        refine y_bipush rfl rfl ?_
        refine y_icmp_ne rfl rfl (by unfold rg; omega) (by unfold rg; omega) (fun w20 => ?_) (fun w21 => ?_)
        · refine y_iconst rfl ?_
          refine y_pfi rfl rfl rfl rfl ?_
          obtain ⟨U5, eU5⟩ : ∃ T : sS, T = uI U4 895 6 (Int32.ofInt (-1)) := ⟨_, rfl⟩
          rw [← eU5]
          have hHU5 : RI U5 := by rw [eU5]; exact RI_w hHU4
          have hFU5 : FR md_me_readThing__p S U5 := by rw [eU5]; exact FR.wI hFU4 (mdf_i (r := (895, 896, 6, 7)) (List.mem_of_getElem? (i := 1) rfl) (inR_i (by omega) (by omega) (by omega) (by omega)))
          have w22 : Xi U5 895 6 = (-1) := by rw [eU5]; exact Xi_same (by unfold rg; omega)
          refine y_iload rfl rfl ?_
          refine y_ireturn rfl rfl ?_
          have w23 : Xi U5 876 7 = Xi S 876 7 := (show Xi U5 876 7 = Xi U4 876 7 from by rw [eU5]; exact Xi_ne (by omega)).trans ( (show Xi U4 876 7 = Xi U3 876 7 from by rw [eU4]; exact Xi_ne (by omega)).trans ( (show Xi U3 876 7 = Xi U2 876 7 from by rw [eU3]; exact Xi_ne (by omega)).trans ( (show Xi U2 876 7 = Xi U1 876 7 from by rw [eU2]; exact Xi_ne (by omega)).trans ((show Xi U1 876 7 = Xi S 876 7 from by rw [eU1]; exact Xi_ne (by omega))))))
          have w24 : Xi U5 895 3 = Xi S 895 3 := (show Xi U5 895 3 = Xi U4 895 3 from by rw [eU5]; exact Xi_ne (by omega)).trans ( (show Xi U4 895 3 = Xi U3 895 3 from by rw [eU4]; exact Xi_ne (by omega)).trans ( (show Xi U3 895 3 = Xi U2 895 3 from by rw [eU3]; exact Xi_ne (by omega)).trans ( (show Xi U2 895 3 = Xi U1 895 3 from by rw [eU2]; exact Xi_ne (by omega)).trans ((show Xi U1 895 3 = Xi S 895 3 from by rw [eU1]; exact Xi_ne (by omega))))))
          have w25 : Xi U5 895 4 = Xi S 895 4 := (show Xi U5 895 4 = Xi U4 895 4 from by rw [eU5]; exact Xi_ne (by omega)).trans ( (show Xi U4 895 4 = Xi U3 895 4 from by rw [eU4]; exact Xi_ne (by omega)).trans ( (show Xi U3 895 4 = Xi U2 895 4 from by rw [eU3]; exact Xi_ne (by omega)).trans ( (show Xi U2 895 4 = Xi U1 895 4 from by rw [eU2]; exact Xi_ne (by omega)).trans ((show Xi U1 895 4 = Xi S 895 4 from by rw [eU1]; exact Xi_ne (by omega))))))
          have w26 : Xi U5 895 5 = Xi U4 895 5 := (show Xi U5 895 5 = Xi U4 895 5 from by rw [eU5]; exact Xi_ne (by omega))
          have w27 : Xi U5 895 7 = Xi U1 895 7 := (show Xi U5 895 7 = Xi U4 895 7 from by rw [eU5]; exact Xi_ne (by omega)).trans ( (show Xi U4 895 7 = Xi U3 895 7 from by rw [eU4]; exact Xi_ne (by omega)).trans ( (show Xi U3 895 7 = Xi U2 895 7 from by rw [eU3]; exact Xi_ne (by omega)).trans ((show Xi U2 895 7 = Xi U1 895 7 from by rw [eU2]; exact Xi_ne (by omega)))))
          exact ⟨hHU5, hFU5, _, rfl, ⟨by omega, by omega⟩, (by first | (have u := K168; first | exact rth_n k42 (by omega) rfl e146 (fnd_y hmv (by omega)) (by omega) (Or.inr ⟨by omega, by omega⟩) (by omega) | exact rth_n k42 (by omega) rfl e146 (fnd_n hmv (by omega)) (by omega) (Or.inl ⟨rfl, by omega⟩) (by omega)) | exact rth_s k42 e42 (by omega) (by omega) (by omega) rfl), (by omega)⟩
        · refine y_aload_n rfl rfl ?_
          refine y_gfi rfl rfl rfl rfl rfl ?_
          have w28 : (Xi U4 895 4) = (Xi S 895 4) := (show Xi U4 895 4 = Xi U3 895 4 from by rw [eU4]; exact Xi_ne (by omega)).trans ( (show Xi U3 895 4 = Xi U2 895 4 from by rw [eU3]; exact Xi_ne (by omega)).trans ( (show Xi U2 895 4 = Xi U1 895 4 from by rw [eU2]; exact Xi_ne (by omega)).trans ((show Xi U1 895 4 = Xi S 895 4 from by rw [eU1]; exact Xi_ne (by omega)))))
          rw [w28]
          refine y_goto rfl rfl ?_
          refine y_pfi rfl rfl rfl rfl ?_
          obtain ⟨U6, eU6⟩ : ∃ T : sS, T = uI U4 895 6 (Int32.ofInt (Xi S 895 4)) := ⟨_, rfl⟩
          rw [← eU6]
          have hHU6 : RI U6 := by rw [eU6]; exact RI_w hHU4
          have hFU6 : FR md_me_readThing__p S U6 := by rw [eU6]; exact FR.wI hFU4 (mdf_i (r := (895, 896, 6, 7)) (List.mem_of_getElem? (i := 1) rfl) (inR_i (by omega) (by omega) (by omega) (by omega)))
          have w29 : Xi U6 895 6 = (Xi S 895 4) := by rw [eU6]; exact Xi_same (by unfold rg; omega)
          refine y_iload rfl rfl ?_
          refine y_ireturn rfl rfl ?_
          have w30 : Xi U6 876 7 = Xi S 876 7 := (show Xi U6 876 7 = Xi U4 876 7 from by rw [eU6]; exact Xi_ne (by omega)).trans ( (show Xi U4 876 7 = Xi U3 876 7 from by rw [eU4]; exact Xi_ne (by omega)).trans ( (show Xi U3 876 7 = Xi U2 876 7 from by rw [eU3]; exact Xi_ne (by omega)).trans ( (show Xi U2 876 7 = Xi U1 876 7 from by rw [eU2]; exact Xi_ne (by omega)).trans ((show Xi U1 876 7 = Xi S 876 7 from by rw [eU1]; exact Xi_ne (by omega))))))
          have w31 : Xi U6 895 3 = Xi S 895 3 := (show Xi U6 895 3 = Xi U4 895 3 from by rw [eU6]; exact Xi_ne (by omega)).trans ( (show Xi U4 895 3 = Xi U3 895 3 from by rw [eU4]; exact Xi_ne (by omega)).trans ( (show Xi U3 895 3 = Xi U2 895 3 from by rw [eU3]; exact Xi_ne (by omega)).trans ( (show Xi U2 895 3 = Xi U1 895 3 from by rw [eU2]; exact Xi_ne (by omega)).trans ((show Xi U1 895 3 = Xi S 895 3 from by rw [eU1]; exact Xi_ne (by omega))))))
          have w32 : Xi U6 895 4 = Xi S 895 4 := (show Xi U6 895 4 = Xi U4 895 4 from by rw [eU6]; exact Xi_ne (by omega)).trans ( (show Xi U4 895 4 = Xi U3 895 4 from by rw [eU4]; exact Xi_ne (by omega)).trans ( (show Xi U3 895 4 = Xi U2 895 4 from by rw [eU3]; exact Xi_ne (by omega)).trans ( (show Xi U2 895 4 = Xi U1 895 4 from by rw [eU2]; exact Xi_ne (by omega)).trans ((show Xi U1 895 4 = Xi S 895 4 from by rw [eU1]; exact Xi_ne (by omega))))))
          have w33 : Xi U6 895 5 = Xi U4 895 5 := (show Xi U6 895 5 = Xi U4 895 5 from by rw [eU6]; exact Xi_ne (by omega))
          have w34 : Xi U6 895 7 = Xi U1 895 7 := (show Xi U6 895 7 = Xi U4 895 7 from by rw [eU6]; exact Xi_ne (by omega)).trans ( (show Xi U4 895 7 = Xi U3 895 7 from by rw [eU4]; exact Xi_ne (by omega)).trans ( (show Xi U3 895 7 = Xi U2 895 7 from by rw [eU3]; exact Xi_ne (by omega)).trans ((show Xi U2 895 7 = Xi U1 895 7 from by rw [eU2]; exact Xi_ne (by omega)))))
          exact ⟨hHU6, hFU6, _, rfl, ⟨by omega, by omega⟩, (by first | (have u := K168; first | exact rth_n k42 (by omega) rfl e146 (fnd_y hmv (by omega)) (by omega) (Or.inr ⟨by omega, by omega⟩) (by omega) | exact rth_n k42 (by omega) rfl e146 (fnd_n hmv (by omega)) (by omega) (Or.inl ⟨rfl, by omega⟩) (by omega)) | exact rth_s k42 e42 (by omega) (by omega) (by omega) rfl), (by omega)⟩
      · refine y_aload_n rfl rfl ?_
        refine y_gfi rfl rfl rfl rfl rfl ?_
        have w35 : (Xi U3 895 4) = (Xi S 895 4) := (show Xi U3 895 4 = Xi U2 895 4 from by rw [eU3]; exact Xi_ne (by omega)).trans ( (show Xi U2 895 4 = Xi U1 895 4 from by rw [eU2]; exact Xi_ne (by omega)).trans ((show Xi U1 895 4 = Xi S 895 4 from by rw [eU1]; exact Xi_ne (by omega))))
        rw [w35]
        refine y_iconst rfl ?_
        refine y_icmp_eq rfl rfl (by unfold rg; omega) (by unfold rg; omega) (fun w36 => ?_) (fun w37 => ?_)
        · refine y_iconst rfl ?_
          refine y_pfi rfl rfl rfl rfl ?_
          obtain ⟨U7, eU7⟩ : ∃ T : sS, T = uI U3 895 5 (Int32.ofInt (-1)) := ⟨_, rfl⟩
          rw [← eU7]
          have hHU7 : RI U7 := by rw [eU7]; exact RI_w hHU3
          have hFU7 : FR md_me_readThing__p S U7 := by rw [eU7]; exact FR.wI hFU3 (mdf_i (r := (895, 896, 5, 6)) (List.mem_of_getElem? (i := 0) rfl) (inR_i (by omega) (by omega) (by omega) (by omega)))
          have w38 : Xi U7 895 5 = (-1) := by rw [eU7]; exact Xi_same (by unfold rg; omega)
          refine y_aload_n rfl rfl ?_
          refine y_aload_n rfl rfl ?_
          refine y_gfi rfl rfl rfl rfl rfl ?_
          refine y_bipush rfl rfl ?_
          refine y_icmp_ne rfl rfl (by unfold rg; omega) (by unfold rg; omega) (fun w39 => ?_) (fun w40 => ?_)
          · refine y_iconst rfl ?_
            refine y_pfi rfl rfl rfl rfl ?_
            obtain ⟨U8, eU8⟩ : ∃ T : sS, T = uI U7 895 6 (Int32.ofInt (-1)) := ⟨_, rfl⟩
            rw [← eU8]
            have hHU8 : RI U8 := by rw [eU8]; exact RI_w hHU7
            have hFU8 : FR md_me_readThing__p S U8 := by rw [eU8]; exact FR.wI hFU7 (mdf_i (r := (895, 896, 6, 7)) (List.mem_of_getElem? (i := 1) rfl) (inR_i (by omega) (by omega) (by omega) (by omega)))
            have w41 : Xi U8 895 6 = (-1) := by rw [eU8]; exact Xi_same (by unfold rg; omega)
            refine y_iload rfl rfl ?_
            refine y_ireturn rfl rfl ?_
            have w42 : Xi U8 876 7 = Xi S 876 7 := (show Xi U8 876 7 = Xi U7 876 7 from by rw [eU8]; exact Xi_ne (by omega)).trans ( (show Xi U7 876 7 = Xi U3 876 7 from by rw [eU7]; exact Xi_ne (by omega)).trans ( (show Xi U3 876 7 = Xi U2 876 7 from by rw [eU3]; exact Xi_ne (by omega)).trans ( (show Xi U2 876 7 = Xi U1 876 7 from by rw [eU2]; exact Xi_ne (by omega)).trans ((show Xi U1 876 7 = Xi S 876 7 from by rw [eU1]; exact Xi_ne (by omega))))))
            have w43 : Xi U8 895 3 = Xi S 895 3 := (show Xi U8 895 3 = Xi U7 895 3 from by rw [eU8]; exact Xi_ne (by omega)).trans ( (show Xi U7 895 3 = Xi U3 895 3 from by rw [eU7]; exact Xi_ne (by omega)).trans ( (show Xi U3 895 3 = Xi U2 895 3 from by rw [eU3]; exact Xi_ne (by omega)).trans ( (show Xi U2 895 3 = Xi U1 895 3 from by rw [eU2]; exact Xi_ne (by omega)).trans ((show Xi U1 895 3 = Xi S 895 3 from by rw [eU1]; exact Xi_ne (by omega))))))
            have w44 : Xi U8 895 4 = Xi S 895 4 := (show Xi U8 895 4 = Xi U7 895 4 from by rw [eU8]; exact Xi_ne (by omega)).trans ( (show Xi U7 895 4 = Xi U3 895 4 from by rw [eU7]; exact Xi_ne (by omega)).trans ( (show Xi U3 895 4 = Xi U2 895 4 from by rw [eU3]; exact Xi_ne (by omega)).trans ( (show Xi U2 895 4 = Xi U1 895 4 from by rw [eU2]; exact Xi_ne (by omega)).trans ((show Xi U1 895 4 = Xi S 895 4 from by rw [eU1]; exact Xi_ne (by omega))))))
            have w45 : Xi U8 895 5 = Xi U7 895 5 := (show Xi U8 895 5 = Xi U7 895 5 from by rw [eU8]; exact Xi_ne (by omega))
            have w46 : Xi U8 895 7 = Xi U1 895 7 := (show Xi U8 895 7 = Xi U7 895 7 from by rw [eU8]; exact Xi_ne (by omega)).trans ( (show Xi U7 895 7 = Xi U3 895 7 from by rw [eU7]; exact Xi_ne (by omega)).trans ( (show Xi U3 895 7 = Xi U2 895 7 from by rw [eU3]; exact Xi_ne (by omega)).trans ((show Xi U2 895 7 = Xi U1 895 7 from by rw [eU2]; exact Xi_ne (by omega)))))
            exact ⟨hHU8, hFU8, _, rfl, ⟨by omega, by omega⟩, (by first | (have u := K168; first | exact rth_n k42 (by omega) rfl e146 (fnd_y hmv (by omega)) (by omega) (Or.inr ⟨by omega, by omega⟩) (by omega) | exact rth_n k42 (by omega) rfl e146 (fnd_n hmv (by omega)) (by omega) (Or.inl ⟨rfl, by omega⟩) (by omega)) | exact rth_s k42 e42 (by omega) (by omega) (by omega) rfl), (by omega)⟩
          · refine y_aload_n rfl rfl ?_
            refine y_gfi rfl rfl rfl rfl rfl ?_
            have w47 : (Xi U7 895 4) = (Xi S 895 4) := (show Xi U7 895 4 = Xi U3 895 4 from by rw [eU7]; exact Xi_ne (by omega)).trans ( (show Xi U3 895 4 = Xi U2 895 4 from by rw [eU3]; exact Xi_ne (by omega)).trans ( (show Xi U2 895 4 = Xi U1 895 4 from by rw [eU2]; exact Xi_ne (by omega)).trans ((show Xi U1 895 4 = Xi S 895 4 from by rw [eU1]; exact Xi_ne (by omega)))))
            rw [w47]
            refine y_goto rfl rfl ?_
            refine y_pfi rfl rfl rfl rfl ?_
            obtain ⟨U9, eU9⟩ : ∃ T : sS, T = uI U7 895 6 (Int32.ofInt (Xi S 895 4)) := ⟨_, rfl⟩
            rw [← eU9]
            have hHU9 : RI U9 := by rw [eU9]; exact RI_w hHU7
            have hFU9 : FR md_me_readThing__p S U9 := by rw [eU9]; exact FR.wI hFU7 (mdf_i (r := (895, 896, 6, 7)) (List.mem_of_getElem? (i := 1) rfl) (inR_i (by omega) (by omega) (by omega) (by omega)))
            have w48 : Xi U9 895 6 = (Xi S 895 4) := by rw [eU9]; exact Xi_same (by unfold rg; omega)
            refine y_iload rfl rfl ?_
            refine y_ireturn rfl rfl ?_
            have w49 : Xi U9 876 7 = Xi S 876 7 := (show Xi U9 876 7 = Xi U7 876 7 from by rw [eU9]; exact Xi_ne (by omega)).trans ( (show Xi U7 876 7 = Xi U3 876 7 from by rw [eU7]; exact Xi_ne (by omega)).trans ( (show Xi U3 876 7 = Xi U2 876 7 from by rw [eU3]; exact Xi_ne (by omega)).trans ( (show Xi U2 876 7 = Xi U1 876 7 from by rw [eU2]; exact Xi_ne (by omega)).trans ((show Xi U1 876 7 = Xi S 876 7 from by rw [eU1]; exact Xi_ne (by omega))))))
            have w50 : Xi U9 895 3 = Xi S 895 3 := (show Xi U9 895 3 = Xi U7 895 3 from by rw [eU9]; exact Xi_ne (by omega)).trans ( (show Xi U7 895 3 = Xi U3 895 3 from by rw [eU7]; exact Xi_ne (by omega)).trans ( (show Xi U3 895 3 = Xi U2 895 3 from by rw [eU3]; exact Xi_ne (by omega)).trans ( (show Xi U2 895 3 = Xi U1 895 3 from by rw [eU2]; exact Xi_ne (by omega)).trans ((show Xi U1 895 3 = Xi S 895 3 from by rw [eU1]; exact Xi_ne (by omega))))))
            have w51 : Xi U9 895 4 = Xi S 895 4 := (show Xi U9 895 4 = Xi U7 895 4 from by rw [eU9]; exact Xi_ne (by omega)).trans ( (show Xi U7 895 4 = Xi U3 895 4 from by rw [eU7]; exact Xi_ne (by omega)).trans ( (show Xi U3 895 4 = Xi U2 895 4 from by rw [eU3]; exact Xi_ne (by omega)).trans ( (show Xi U2 895 4 = Xi U1 895 4 from by rw [eU2]; exact Xi_ne (by omega)).trans ((show Xi U1 895 4 = Xi S 895 4 from by rw [eU1]; exact Xi_ne (by omega))))))
            have w52 : Xi U9 895 5 = Xi U7 895 5 := (show Xi U9 895 5 = Xi U7 895 5 from by rw [eU9]; exact Xi_ne (by omega))
            have w53 : Xi U9 895 7 = Xi U1 895 7 := (show Xi U9 895 7 = Xi U7 895 7 from by rw [eU9]; exact Xi_ne (by omega)).trans ( (show Xi U7 895 7 = Xi U3 895 7 from by rw [eU7]; exact Xi_ne (by omega)).trans ( (show Xi U3 895 7 = Xi U2 895 7 from by rw [eU3]; exact Xi_ne (by omega)).trans ((show Xi U2 895 7 = Xi U1 895 7 from by rw [eU2]; exact Xi_ne (by omega)))))
            exact ⟨hHU9, hFU9, _, rfl, ⟨by omega, by omega⟩, (by first | (have u := K168; first | exact rth_n k42 (by omega) rfl e146 (fnd_y hmv (by omega)) (by omega) (Or.inr ⟨by omega, by omega⟩) (by omega) | exact rth_n k42 (by omega) rfl e146 (fnd_n hmv (by omega)) (by omega) (Or.inl ⟨rfl, by omega⟩) (by omega)) | exact rth_s k42 e42 (by omega) (by omega) (by omega) rfl), (by omega)⟩
        · refine y_bipush rfl rfl ?_
          refine y_goto rfl rfl ?_
          refine y_pfi rfl rfl rfl rfl ?_
          obtain ⟨U10, eU10⟩ : ∃ T : sS, T = uI U3 895 5 (Int32.ofInt (-2)) := ⟨_, rfl⟩
          rw [← eU10]
          have hHU10 : RI U10 := by rw [eU10]; exact RI_w hHU3
          have hFU10 : FR md_me_readThing__p S U10 := by rw [eU10]; exact FR.wI hFU3 (mdf_i (r := (895, 896, 5, 6)) (List.mem_of_getElem? (i := 0) rfl) (inR_i (by omega) (by omega) (by omega) (by omega)))
          have w54 : Xi U10 895 5 = (-2) := by rw [eU10]; exact Xi_same (by unfold rg; omega)
          refine y_aload_n rfl rfl ?_
          refine y_aload_n rfl rfl ?_
          refine y_gfi rfl rfl rfl rfl rfl ?_
          refine y_bipush rfl rfl ?_
          refine y_icmp_ne rfl rfl (by unfold rg; omega) (by unfold rg; omega) (fun w55 => ?_) (fun w56 => ?_)
          · refine y_iconst rfl ?_
            refine y_pfi rfl rfl rfl rfl ?_
            obtain ⟨U11, eU11⟩ : ∃ T : sS, T = uI U10 895 6 (Int32.ofInt (-1)) := ⟨_, rfl⟩
            rw [← eU11]
            have hHU11 : RI U11 := by rw [eU11]; exact RI_w hHU10
            have hFU11 : FR md_me_readThing__p S U11 := by rw [eU11]; exact FR.wI hFU10 (mdf_i (r := (895, 896, 6, 7)) (List.mem_of_getElem? (i := 1) rfl) (inR_i (by omega) (by omega) (by omega) (by omega)))
            have w57 : Xi U11 895 6 = (-1) := by rw [eU11]; exact Xi_same (by unfold rg; omega)
            refine y_iload rfl rfl ?_
            refine y_ireturn rfl rfl ?_
            have w58 : Xi U11 876 7 = Xi S 876 7 := (show Xi U11 876 7 = Xi U10 876 7 from by rw [eU11]; exact Xi_ne (by omega)).trans ( (show Xi U10 876 7 = Xi U3 876 7 from by rw [eU10]; exact Xi_ne (by omega)).trans ( (show Xi U3 876 7 = Xi U2 876 7 from by rw [eU3]; exact Xi_ne (by omega)).trans ( (show Xi U2 876 7 = Xi U1 876 7 from by rw [eU2]; exact Xi_ne (by omega)).trans ((show Xi U1 876 7 = Xi S 876 7 from by rw [eU1]; exact Xi_ne (by omega))))))
            have w59 : Xi U11 895 3 = Xi S 895 3 := (show Xi U11 895 3 = Xi U10 895 3 from by rw [eU11]; exact Xi_ne (by omega)).trans ( (show Xi U10 895 3 = Xi U3 895 3 from by rw [eU10]; exact Xi_ne (by omega)).trans ( (show Xi U3 895 3 = Xi U2 895 3 from by rw [eU3]; exact Xi_ne (by omega)).trans ( (show Xi U2 895 3 = Xi U1 895 3 from by rw [eU2]; exact Xi_ne (by omega)).trans ((show Xi U1 895 3 = Xi S 895 3 from by rw [eU1]; exact Xi_ne (by omega))))))
            have w60 : Xi U11 895 4 = Xi S 895 4 := (show Xi U11 895 4 = Xi U10 895 4 from by rw [eU11]; exact Xi_ne (by omega)).trans ( (show Xi U10 895 4 = Xi U3 895 4 from by rw [eU10]; exact Xi_ne (by omega)).trans ( (show Xi U3 895 4 = Xi U2 895 4 from by rw [eU3]; exact Xi_ne (by omega)).trans ( (show Xi U2 895 4 = Xi U1 895 4 from by rw [eU2]; exact Xi_ne (by omega)).trans ((show Xi U1 895 4 = Xi S 895 4 from by rw [eU1]; exact Xi_ne (by omega))))))
            have w61 : Xi U11 895 5 = Xi U10 895 5 := (show Xi U11 895 5 = Xi U10 895 5 from by rw [eU11]; exact Xi_ne (by omega))
            have w62 : Xi U11 895 7 = Xi U1 895 7 := (show Xi U11 895 7 = Xi U10 895 7 from by rw [eU11]; exact Xi_ne (by omega)).trans ( (show Xi U10 895 7 = Xi U3 895 7 from by rw [eU10]; exact Xi_ne (by omega)).trans ( (show Xi U3 895 7 = Xi U2 895 7 from by rw [eU3]; exact Xi_ne (by omega)).trans ((show Xi U2 895 7 = Xi U1 895 7 from by rw [eU2]; exact Xi_ne (by omega)))))
            exact ⟨hHU11, hFU11, _, rfl, ⟨by omega, by omega⟩, (by first | (have u := K168; first | exact rth_n k42 (by omega) rfl e146 (fnd_y hmv (by omega)) (by omega) (Or.inr ⟨by omega, by omega⟩) (by omega) | exact rth_n k42 (by omega) rfl e146 (fnd_n hmv (by omega)) (by omega) (Or.inl ⟨rfl, by omega⟩) (by omega)) | exact rth_s k42 e42 (by omega) (by omega) (by omega) rfl), (by omega)⟩
          · refine y_aload_n rfl rfl ?_
            refine y_gfi rfl rfl rfl rfl rfl ?_
            have w63 : (Xi U10 895 4) = (Xi S 895 4) := (show Xi U10 895 4 = Xi U3 895 4 from by rw [eU10]; exact Xi_ne (by omega)).trans ( (show Xi U3 895 4 = Xi U2 895 4 from by rw [eU3]; exact Xi_ne (by omega)).trans ( (show Xi U2 895 4 = Xi U1 895 4 from by rw [eU2]; exact Xi_ne (by omega)).trans ((show Xi U1 895 4 = Xi S 895 4 from by rw [eU1]; exact Xi_ne (by omega)))))
            rw [w63]
            refine y_goto rfl rfl ?_
            refine y_pfi rfl rfl rfl rfl ?_
            obtain ⟨U12, eU12⟩ : ∃ T : sS, T = uI U10 895 6 (Int32.ofInt (Xi S 895 4)) := ⟨_, rfl⟩
            rw [← eU12]
            have hHU12 : RI U12 := by rw [eU12]; exact RI_w hHU10
            have hFU12 : FR md_me_readThing__p S U12 := by rw [eU12]; exact FR.wI hFU10 (mdf_i (r := (895, 896, 6, 7)) (List.mem_of_getElem? (i := 1) rfl) (inR_i (by omega) (by omega) (by omega) (by omega)))
            have w64 : Xi U12 895 6 = (Xi S 895 4) := by rw [eU12]; exact Xi_same (by unfold rg; omega)
            refine y_iload rfl rfl ?_
            refine y_ireturn rfl rfl ?_
            have w65 : Xi U12 876 7 = Xi S 876 7 := (show Xi U12 876 7 = Xi U10 876 7 from by rw [eU12]; exact Xi_ne (by omega)).trans ( (show Xi U10 876 7 = Xi U3 876 7 from by rw [eU10]; exact Xi_ne (by omega)).trans ( (show Xi U3 876 7 = Xi U2 876 7 from by rw [eU3]; exact Xi_ne (by omega)).trans ( (show Xi U2 876 7 = Xi U1 876 7 from by rw [eU2]; exact Xi_ne (by omega)).trans ((show Xi U1 876 7 = Xi S 876 7 from by rw [eU1]; exact Xi_ne (by omega))))))
            have w66 : Xi U12 895 3 = Xi S 895 3 := (show Xi U12 895 3 = Xi U10 895 3 from by rw [eU12]; exact Xi_ne (by omega)).trans ( (show Xi U10 895 3 = Xi U3 895 3 from by rw [eU10]; exact Xi_ne (by omega)).trans ( (show Xi U3 895 3 = Xi U2 895 3 from by rw [eU3]; exact Xi_ne (by omega)).trans ( (show Xi U2 895 3 = Xi U1 895 3 from by rw [eU2]; exact Xi_ne (by omega)).trans ((show Xi U1 895 3 = Xi S 895 3 from by rw [eU1]; exact Xi_ne (by omega))))))
            have w67 : Xi U12 895 4 = Xi S 895 4 := (show Xi U12 895 4 = Xi U10 895 4 from by rw [eU12]; exact Xi_ne (by omega)).trans ( (show Xi U10 895 4 = Xi U3 895 4 from by rw [eU10]; exact Xi_ne (by omega)).trans ( (show Xi U3 895 4 = Xi U2 895 4 from by rw [eU3]; exact Xi_ne (by omega)).trans ( (show Xi U2 895 4 = Xi U1 895 4 from by rw [eU2]; exact Xi_ne (by omega)).trans ((show Xi U1 895 4 = Xi S 895 4 from by rw [eU1]; exact Xi_ne (by omega))))))
            have w68 : Xi U12 895 5 = Xi U10 895 5 := (show Xi U12 895 5 = Xi U10 895 5 from by rw [eU12]; exact Xi_ne (by omega))
            have w69 : Xi U12 895 7 = Xi U1 895 7 := (show Xi U12 895 7 = Xi U10 895 7 from by rw [eU12]; exact Xi_ne (by omega)).trans ( (show Xi U10 895 7 = Xi U3 895 7 from by rw [eU10]; exact Xi_ne (by omega)).trans ( (show Xi U3 895 7 = Xi U2 895 7 from by rw [eU3]; exact Xi_ne (by omega)).trans ((show Xi U2 895 7 = Xi U1 895 7 from by rw [eU2]; exact Xi_ne (by omega)))))
            exact ⟨hHU12, hFU12, _, rfl, ⟨by omega, by omega⟩, (by first | (have u := K168; first | exact rth_n k42 (by omega) rfl e146 (fnd_y hmv (by omega)) (by omega) (Or.inr ⟨by omega, by omega⟩) (by omega) | exact rth_n k42 (by omega) rfl e146 (fnd_n hmv (by omega)) (by omega) (Or.inl ⟨rfl, by omega⟩) (by omega)) | exact rth_s k42 e42 (by omega) (by omega) (by omega) rfl), (by omega)⟩
    · refine y_iload_n rfl rfl ?_
      refine y_bipush rfl rfl ?_
      refine y_icmp_ne rfl rfl (by unfold rg; omega) (by unfold rg; omega) (fun w70 => ?_) (fun w71 => ?_)
      · refine y_aload_n rfl rfl ?_
        refine y_iload_n rfl rfl ?_
        have w72 : Xi U3 876 7 = Xi S 876 7 := (show Xi U3 876 7 = Xi U2 876 7 from by rw [eU3]; exact Xi_ne (by omega)).trans ( (show Xi U2 876 7 = Xi U1 876 7 from by rw [eU2]; exact Xi_ne (by omega)).trans ((show Xi U1 876 7 = Xi S 876 7 from by rw [eU1]; exact Xi_ne (by omega))))
        have w73 : Xi U3 895 3 = Xi S 895 3 := (show Xi U3 895 3 = Xi U2 895 3 from by rw [eU3]; exact Xi_ne (by omega)).trans ( (show Xi U2 895 3 = Xi U1 895 3 from by rw [eU2]; exact Xi_ne (by omega)).trans ((show Xi U1 895 3 = Xi S 895 3 from by rw [eU1]; exact Xi_ne (by omega))))
        have w74 : Xi U3 895 4 = Xi S 895 4 := (show Xi U3 895 4 = Xi U2 895 4 from by rw [eU3]; exact Xi_ne (by omega)).trans ( (show Xi U2 895 4 = Xi U1 895 4 from by rw [eU2]; exact Xi_ne (by omega)).trans ((show Xi U1 895 4 = Xi S 895 4 from by rw [eU1]; exact Xi_ne (by omega))))
        have w75 : Xi U3 895 5 = Xi U2 895 5 := (show Xi U3 895 5 = Xi U2 895 5 from by rw [eU3]; exact Xi_ne (by omega))
        have w76 : Xi U3 895 7 = Xi U1 895 7 := (show Xi U3 895 7 = Xi U2 895 7 from by rw [eU3]; exact Xi_ne (by omega)).trans ((show Xi U2 895 7 = Xi U1 895 7 from by rw [eU2]; exact Xi_ne (by omega)))
        refine y_callS rfl rfl (by decide) rfl (t_rs_isArt__p hHU3 v3 ⟨by omega, by omega⟩ _) ?_
        rintro _ _ ⟨rfl, z77, rfl, w77, q121, n121⟩
        show Pl _ _ _ _ _ _ [iv z77, .ref 895] _ _
        refine y_if_eq rfl rfl (by unfold rg; omega) (fun w78 => ?_) (fun w79 => ?_)
        · refine y_iload_n rfl rfl ?_
          refine y_pfi rfl rfl rfl rfl ?_
          obtain ⟨U13, eU13⟩ : ∃ T : sS, T = uI U3 895 7 (Int32.ofInt from_) := ⟨_, rfl⟩
          rw [← eU13]
          have hHU13 : RI U13 := by rw [eU13]; exact RI_w hHU3
          have hFU13 : FR md_me_readThing__p S U13 := by rw [eU13]; exact FR.wI hFU3 (mdf_i (r := (895, 896, 7, 8)) (List.mem_of_getElem? (i := 2) rfl) (inR_i (by omega) (by omega) (by omega) (by omega)))
          have w80 : Xi U13 895 7 = from_ := by rw [eU13]; exact Xi_same (by unfold rg; omega)
          have b134 : Xi U13 895 7 = bA (ty7 S) from_ := by rw [eU13, Xi_same (by unfold rg; omega)]; unfold bA; rw [thk_n k42 (by omega)]; unfold art7; first | (rw [if_pos (by omega)]) | (rw [if_neg (by omega)])
          refine y_aload_n rfl rfl ?_
          refine y_gfr rfl rfl rfl rfl rfl (hHU13.r 895 0 876 rfl) ?_
          refine y_aload_n rfl rfl ?_
          refine y_gfi rfl rfl rfl rfl rfl ?_
          refine y_iload_n rfl rfl ?_
          have w81 : Xi U13 876 7 = Xi S 876 7 := (show Xi U13 876 7 = Xi U3 876 7 from by rw [eU13]; exact Xi_ne (by omega)).trans ( (show Xi U3 876 7 = Xi U2 876 7 from by rw [eU3]; exact Xi_ne (by omega)).trans ( (show Xi U2 876 7 = Xi U1 876 7 from by rw [eU2]; exact Xi_ne (by omega)).trans ((show Xi U1 876 7 = Xi S 876 7 from by rw [eU1]; exact Xi_ne (by omega)))))
          refine y_callV rfl rfl rfl (t_to_runEndUpTo__p hHU13 (Xi U13 895 7) limit ⟨by omega, by omega⟩ ⟨by omega, by omega⟩ _) ?_
          rintro _ _ ⟨rfl, z86, rfl, w86, v146, b146⟩
          show Pl _ _ _ _ _ _ [iv z86] _ _
          have e146 : z86 = ruF S (bA (ty7 S) from_) limit := by have u := v146.trans (ruF_FR hFU13 rfl); rw [b134] at u; exact u
          clear v146
          refine y_istore rfl rfl rfl ?_
          refine y_aload_n rfl rfl ?_
          refine y_gfr rfl rfl rfl rfl rfl (hHU13.r 895 1 1 rfl) ?_
          refine y_aload_n rfl rfl ?_
          refine y_gfr rfl rfl rfl rfl rfl (hHU13.r 895 0 876 rfl) ?_
          refine y_gfr rfl rfl rfl rfl rfl (hHU13.r 876 2 879 rfl) ?_
          refine y_aload_n rfl rfl ?_
          refine y_gfi rfl rfl rfl rfl rfl ?_
          refine y_iload rfl rfl ?_
          have w87 : Xi U13 1 3 = Xi S 1 3 := (show Xi U13 1 3 = Xi U3 1 3 from by rw [eU13]; exact Xi_ne (by omega)).trans ( (show Xi U3 1 3 = Xi U2 1 3 from by rw [eU3]; exact Xi_ne (by omega)).trans ( (show Xi U2 1 3 = Xi U1 1 3 from by rw [eU2]; exact Xi_ne (by omega)).trans ((show Xi U1 1 3 = Xi S 1 3 from by rw [eU1]; exact Xi_ne (by omega)))))
          refine y_callV rfl rfl rfl (t_vo_meaning__p hHU13 879 5130 (Xi U13 895 7) z86 rfl ⟨by omega, by omega⟩ ⟨by omega, by omega⟩ ⟨by omega, by omega⟩ (by first | assumption | omega) (by first | assumption | exact (CEN_FR hFU13 rfl rfl (by assumption : CEN S))) _) ?_
          rintro _ _ ⟨rfl, z93, rfl, w93, f168, n168⟩
          show Pl _ _ _ _ _ _ [iv z93] _ _
          have K168 : True := trivial
          have hmv : mnV S (bA (ty7 S) from_) z86 = z93 := by have u := mnV_of (S := U13) f168 n168; rw [b134, mnV_FR hFU13 rfl] at u; exact u
          clear f168 n168
          refine y_istore rfl rfl rfl ?_
          refine y_iload rfl rfl ?_
          refine y_bipush rfl rfl ?_
          refine y_ishr8 rfl (by unfold rg; omega) ?_
          refine y_iconst rfl ?_
          refine y_icmp_ne rfl rfl (by unfold rg; omega) (by unfold rg; omega) (fun w95 => ?_) (fun w96 => ?_)
          · refine y_iload rfl rfl ?_
            refine y_ireturn rfl rfl ?_
            have w98 : Xi U13 895 3 = Xi S 895 3 := (show Xi U13 895 3 = Xi U3 895 3 from by rw [eU13]; exact Xi_ne (by omega)).trans ( (show Xi U3 895 3 = Xi U2 895 3 from by rw [eU3]; exact Xi_ne (by omega)).trans ( (show Xi U2 895 3 = Xi U1 895 3 from by rw [eU2]; exact Xi_ne (by omega)).trans ((show Xi U1 895 3 = Xi S 895 3 from by rw [eU1]; exact Xi_ne (by omega)))))
            have w99 : Xi U13 895 4 = Xi S 895 4 := (show Xi U13 895 4 = Xi U3 895 4 from by rw [eU13]; exact Xi_ne (by omega)).trans ( (show Xi U3 895 4 = Xi U2 895 4 from by rw [eU3]; exact Xi_ne (by omega)).trans ( (show Xi U2 895 4 = Xi U1 895 4 from by rw [eU2]; exact Xi_ne (by omega)).trans ((show Xi U1 895 4 = Xi S 895 4 from by rw [eU1]; exact Xi_ne (by omega)))))
            have w100 : Xi U13 895 5 = Xi U2 895 5 := (show Xi U13 895 5 = Xi U3 895 5 from by rw [eU13]; exact Xi_ne (by omega)).trans ((show Xi U3 895 5 = Xi U2 895 5 from by rw [eU3]; exact Xi_ne (by omega)))
            have w101 : Xi U13 895 6 = Xi U3 895 6 := (show Xi U13 895 6 = Xi U3 895 6 from by rw [eU13]; exact Xi_ne (by omega))
            exact ⟨hHU13, hFU13, _, rfl, ⟨by omega, by omega⟩, (by first | (have u := K168; first | exact rth_n k42 (by omega) rfl e146 (fnd_y hmv (by omega)) (by omega) (Or.inr ⟨by omega, by omega⟩) (by omega) | exact rth_n k42 (by omega) rfl e146 (fnd_n hmv (by omega)) (by omega) (Or.inl ⟨rfl, by omega⟩) (by omega)) | exact rth_s k42 e42 (by omega) (by omega) (by omega) rfl), (by omega)⟩
          · refine y_aload_n rfl rfl ?_
            refine y_iload rfl rfl ?_
            refine y_sipush rfl rfl ?_
            refine y_iand255 rfl (by unfold rg; omega) ?_
            refine y_pfi rfl rfl rfl rfl ?_
            obtain ⟨U14, eU14⟩ : ∃ T : sS, T = uI U13 895 5 (Int32.ofInt (z93 % 256)) := ⟨_, rfl⟩
            rw [← eU14]
            have hHU14 : RI U14 := by rw [eU14]; exact RI_w hHU13
            have hFU14 : FR md_me_readThing__p S U14 := by rw [eU14]; exact FR.wI hFU13 (mdf_i (r := (895, 896, 5, 6)) (List.mem_of_getElem? (i := 0) rfl) (inR_i (by omega) (by omega) (by omega) (by omega)))
            have w103 : Xi U14 895 5 = (z93 % 256) := by rw [eU14]; exact Xi_same (by unfold rg; omega)
            refine y_aload_n rfl rfl ?_
            refine y_aload_n rfl rfl ?_
            refine y_gfr rfl rfl rfl rfl rfl (hHU14.r 895 2 20 rfl) ?_
            refine y_gfr rfl rfl rfl rfl rfl (hHU14.r 20 2 21 rfl) ?_
            refine y_aload_n rfl rfl ?_
            refine y_gfi rfl rfl rfl rfl rfl ?_
            refine y_ialoadP (n := 24) rfl rfl (by unfold rg; omega) (fun w104 w105 => ?_)
            have w106 : -2147483648 ≤ (Xi U14 21 (((Xi U14 895 5)).toNat)) ∧ (Xi U14 21 (((Xi U14 895 5)).toNat)) ≤ 2147483647 := Xi_rgI
            have k204 : (Xi U14 21 (((Xi U14 895 5)).toNat)) = Xi S 21 (z93 % 256).toNat := by rw [(hFU14.cx 21 rfl _).1, show Xi U14 895 5 = z93 % 256 by omega]
            refine y_pfi rfl rfl rfl rfl ?_
            obtain ⟨U15, eU15⟩ : ∃ T : sS, T = uI U14 895 6 (Int32.ofInt (Xi U14 21 (((Xi U14 895 5)).toNat))) := ⟨_, rfl⟩
            rw [← eU15]
            have hHU15 : RI U15 := by rw [eU15]; exact RI_w hHU14
            have hFU15 : FR md_me_readThing__p S U15 := by rw [eU15]; exact FR.wI hFU14 (mdf_i (r := (895, 896, 6, 7)) (List.mem_of_getElem? (i := 1) rfl) (inR_i (by omega) (by omega) (by omega) (by omega)))
            have w107 : Xi U15 895 6 = (Xi U14 21 (((Xi U14 895 5)).toNat)) := by rw [eU15]; exact Xi_same (by unfold rg; omega)
            refine y_iload rfl rfl ?_
            refine y_ireturn rfl rfl ?_
            have w108 : Xi U15 876 7 = Xi S 876 7 := (show Xi U15 876 7 = Xi U14 876 7 from by rw [eU15]; exact Xi_ne (by omega)).trans ( (show Xi U14 876 7 = Xi U13 876 7 from by rw [eU14]; exact Xi_ne (by omega)).trans ( (show Xi U13 876 7 = Xi U3 876 7 from by rw [eU13]; exact Xi_ne (by omega)).trans ( (show Xi U3 876 7 = Xi U2 876 7 from by rw [eU3]; exact Xi_ne (by omega)).trans ( (show Xi U2 876 7 = Xi U1 876 7 from by rw [eU2]; exact Xi_ne (by omega)).trans ((show Xi U1 876 7 = Xi S 876 7 from by rw [eU1]; exact Xi_ne (by omega)))))))
            have w109 : Xi U15 895 3 = Xi S 895 3 := (show Xi U15 895 3 = Xi U14 895 3 from by rw [eU15]; exact Xi_ne (by omega)).trans ( (show Xi U14 895 3 = Xi U13 895 3 from by rw [eU14]; exact Xi_ne (by omega)).trans ( (show Xi U13 895 3 = Xi U3 895 3 from by rw [eU13]; exact Xi_ne (by omega)).trans ( (show Xi U3 895 3 = Xi U2 895 3 from by rw [eU3]; exact Xi_ne (by omega)).trans ( (show Xi U2 895 3 = Xi U1 895 3 from by rw [eU2]; exact Xi_ne (by omega)).trans ((show Xi U1 895 3 = Xi S 895 3 from by rw [eU1]; exact Xi_ne (by omega)))))))
            have w110 : Xi U15 895 4 = Xi S 895 4 := (show Xi U15 895 4 = Xi U14 895 4 from by rw [eU15]; exact Xi_ne (by omega)).trans ( (show Xi U14 895 4 = Xi U13 895 4 from by rw [eU14]; exact Xi_ne (by omega)).trans ( (show Xi U13 895 4 = Xi U3 895 4 from by rw [eU13]; exact Xi_ne (by omega)).trans ( (show Xi U3 895 4 = Xi U2 895 4 from by rw [eU3]; exact Xi_ne (by omega)).trans ( (show Xi U2 895 4 = Xi U1 895 4 from by rw [eU2]; exact Xi_ne (by omega)).trans ((show Xi U1 895 4 = Xi S 895 4 from by rw [eU1]; exact Xi_ne (by omega)))))))
            have w111 : Xi U15 895 5 = Xi U14 895 5 := (show Xi U15 895 5 = Xi U14 895 5 from by rw [eU15]; exact Xi_ne (by omega))
            have w112 : Xi U15 895 7 = Xi U13 895 7 := (show Xi U15 895 7 = Xi U14 895 7 from by rw [eU15]; exact Xi_ne (by omega)).trans ((show Xi U14 895 7 = Xi U13 895 7 from by rw [eU14]; exact Xi_ne (by omega)))
            exact ⟨hHU15, hFU15, _, rfl, ⟨by omega, by omega⟩, (by first | (have u := K168; first | exact rth_n k42 (by omega) rfl e146 (fnd_y hmv (by omega)) (by omega) (Or.inr ⟨by omega, by omega⟩) (by omega) | exact rth_n k42 (by omega) rfl e146 (fnd_n hmv (by omega)) (by omega) (Or.inl ⟨rfl, by omega⟩) (by omega)) | exact rth_s k42 e42 (by omega) (by omega) (by omega) rfl), (by omega)⟩
        · refine y_iload_n rfl rfl ?_
          refine y_iconst rfl ?_
          refine y_iadd rfl ?_
          refine y_goto rfl rfl ?_
          refine y_pfi rfl rfl rfl rfl ?_
          obtain ⟨U16, eU16⟩ : ∃ T : sS, T = uI U3 895 7 (Int32.ofInt (from_ + 1)) := ⟨_, rfl⟩
          rw [← eU16]
          have hHU16 : RI U16 := by rw [eU16]; exact RI_w hHU3
          have hFU16 : FR md_me_readThing__p S U16 := by rw [eU16]; exact FR.wI hFU3 (mdf_i (r := (895, 896, 7, 8)) (List.mem_of_getElem? (i := 2) rfl) (inR_i (by omega) (by omega) (by omega) (by omega)))
          have w113 : Xi U16 895 7 = (from_ + 1) := by rw [eU16]; exact Xi_same (by unfold rg; omega)
          have b134 : Xi U16 895 7 = bA (ty7 S) from_ := by rw [eU16, Xi_same (by unfold rg; omega)]; unfold bA; rw [thk_n k42 (by omega)]; unfold art7; first | (rw [if_pos (by omega)]) | (rw [if_neg (by omega)])
          refine y_aload_n rfl rfl ?_
          refine y_gfr rfl rfl rfl rfl rfl (hHU16.r 895 0 876 rfl) ?_
          refine y_aload_n rfl rfl ?_
          refine y_gfi rfl rfl rfl rfl rfl ?_
          refine y_iload_n rfl rfl ?_
          have w114 : Xi U16 876 7 = Xi S 876 7 := (show Xi U16 876 7 = Xi U3 876 7 from by rw [eU16]; exact Xi_ne (by omega)).trans ( (show Xi U3 876 7 = Xi U2 876 7 from by rw [eU3]; exact Xi_ne (by omega)).trans ( (show Xi U2 876 7 = Xi U1 876 7 from by rw [eU2]; exact Xi_ne (by omega)).trans ((show Xi U1 876 7 = Xi S 876 7 from by rw [eU1]; exact Xi_ne (by omega)))))
          refine y_callV rfl rfl rfl (t_to_runEndUpTo__p hHU16 (Xi U16 895 7) limit ⟨by omega, by omega⟩ ⟨by omega, by omega⟩ _) ?_
          rintro _ _ ⟨rfl, z119, rfl, w119, v146, b146⟩
          show Pl _ _ _ _ _ _ [iv z119] _ _
          have e146 : z119 = ruF S (bA (ty7 S) from_) limit := by have u := v146.trans (ruF_FR hFU16 rfl); rw [b134] at u; exact u
          clear v146
          refine y_istore rfl rfl rfl ?_
          refine y_aload_n rfl rfl ?_
          refine y_gfr rfl rfl rfl rfl rfl (hHU16.r 895 1 1 rfl) ?_
          refine y_aload_n rfl rfl ?_
          refine y_gfr rfl rfl rfl rfl rfl (hHU16.r 895 0 876 rfl) ?_
          refine y_gfr rfl rfl rfl rfl rfl (hHU16.r 876 2 879 rfl) ?_
          refine y_aload_n rfl rfl ?_
          refine y_gfi rfl rfl rfl rfl rfl ?_
          refine y_iload rfl rfl ?_
          have w120 : Xi U16 1 3 = Xi S 1 3 := (show Xi U16 1 3 = Xi U3 1 3 from by rw [eU16]; exact Xi_ne (by omega)).trans ( (show Xi U3 1 3 = Xi U2 1 3 from by rw [eU3]; exact Xi_ne (by omega)).trans ( (show Xi U2 1 3 = Xi U1 1 3 from by rw [eU2]; exact Xi_ne (by omega)).trans ((show Xi U1 1 3 = Xi S 1 3 from by rw [eU1]; exact Xi_ne (by omega)))))
          refine y_callV rfl rfl rfl (t_vo_meaning__p hHU16 879 5130 (Xi U16 895 7) z119 rfl ⟨by omega, by omega⟩ ⟨by omega, by omega⟩ ⟨by omega, by omega⟩ (by first | assumption | omega) (by first | assumption | exact (CEN_FR hFU16 rfl rfl (by assumption : CEN S))) _) ?_
          rintro _ _ ⟨rfl, z126, rfl, w126, f168, n168⟩
          show Pl _ _ _ _ _ _ [iv z126] _ _
          have K168 : True := trivial
          have hmv : mnV S (bA (ty7 S) from_) z119 = z126 := by have u := mnV_of (S := U16) f168 n168; rw [b134, mnV_FR hFU16 rfl] at u; exact u
          clear f168 n168
          refine y_istore rfl rfl rfl ?_
          refine y_iload rfl rfl ?_
          refine y_bipush rfl rfl ?_
          refine y_ishr8 rfl (by unfold rg; omega) ?_
          refine y_iconst rfl ?_
          refine y_icmp_ne rfl rfl (by unfold rg; omega) (by unfold rg; omega) (fun w128 => ?_) (fun w129 => ?_)
          · refine y_iload rfl rfl ?_
            refine y_ireturn rfl rfl ?_
            have w131 : Xi U16 895 3 = Xi S 895 3 := (show Xi U16 895 3 = Xi U3 895 3 from by rw [eU16]; exact Xi_ne (by omega)).trans ( (show Xi U3 895 3 = Xi U2 895 3 from by rw [eU3]; exact Xi_ne (by omega)).trans ( (show Xi U2 895 3 = Xi U1 895 3 from by rw [eU2]; exact Xi_ne (by omega)).trans ((show Xi U1 895 3 = Xi S 895 3 from by rw [eU1]; exact Xi_ne (by omega)))))
            have w132 : Xi U16 895 4 = Xi S 895 4 := (show Xi U16 895 4 = Xi U3 895 4 from by rw [eU16]; exact Xi_ne (by omega)).trans ( (show Xi U3 895 4 = Xi U2 895 4 from by rw [eU3]; exact Xi_ne (by omega)).trans ( (show Xi U2 895 4 = Xi U1 895 4 from by rw [eU2]; exact Xi_ne (by omega)).trans ((show Xi U1 895 4 = Xi S 895 4 from by rw [eU1]; exact Xi_ne (by omega)))))
            have w133 : Xi U16 895 5 = Xi U2 895 5 := (show Xi U16 895 5 = Xi U3 895 5 from by rw [eU16]; exact Xi_ne (by omega)).trans ((show Xi U3 895 5 = Xi U2 895 5 from by rw [eU3]; exact Xi_ne (by omega)))
            have w134 : Xi U16 895 6 = Xi U3 895 6 := (show Xi U16 895 6 = Xi U3 895 6 from by rw [eU16]; exact Xi_ne (by omega))
            exact ⟨hHU16, hFU16, _, rfl, ⟨by omega, by omega⟩, (by first | (have u := K168; first | exact rth_n k42 (by omega) rfl e146 (fnd_y hmv (by omega)) (by omega) (Or.inr ⟨by omega, by omega⟩) (by omega) | exact rth_n k42 (by omega) rfl e146 (fnd_n hmv (by omega)) (by omega) (Or.inl ⟨rfl, by omega⟩) (by omega)) | exact rth_s k42 e42 (by omega) (by omega) (by omega) rfl), (by omega)⟩
          · refine y_aload_n rfl rfl ?_
            refine y_iload rfl rfl ?_
            refine y_sipush rfl rfl ?_
            refine y_iand255 rfl (by unfold rg; omega) ?_
            refine y_pfi rfl rfl rfl rfl ?_
            obtain ⟨U17, eU17⟩ : ∃ T : sS, T = uI U16 895 5 (Int32.ofInt (z126 % 256)) := ⟨_, rfl⟩
            rw [← eU17]
            have hHU17 : RI U17 := by rw [eU17]; exact RI_w hHU16
            have hFU17 : FR md_me_readThing__p S U17 := by rw [eU17]; exact FR.wI hFU16 (mdf_i (r := (895, 896, 5, 6)) (List.mem_of_getElem? (i := 0) rfl) (inR_i (by omega) (by omega) (by omega) (by omega)))
            have w136 : Xi U17 895 5 = (z126 % 256) := by rw [eU17]; exact Xi_same (by unfold rg; omega)
            refine y_aload_n rfl rfl ?_
            refine y_aload_n rfl rfl ?_
            refine y_gfr rfl rfl rfl rfl rfl (hHU17.r 895 2 20 rfl) ?_
            refine y_gfr rfl rfl rfl rfl rfl (hHU17.r 20 2 21 rfl) ?_
            refine y_aload_n rfl rfl ?_
            refine y_gfi rfl rfl rfl rfl rfl ?_
            refine y_ialoadP (n := 24) rfl rfl (by unfold rg; omega) (fun w137 w138 => ?_)
            have w139 : -2147483648 ≤ (Xi U17 21 (((Xi U17 895 5)).toNat)) ∧ (Xi U17 21 (((Xi U17 895 5)).toNat)) ≤ 2147483647 := Xi_rgI
            have k204 : (Xi U17 21 (((Xi U17 895 5)).toNat)) = Xi S 21 (z126 % 256).toNat := by rw [(hFU17.cx 21 rfl _).1, show Xi U17 895 5 = z126 % 256 by omega]
            refine y_pfi rfl rfl rfl rfl ?_
            obtain ⟨U18, eU18⟩ : ∃ T : sS, T = uI U17 895 6 (Int32.ofInt (Xi U17 21 (((Xi U17 895 5)).toNat))) := ⟨_, rfl⟩
            rw [← eU18]
            have hHU18 : RI U18 := by rw [eU18]; exact RI_w hHU17
            have hFU18 : FR md_me_readThing__p S U18 := by rw [eU18]; exact FR.wI hFU17 (mdf_i (r := (895, 896, 6, 7)) (List.mem_of_getElem? (i := 1) rfl) (inR_i (by omega) (by omega) (by omega) (by omega)))
            have w140 : Xi U18 895 6 = (Xi U17 21 (((Xi U17 895 5)).toNat)) := by rw [eU18]; exact Xi_same (by unfold rg; omega)
            refine y_iload rfl rfl ?_
            refine y_ireturn rfl rfl ?_
            have w141 : Xi U18 876 7 = Xi S 876 7 := (show Xi U18 876 7 = Xi U17 876 7 from by rw [eU18]; exact Xi_ne (by omega)).trans ( (show Xi U17 876 7 = Xi U16 876 7 from by rw [eU17]; exact Xi_ne (by omega)).trans ( (show Xi U16 876 7 = Xi U3 876 7 from by rw [eU16]; exact Xi_ne (by omega)).trans ( (show Xi U3 876 7 = Xi U2 876 7 from by rw [eU3]; exact Xi_ne (by omega)).trans ( (show Xi U2 876 7 = Xi U1 876 7 from by rw [eU2]; exact Xi_ne (by omega)).trans ((show Xi U1 876 7 = Xi S 876 7 from by rw [eU1]; exact Xi_ne (by omega)))))))
            have w142 : Xi U18 895 3 = Xi S 895 3 := (show Xi U18 895 3 = Xi U17 895 3 from by rw [eU18]; exact Xi_ne (by omega)).trans ( (show Xi U17 895 3 = Xi U16 895 3 from by rw [eU17]; exact Xi_ne (by omega)).trans ( (show Xi U16 895 3 = Xi U3 895 3 from by rw [eU16]; exact Xi_ne (by omega)).trans ( (show Xi U3 895 3 = Xi U2 895 3 from by rw [eU3]; exact Xi_ne (by omega)).trans ( (show Xi U2 895 3 = Xi U1 895 3 from by rw [eU2]; exact Xi_ne (by omega)).trans ((show Xi U1 895 3 = Xi S 895 3 from by rw [eU1]; exact Xi_ne (by omega)))))))
            have w143 : Xi U18 895 4 = Xi S 895 4 := (show Xi U18 895 4 = Xi U17 895 4 from by rw [eU18]; exact Xi_ne (by omega)).trans ( (show Xi U17 895 4 = Xi U16 895 4 from by rw [eU17]; exact Xi_ne (by omega)).trans ( (show Xi U16 895 4 = Xi U3 895 4 from by rw [eU16]; exact Xi_ne (by omega)).trans ( (show Xi U3 895 4 = Xi U2 895 4 from by rw [eU3]; exact Xi_ne (by omega)).trans ( (show Xi U2 895 4 = Xi U1 895 4 from by rw [eU2]; exact Xi_ne (by omega)).trans ((show Xi U1 895 4 = Xi S 895 4 from by rw [eU1]; exact Xi_ne (by omega)))))))
            have w144 : Xi U18 895 5 = Xi U17 895 5 := (show Xi U18 895 5 = Xi U17 895 5 from by rw [eU18]; exact Xi_ne (by omega))
            have w145 : Xi U18 895 7 = Xi U16 895 7 := (show Xi U18 895 7 = Xi U17 895 7 from by rw [eU18]; exact Xi_ne (by omega)).trans ((show Xi U17 895 7 = Xi U16 895 7 from by rw [eU17]; exact Xi_ne (by omega)))
            exact ⟨hHU18, hFU18, _, rfl, ⟨by omega, by omega⟩, (by first | (have u := K168; first | exact rth_n k42 (by omega) rfl e146 (fnd_y hmv (by omega)) (by omega) (Or.inr ⟨by omega, by omega⟩) (by omega) | exact rth_n k42 (by omega) rfl e146 (fnd_n hmv (by omega)) (by omega) (Or.inl ⟨rfl, by omega⟩) (by omega)) | exact rth_s k42 e42 (by omega) (by omega) (by omega) rfl), (by omega)⟩
      · refine y_aload_n rfl rfl ?_
        refine y_iload_n rfl rfl ?_
        refine y_aload_n rfl rfl ?_
        refine y_gfi rfl rfl rfl rfl rfl ?_
        have w146 : (Xi U3 895 3) = (Xi S 895 3) := (show Xi U3 895 3 = Xi U2 895 3 from by rw [eU3]; exact Xi_ne (by omega)).trans ( (show Xi U2 895 3 = Xi U1 895 3 from by rw [eU2]; exact Xi_ne (by omega)).trans ((show Xi U1 895 3 = Xi S 895 3 from by rw [eU1]; exact Xi_ne (by omega))))
        rw [w146]
        refine y_icmp_ne rfl rfl (by unfold rg; omega) (by unfold rg; omega) (fun w147 => ?_) (fun w148 => ?_)
        · refine y_iconst rfl ?_
          refine y_pfi rfl rfl rfl rfl ?_
          obtain ⟨U19, eU19⟩ : ∃ T : sS, T = uI U3 895 5 (Int32.ofInt (-1)) := ⟨_, rfl⟩
          rw [← eU19]
          have hHU19 : RI U19 := by rw [eU19]; exact RI_w hHU3
          have hFU19 : FR md_me_readThing__p S U19 := by rw [eU19]; exact FR.wI hFU3 (mdf_i (r := (895, 896, 5, 6)) (List.mem_of_getElem? (i := 0) rfl) (inR_i (by omega) (by omega) (by omega) (by omega)))
          have w149 : Xi U19 895 5 = (-1) := by rw [eU19]; exact Xi_same (by unfold rg; omega)
          refine y_aload_n rfl rfl ?_
          refine y_aload_n rfl rfl ?_
          refine y_gfi rfl rfl rfl rfl rfl ?_
          refine y_bipush rfl rfl ?_
          refine y_icmp_ne rfl rfl (by unfold rg; omega) (by unfold rg; omega) (fun w150 => ?_) (fun w151 => ?_)
          · refine y_iconst rfl ?_
            refine y_pfi rfl rfl rfl rfl ?_
            obtain ⟨U20, eU20⟩ : ∃ T : sS, T = uI U19 895 6 (Int32.ofInt (-1)) := ⟨_, rfl⟩
            rw [← eU20]
            have hHU20 : RI U20 := by rw [eU20]; exact RI_w hHU19
            have hFU20 : FR md_me_readThing__p S U20 := by rw [eU20]; exact FR.wI hFU19 (mdf_i (r := (895, 896, 6, 7)) (List.mem_of_getElem? (i := 1) rfl) (inR_i (by omega) (by omega) (by omega) (by omega)))
            have w152 : Xi U20 895 6 = (-1) := by rw [eU20]; exact Xi_same (by unfold rg; omega)
            refine y_iload rfl rfl ?_
            refine y_ireturn rfl rfl ?_
            have w153 : Xi U20 876 7 = Xi S 876 7 := (show Xi U20 876 7 = Xi U19 876 7 from by rw [eU20]; exact Xi_ne (by omega)).trans ( (show Xi U19 876 7 = Xi U3 876 7 from by rw [eU19]; exact Xi_ne (by omega)).trans ( (show Xi U3 876 7 = Xi U2 876 7 from by rw [eU3]; exact Xi_ne (by omega)).trans ( (show Xi U2 876 7 = Xi U1 876 7 from by rw [eU2]; exact Xi_ne (by omega)).trans ((show Xi U1 876 7 = Xi S 876 7 from by rw [eU1]; exact Xi_ne (by omega))))))
            have w154 : Xi U20 895 3 = Xi S 895 3 := (show Xi U20 895 3 = Xi U19 895 3 from by rw [eU20]; exact Xi_ne (by omega)).trans ( (show Xi U19 895 3 = Xi U3 895 3 from by rw [eU19]; exact Xi_ne (by omega)).trans ( (show Xi U3 895 3 = Xi U2 895 3 from by rw [eU3]; exact Xi_ne (by omega)).trans ( (show Xi U2 895 3 = Xi U1 895 3 from by rw [eU2]; exact Xi_ne (by omega)).trans ((show Xi U1 895 3 = Xi S 895 3 from by rw [eU1]; exact Xi_ne (by omega))))))
            have w155 : Xi U20 895 4 = Xi S 895 4 := (show Xi U20 895 4 = Xi U19 895 4 from by rw [eU20]; exact Xi_ne (by omega)).trans ( (show Xi U19 895 4 = Xi U3 895 4 from by rw [eU19]; exact Xi_ne (by omega)).trans ( (show Xi U3 895 4 = Xi U2 895 4 from by rw [eU3]; exact Xi_ne (by omega)).trans ( (show Xi U2 895 4 = Xi U1 895 4 from by rw [eU2]; exact Xi_ne (by omega)).trans ((show Xi U1 895 4 = Xi S 895 4 from by rw [eU1]; exact Xi_ne (by omega))))))
            have w156 : Xi U20 895 5 = Xi U19 895 5 := (show Xi U20 895 5 = Xi U19 895 5 from by rw [eU20]; exact Xi_ne (by omega))
            have w157 : Xi U20 895 7 = Xi U1 895 7 := (show Xi U20 895 7 = Xi U19 895 7 from by rw [eU20]; exact Xi_ne (by omega)).trans ( (show Xi U19 895 7 = Xi U3 895 7 from by rw [eU19]; exact Xi_ne (by omega)).trans ( (show Xi U3 895 7 = Xi U2 895 7 from by rw [eU3]; exact Xi_ne (by omega)).trans ((show Xi U2 895 7 = Xi U1 895 7 from by rw [eU2]; exact Xi_ne (by omega)))))
            exact ⟨hHU20, hFU20, _, rfl, ⟨by omega, by omega⟩, (by first | (have u := K168; first | exact rth_n k42 (by omega) rfl e146 (fnd_y hmv (by omega)) (by omega) (Or.inr ⟨by omega, by omega⟩) (by omega) | exact rth_n k42 (by omega) rfl e146 (fnd_n hmv (by omega)) (by omega) (Or.inl ⟨rfl, by omega⟩) (by omega)) | exact rth_s k42 e42 (by omega) (by omega) (by omega) rfl), (by omega)⟩
          · refine y_aload_n rfl rfl ?_
            refine y_gfi rfl rfl rfl rfl rfl ?_
            have w158 : (Xi U19 895 4) = (Xi S 895 4) := (show Xi U19 895 4 = Xi U3 895 4 from by rw [eU19]; exact Xi_ne (by omega)).trans ( (show Xi U3 895 4 = Xi U2 895 4 from by rw [eU3]; exact Xi_ne (by omega)).trans ( (show Xi U2 895 4 = Xi U1 895 4 from by rw [eU2]; exact Xi_ne (by omega)).trans ((show Xi U1 895 4 = Xi S 895 4 from by rw [eU1]; exact Xi_ne (by omega)))))
            rw [w158]
            refine y_goto rfl rfl ?_
            refine y_pfi rfl rfl rfl rfl ?_
            obtain ⟨U21, eU21⟩ : ∃ T : sS, T = uI U19 895 6 (Int32.ofInt (Xi S 895 4)) := ⟨_, rfl⟩
            rw [← eU21]
            have hHU21 : RI U21 := by rw [eU21]; exact RI_w hHU19
            have hFU21 : FR md_me_readThing__p S U21 := by rw [eU21]; exact FR.wI hFU19 (mdf_i (r := (895, 896, 6, 7)) (List.mem_of_getElem? (i := 1) rfl) (inR_i (by omega) (by omega) (by omega) (by omega)))
            have w159 : Xi U21 895 6 = (Xi S 895 4) := by rw [eU21]; exact Xi_same (by unfold rg; omega)
            refine y_iload rfl rfl ?_
            refine y_ireturn rfl rfl ?_
            have w160 : Xi U21 876 7 = Xi S 876 7 := (show Xi U21 876 7 = Xi U19 876 7 from by rw [eU21]; exact Xi_ne (by omega)).trans ( (show Xi U19 876 7 = Xi U3 876 7 from by rw [eU19]; exact Xi_ne (by omega)).trans ( (show Xi U3 876 7 = Xi U2 876 7 from by rw [eU3]; exact Xi_ne (by omega)).trans ( (show Xi U2 876 7 = Xi U1 876 7 from by rw [eU2]; exact Xi_ne (by omega)).trans ((show Xi U1 876 7 = Xi S 876 7 from by rw [eU1]; exact Xi_ne (by omega))))))
            have w161 : Xi U21 895 3 = Xi S 895 3 := (show Xi U21 895 3 = Xi U19 895 3 from by rw [eU21]; exact Xi_ne (by omega)).trans ( (show Xi U19 895 3 = Xi U3 895 3 from by rw [eU19]; exact Xi_ne (by omega)).trans ( (show Xi U3 895 3 = Xi U2 895 3 from by rw [eU3]; exact Xi_ne (by omega)).trans ( (show Xi U2 895 3 = Xi U1 895 3 from by rw [eU2]; exact Xi_ne (by omega)).trans ((show Xi U1 895 3 = Xi S 895 3 from by rw [eU1]; exact Xi_ne (by omega))))))
            have w162 : Xi U21 895 4 = Xi S 895 4 := (show Xi U21 895 4 = Xi U19 895 4 from by rw [eU21]; exact Xi_ne (by omega)).trans ( (show Xi U19 895 4 = Xi U3 895 4 from by rw [eU19]; exact Xi_ne (by omega)).trans ( (show Xi U3 895 4 = Xi U2 895 4 from by rw [eU3]; exact Xi_ne (by omega)).trans ( (show Xi U2 895 4 = Xi U1 895 4 from by rw [eU2]; exact Xi_ne (by omega)).trans ((show Xi U1 895 4 = Xi S 895 4 from by rw [eU1]; exact Xi_ne (by omega))))))
            have w163 : Xi U21 895 5 = Xi U19 895 5 := (show Xi U21 895 5 = Xi U19 895 5 from by rw [eU21]; exact Xi_ne (by omega))
            have w164 : Xi U21 895 7 = Xi U1 895 7 := (show Xi U21 895 7 = Xi U19 895 7 from by rw [eU21]; exact Xi_ne (by omega)).trans ( (show Xi U19 895 7 = Xi U3 895 7 from by rw [eU19]; exact Xi_ne (by omega)).trans ( (show Xi U3 895 7 = Xi U2 895 7 from by rw [eU3]; exact Xi_ne (by omega)).trans ((show Xi U2 895 7 = Xi U1 895 7 from by rw [eU2]; exact Xi_ne (by omega)))))
            exact ⟨hHU21, hFU21, _, rfl, ⟨by omega, by omega⟩, (by first | (have u := K168; first | exact rth_n k42 (by omega) rfl e146 (fnd_y hmv (by omega)) (by omega) (Or.inr ⟨by omega, by omega⟩) (by omega) | exact rth_n k42 (by omega) rfl e146 (fnd_n hmv (by omega)) (by omega) (Or.inl ⟨rfl, by omega⟩) (by omega)) | exact rth_s k42 e42 (by omega) (by omega) (by omega) rfl), (by omega)⟩
        · refine y_aload_n rfl rfl ?_
          refine y_gfi rfl rfl rfl rfl rfl ?_
          have w165 : (Xi U3 895 4) = (Xi S 895 4) := (show Xi U3 895 4 = Xi U2 895 4 from by rw [eU3]; exact Xi_ne (by omega)).trans ( (show Xi U2 895 4 = Xi U1 895 4 from by rw [eU2]; exact Xi_ne (by omega)).trans ((show Xi U1 895 4 = Xi S 895 4 from by rw [eU1]; exact Xi_ne (by omega))))
          rw [w165]
          refine y_iconst rfl ?_
          refine y_icmp_eq rfl rfl (by unfold rg; omega) (by unfold rg; omega) (fun w166 => ?_) (fun w167 => ?_)
          · refine y_iconst rfl ?_
            refine y_pfi rfl rfl rfl rfl ?_
            obtain ⟨U22, eU22⟩ : ∃ T : sS, T = uI U3 895 5 (Int32.ofInt (-1)) := ⟨_, rfl⟩
            rw [← eU22]
            have hHU22 : RI U22 := by rw [eU22]; exact RI_w hHU3
            have hFU22 : FR md_me_readThing__p S U22 := by rw [eU22]; exact FR.wI hFU3 (mdf_i (r := (895, 896, 5, 6)) (List.mem_of_getElem? (i := 0) rfl) (inR_i (by omega) (by omega) (by omega) (by omega)))
            have w168 : Xi U22 895 5 = (-1) := by rw [eU22]; exact Xi_same (by unfold rg; omega)
            refine y_aload_n rfl rfl ?_
            refine y_aload_n rfl rfl ?_
            refine y_gfi rfl rfl rfl rfl rfl ?_
            refine y_bipush rfl rfl ?_
            refine y_icmp_ne rfl rfl (by unfold rg; omega) (by unfold rg; omega) (fun w169 => ?_) (fun w170 => ?_)
            · refine y_iconst rfl ?_
              refine y_pfi rfl rfl rfl rfl ?_
              obtain ⟨U23, eU23⟩ : ∃ T : sS, T = uI U22 895 6 (Int32.ofInt (-1)) := ⟨_, rfl⟩
              rw [← eU23]
              have hHU23 : RI U23 := by rw [eU23]; exact RI_w hHU22
              have hFU23 : FR md_me_readThing__p S U23 := by rw [eU23]; exact FR.wI hFU22 (mdf_i (r := (895, 896, 6, 7)) (List.mem_of_getElem? (i := 1) rfl) (inR_i (by omega) (by omega) (by omega) (by omega)))
              have w171 : Xi U23 895 6 = (-1) := by rw [eU23]; exact Xi_same (by unfold rg; omega)
              refine y_iload rfl rfl ?_
              refine y_ireturn rfl rfl ?_
              have w172 : Xi U23 876 7 = Xi S 876 7 := (show Xi U23 876 7 = Xi U22 876 7 from by rw [eU23]; exact Xi_ne (by omega)).trans ( (show Xi U22 876 7 = Xi U3 876 7 from by rw [eU22]; exact Xi_ne (by omega)).trans ( (show Xi U3 876 7 = Xi U2 876 7 from by rw [eU3]; exact Xi_ne (by omega)).trans ( (show Xi U2 876 7 = Xi U1 876 7 from by rw [eU2]; exact Xi_ne (by omega)).trans ((show Xi U1 876 7 = Xi S 876 7 from by rw [eU1]; exact Xi_ne (by omega))))))
              have w173 : Xi U23 895 3 = Xi S 895 3 := (show Xi U23 895 3 = Xi U22 895 3 from by rw [eU23]; exact Xi_ne (by omega)).trans ( (show Xi U22 895 3 = Xi U3 895 3 from by rw [eU22]; exact Xi_ne (by omega)).trans ( (show Xi U3 895 3 = Xi U2 895 3 from by rw [eU3]; exact Xi_ne (by omega)).trans ( (show Xi U2 895 3 = Xi U1 895 3 from by rw [eU2]; exact Xi_ne (by omega)).trans ((show Xi U1 895 3 = Xi S 895 3 from by rw [eU1]; exact Xi_ne (by omega))))))
              have w174 : Xi U23 895 4 = Xi S 895 4 := (show Xi U23 895 4 = Xi U22 895 4 from by rw [eU23]; exact Xi_ne (by omega)).trans ( (show Xi U22 895 4 = Xi U3 895 4 from by rw [eU22]; exact Xi_ne (by omega)).trans ( (show Xi U3 895 4 = Xi U2 895 4 from by rw [eU3]; exact Xi_ne (by omega)).trans ( (show Xi U2 895 4 = Xi U1 895 4 from by rw [eU2]; exact Xi_ne (by omega)).trans ((show Xi U1 895 4 = Xi S 895 4 from by rw [eU1]; exact Xi_ne (by omega))))))
              have w175 : Xi U23 895 5 = Xi U22 895 5 := (show Xi U23 895 5 = Xi U22 895 5 from by rw [eU23]; exact Xi_ne (by omega))
              have w176 : Xi U23 895 7 = Xi U1 895 7 := (show Xi U23 895 7 = Xi U22 895 7 from by rw [eU23]; exact Xi_ne (by omega)).trans ( (show Xi U22 895 7 = Xi U3 895 7 from by rw [eU22]; exact Xi_ne (by omega)).trans ( (show Xi U3 895 7 = Xi U2 895 7 from by rw [eU3]; exact Xi_ne (by omega)).trans ((show Xi U2 895 7 = Xi U1 895 7 from by rw [eU2]; exact Xi_ne (by omega)))))
              exact ⟨hHU23, hFU23, _, rfl, ⟨by omega, by omega⟩, (by first | (have u := K168; first | exact rth_n k42 (by omega) rfl e146 (fnd_y hmv (by omega)) (by omega) (Or.inr ⟨by omega, by omega⟩) (by omega) | exact rth_n k42 (by omega) rfl e146 (fnd_n hmv (by omega)) (by omega) (Or.inl ⟨rfl, by omega⟩) (by omega)) | exact rth_s k42 e42 (by omega) (by omega) (by omega) rfl), (by omega)⟩
            · refine y_aload_n rfl rfl ?_
              refine y_gfi rfl rfl rfl rfl rfl ?_
              have w177 : (Xi U22 895 4) = (Xi S 895 4) := (show Xi U22 895 4 = Xi U3 895 4 from by rw [eU22]; exact Xi_ne (by omega)).trans ( (show Xi U3 895 4 = Xi U2 895 4 from by rw [eU3]; exact Xi_ne (by omega)).trans ( (show Xi U2 895 4 = Xi U1 895 4 from by rw [eU2]; exact Xi_ne (by omega)).trans ((show Xi U1 895 4 = Xi S 895 4 from by rw [eU1]; exact Xi_ne (by omega)))))
              rw [w177]
              refine y_goto rfl rfl ?_
              refine y_pfi rfl rfl rfl rfl ?_
              obtain ⟨U24, eU24⟩ : ∃ T : sS, T = uI U22 895 6 (Int32.ofInt (Xi S 895 4)) := ⟨_, rfl⟩
              rw [← eU24]
              have hHU24 : RI U24 := by rw [eU24]; exact RI_w hHU22
              have hFU24 : FR md_me_readThing__p S U24 := by rw [eU24]; exact FR.wI hFU22 (mdf_i (r := (895, 896, 6, 7)) (List.mem_of_getElem? (i := 1) rfl) (inR_i (by omega) (by omega) (by omega) (by omega)))
              have w178 : Xi U24 895 6 = (Xi S 895 4) := by rw [eU24]; exact Xi_same (by unfold rg; omega)
              refine y_iload rfl rfl ?_
              refine y_ireturn rfl rfl ?_
              have w179 : Xi U24 876 7 = Xi S 876 7 := (show Xi U24 876 7 = Xi U22 876 7 from by rw [eU24]; exact Xi_ne (by omega)).trans ( (show Xi U22 876 7 = Xi U3 876 7 from by rw [eU22]; exact Xi_ne (by omega)).trans ( (show Xi U3 876 7 = Xi U2 876 7 from by rw [eU3]; exact Xi_ne (by omega)).trans ( (show Xi U2 876 7 = Xi U1 876 7 from by rw [eU2]; exact Xi_ne (by omega)).trans ((show Xi U1 876 7 = Xi S 876 7 from by rw [eU1]; exact Xi_ne (by omega))))))
              have w180 : Xi U24 895 3 = Xi S 895 3 := (show Xi U24 895 3 = Xi U22 895 3 from by rw [eU24]; exact Xi_ne (by omega)).trans ( (show Xi U22 895 3 = Xi U3 895 3 from by rw [eU22]; exact Xi_ne (by omega)).trans ( (show Xi U3 895 3 = Xi U2 895 3 from by rw [eU3]; exact Xi_ne (by omega)).trans ( (show Xi U2 895 3 = Xi U1 895 3 from by rw [eU2]; exact Xi_ne (by omega)).trans ((show Xi U1 895 3 = Xi S 895 3 from by rw [eU1]; exact Xi_ne (by omega))))))
              have w181 : Xi U24 895 4 = Xi S 895 4 := (show Xi U24 895 4 = Xi U22 895 4 from by rw [eU24]; exact Xi_ne (by omega)).trans ( (show Xi U22 895 4 = Xi U3 895 4 from by rw [eU22]; exact Xi_ne (by omega)).trans ( (show Xi U3 895 4 = Xi U2 895 4 from by rw [eU3]; exact Xi_ne (by omega)).trans ( (show Xi U2 895 4 = Xi U1 895 4 from by rw [eU2]; exact Xi_ne (by omega)).trans ((show Xi U1 895 4 = Xi S 895 4 from by rw [eU1]; exact Xi_ne (by omega))))))
              have w182 : Xi U24 895 5 = Xi U22 895 5 := (show Xi U24 895 5 = Xi U22 895 5 from by rw [eU24]; exact Xi_ne (by omega))
              have w183 : Xi U24 895 7 = Xi U1 895 7 := (show Xi U24 895 7 = Xi U22 895 7 from by rw [eU24]; exact Xi_ne (by omega)).trans ( (show Xi U22 895 7 = Xi U3 895 7 from by rw [eU22]; exact Xi_ne (by omega)).trans ( (show Xi U3 895 7 = Xi U2 895 7 from by rw [eU3]; exact Xi_ne (by omega)).trans ((show Xi U2 895 7 = Xi U1 895 7 from by rw [eU2]; exact Xi_ne (by omega)))))
              exact ⟨hHU24, hFU24, _, rfl, ⟨by omega, by omega⟩, (by first | (have u := K168; first | exact rth_n k42 (by omega) rfl e146 (fnd_y hmv (by omega)) (by omega) (Or.inr ⟨by omega, by omega⟩) (by omega) | exact rth_n k42 (by omega) rfl e146 (fnd_n hmv (by omega)) (by omega) (Or.inl ⟨rfl, by omega⟩) (by omega)) | exact rth_s k42 e42 (by omega) (by omega) (by omega) rfl), (by omega)⟩
          · refine y_bipush rfl rfl ?_
            refine y_goto rfl rfl ?_
            refine y_pfi rfl rfl rfl rfl ?_
            obtain ⟨U25, eU25⟩ : ∃ T : sS, T = uI U3 895 5 (Int32.ofInt (-2)) := ⟨_, rfl⟩
            rw [← eU25]
            have hHU25 : RI U25 := by rw [eU25]; exact RI_w hHU3
            have hFU25 : FR md_me_readThing__p S U25 := by rw [eU25]; exact FR.wI hFU3 (mdf_i (r := (895, 896, 5, 6)) (List.mem_of_getElem? (i := 0) rfl) (inR_i (by omega) (by omega) (by omega) (by omega)))
            have w184 : Xi U25 895 5 = (-2) := by rw [eU25]; exact Xi_same (by unfold rg; omega)
            refine y_aload_n rfl rfl ?_
            refine y_aload_n rfl rfl ?_
            refine y_gfi rfl rfl rfl rfl rfl ?_
            refine y_bipush rfl rfl ?_
            refine y_icmp_ne rfl rfl (by unfold rg; omega) (by unfold rg; omega) (fun w185 => ?_) (fun w186 => ?_)
            · refine y_iconst rfl ?_
              refine y_pfi rfl rfl rfl rfl ?_
              obtain ⟨U26, eU26⟩ : ∃ T : sS, T = uI U25 895 6 (Int32.ofInt (-1)) := ⟨_, rfl⟩
              rw [← eU26]
              have hHU26 : RI U26 := by rw [eU26]; exact RI_w hHU25
              have hFU26 : FR md_me_readThing__p S U26 := by rw [eU26]; exact FR.wI hFU25 (mdf_i (r := (895, 896, 6, 7)) (List.mem_of_getElem? (i := 1) rfl) (inR_i (by omega) (by omega) (by omega) (by omega)))
              have w187 : Xi U26 895 6 = (-1) := by rw [eU26]; exact Xi_same (by unfold rg; omega)
              refine y_iload rfl rfl ?_
              refine y_ireturn rfl rfl ?_
              have w188 : Xi U26 876 7 = Xi S 876 7 := (show Xi U26 876 7 = Xi U25 876 7 from by rw [eU26]; exact Xi_ne (by omega)).trans ( (show Xi U25 876 7 = Xi U3 876 7 from by rw [eU25]; exact Xi_ne (by omega)).trans ( (show Xi U3 876 7 = Xi U2 876 7 from by rw [eU3]; exact Xi_ne (by omega)).trans ( (show Xi U2 876 7 = Xi U1 876 7 from by rw [eU2]; exact Xi_ne (by omega)).trans ((show Xi U1 876 7 = Xi S 876 7 from by rw [eU1]; exact Xi_ne (by omega))))))
              have w189 : Xi U26 895 3 = Xi S 895 3 := (show Xi U26 895 3 = Xi U25 895 3 from by rw [eU26]; exact Xi_ne (by omega)).trans ( (show Xi U25 895 3 = Xi U3 895 3 from by rw [eU25]; exact Xi_ne (by omega)).trans ( (show Xi U3 895 3 = Xi U2 895 3 from by rw [eU3]; exact Xi_ne (by omega)).trans ( (show Xi U2 895 3 = Xi U1 895 3 from by rw [eU2]; exact Xi_ne (by omega)).trans ((show Xi U1 895 3 = Xi S 895 3 from by rw [eU1]; exact Xi_ne (by omega))))))
              have w190 : Xi U26 895 4 = Xi S 895 4 := (show Xi U26 895 4 = Xi U25 895 4 from by rw [eU26]; exact Xi_ne (by omega)).trans ( (show Xi U25 895 4 = Xi U3 895 4 from by rw [eU25]; exact Xi_ne (by omega)).trans ( (show Xi U3 895 4 = Xi U2 895 4 from by rw [eU3]; exact Xi_ne (by omega)).trans ( (show Xi U2 895 4 = Xi U1 895 4 from by rw [eU2]; exact Xi_ne (by omega)).trans ((show Xi U1 895 4 = Xi S 895 4 from by rw [eU1]; exact Xi_ne (by omega))))))
              have w191 : Xi U26 895 5 = Xi U25 895 5 := (show Xi U26 895 5 = Xi U25 895 5 from by rw [eU26]; exact Xi_ne (by omega))
              have w192 : Xi U26 895 7 = Xi U1 895 7 := (show Xi U26 895 7 = Xi U25 895 7 from by rw [eU26]; exact Xi_ne (by omega)).trans ( (show Xi U25 895 7 = Xi U3 895 7 from by rw [eU25]; exact Xi_ne (by omega)).trans ( (show Xi U3 895 7 = Xi U2 895 7 from by rw [eU3]; exact Xi_ne (by omega)).trans ((show Xi U2 895 7 = Xi U1 895 7 from by rw [eU2]; exact Xi_ne (by omega)))))
              exact ⟨hHU26, hFU26, _, rfl, ⟨by omega, by omega⟩, (by first | (have u := K168; first | exact rth_n k42 (by omega) rfl e146 (fnd_y hmv (by omega)) (by omega) (Or.inr ⟨by omega, by omega⟩) (by omega) | exact rth_n k42 (by omega) rfl e146 (fnd_n hmv (by omega)) (by omega) (Or.inl ⟨rfl, by omega⟩) (by omega)) | exact rth_s k42 e42 (by omega) (by omega) (by omega) rfl), (by omega)⟩
            · refine y_aload_n rfl rfl ?_
              refine y_gfi rfl rfl rfl rfl rfl ?_
              have w193 : (Xi U25 895 4) = (Xi S 895 4) := (show Xi U25 895 4 = Xi U3 895 4 from by rw [eU25]; exact Xi_ne (by omega)).trans ( (show Xi U3 895 4 = Xi U2 895 4 from by rw [eU3]; exact Xi_ne (by omega)).trans ( (show Xi U2 895 4 = Xi U1 895 4 from by rw [eU2]; exact Xi_ne (by omega)).trans ((show Xi U1 895 4 = Xi S 895 4 from by rw [eU1]; exact Xi_ne (by omega)))))
              rw [w193]
              refine y_goto rfl rfl ?_
              refine y_pfi rfl rfl rfl rfl ?_
              obtain ⟨U27, eU27⟩ : ∃ T : sS, T = uI U25 895 6 (Int32.ofInt (Xi S 895 4)) := ⟨_, rfl⟩
              rw [← eU27]
              have hHU27 : RI U27 := by rw [eU27]; exact RI_w hHU25
              have hFU27 : FR md_me_readThing__p S U27 := by rw [eU27]; exact FR.wI hFU25 (mdf_i (r := (895, 896, 6, 7)) (List.mem_of_getElem? (i := 1) rfl) (inR_i (by omega) (by omega) (by omega) (by omega)))
              have w194 : Xi U27 895 6 = (Xi S 895 4) := by rw [eU27]; exact Xi_same (by unfold rg; omega)
              refine y_iload rfl rfl ?_
              refine y_ireturn rfl rfl ?_
              have w195 : Xi U27 876 7 = Xi S 876 7 := (show Xi U27 876 7 = Xi U25 876 7 from by rw [eU27]; exact Xi_ne (by omega)).trans ( (show Xi U25 876 7 = Xi U3 876 7 from by rw [eU25]; exact Xi_ne (by omega)).trans ( (show Xi U3 876 7 = Xi U2 876 7 from by rw [eU3]; exact Xi_ne (by omega)).trans ( (show Xi U2 876 7 = Xi U1 876 7 from by rw [eU2]; exact Xi_ne (by omega)).trans ((show Xi U1 876 7 = Xi S 876 7 from by rw [eU1]; exact Xi_ne (by omega))))))
              have w196 : Xi U27 895 3 = Xi S 895 3 := (show Xi U27 895 3 = Xi U25 895 3 from by rw [eU27]; exact Xi_ne (by omega)).trans ( (show Xi U25 895 3 = Xi U3 895 3 from by rw [eU25]; exact Xi_ne (by omega)).trans ( (show Xi U3 895 3 = Xi U2 895 3 from by rw [eU3]; exact Xi_ne (by omega)).trans ( (show Xi U2 895 3 = Xi U1 895 3 from by rw [eU2]; exact Xi_ne (by omega)).trans ((show Xi U1 895 3 = Xi S 895 3 from by rw [eU1]; exact Xi_ne (by omega))))))
              have w197 : Xi U27 895 4 = Xi S 895 4 := (show Xi U27 895 4 = Xi U25 895 4 from by rw [eU27]; exact Xi_ne (by omega)).trans ( (show Xi U25 895 4 = Xi U3 895 4 from by rw [eU25]; exact Xi_ne (by omega)).trans ( (show Xi U3 895 4 = Xi U2 895 4 from by rw [eU3]; exact Xi_ne (by omega)).trans ( (show Xi U2 895 4 = Xi U1 895 4 from by rw [eU2]; exact Xi_ne (by omega)).trans ((show Xi U1 895 4 = Xi S 895 4 from by rw [eU1]; exact Xi_ne (by omega))))))
              have w198 : Xi U27 895 5 = Xi U25 895 5 := (show Xi U27 895 5 = Xi U25 895 5 from by rw [eU27]; exact Xi_ne (by omega))
              have w199 : Xi U27 895 7 = Xi U1 895 7 := (show Xi U27 895 7 = Xi U25 895 7 from by rw [eU27]; exact Xi_ne (by omega)).trans ( (show Xi U25 895 7 = Xi U3 895 7 from by rw [eU25]; exact Xi_ne (by omega)).trans ( (show Xi U3 895 7 = Xi U2 895 7 from by rw [eU3]; exact Xi_ne (by omega)).trans ((show Xi U2 895 7 = Xi U1 895 7 from by rw [eU2]; exact Xi_ne (by omega)))))
              exact ⟨hHU27, hFU27, _, rfl, ⟨by omega, by omega⟩, (by first | (have u := K168; first | exact rth_n k42 (by omega) rfl e146 (fnd_y hmv (by omega)) (by omega) (Or.inr ⟨by omega, by omega⟩) (by omega) | exact rth_n k42 (by omega) rfl e146 (fnd_n hmv (by omega)) (by omega) (Or.inl ⟨rfl, by omega⟩) (by omega)) | exact rth_s k42 e42 (by omega) (by omega) (by omega) rfl), (by omega)⟩
  refine y_aload_n rfl rfl ?_
  refine y_gfr rfl rfl rfl rfl rfl (hH.r 895 0 876 rfl) ?_
  refine y_iload_n rfl rfl ?_
  refine y_callV rfl rfl rfl (t_to_typeAt__p hH from_ ⟨by omega, by omega⟩ _) ?_
  rintro _ _ ⟨rfl, z201, rfl, w201, g5, w200⟩
  show Pl _ _ _ _ _ _ [iv z201] _ _
  have gq5 := g5
  refine y_istore_n rfl rfl rfl ?_
  refine y_iload_n rfl rfl ?_
  refine y_iconst rfl ?_
  refine y_iadd rfl ?_
  refine y_istore rfl rfl rfl ?_
  refine y_iload_n rfl rfl ?_
  refine y_iconst rfl ?_
  refine y_icmp_ne rfl rfl (by unfold rg; omega) (by unfold rg; omega) (fun w202 => ?_) (fun w203 => ?_)
  · exact Pl_weak (C42 (z201) ((from_ + 1)) (by omega) (by omega) (by unfold thk; first | (rw [if_pos ⟨by omega, by omega⟩]) | (rw [if_neg (by omega)]; omega)) (by unfold the7; first | (rw [if_pos ⟨by omega, by omega⟩]) | (rw [if_neg (by omega)])) (by omega)) (by omega) (And.intro rfl (And.intro rfl (And.intro rfl (And.intro rfl (And.intro rfl (True.intro))))))
  · refine y_aload_n rfl rfl ?_
    refine y_gfr rfl rfl rfl rfl rfl (hH.r 895 0 876 rfl) ?_
    refine y_iload_n rfl rfl ?_
    refine y_iconst rfl ?_
    refine y_iadd rfl ?_
    refine y_callV rfl rfl rfl (t_to_typeAt__p hH (from_ + 1) ⟨by omega, by omega⟩ _) ?_
    rintro _ _ ⟨rfl, z205, rfl, w205, g26, w204⟩
    show Pl _ _ _ _ _ _ [iv z205] _ _
    have gq26 := g26
    refine y_bipush rfl rfl ?_
    refine y_icmp_ne rfl rfl (by unfold rg; omega) (by unfold rg; omega) (fun w206 => ?_) (fun w207 => ?_)
    · exact Pl_weak (C42 (z201) ((from_ + 1)) (by omega) (by omega) (by unfold thk; first | (rw [if_pos ⟨by omega, by omega⟩]) | (rw [if_neg (by omega)]; omega)) (by unfold the7; first | (rw [if_pos ⟨by omega, by omega⟩]) | (rw [if_neg (by omega)])) (by omega)) (by omega) (And.intro rfl (And.intro rfl (And.intro rfl (And.intro rfl (And.intro rfl (True.intro))))))
    · refine y_bipush rfl rfl ?_
      refine y_istore_n rfl rfl rfl ?_
      refine y_iload_n rfl rfl ?_
      refine y_iconst rfl ?_
      refine y_iadd rfl ?_
      refine y_istore rfl rfl rfl ?_
      exact Pl_weak (C42 (53) ((from_ + 2)) (by omega) (by omega) (by unfold thk; first | (rw [if_pos ⟨by omega, by omega⟩]) | (rw [if_neg (by omega)]; omega)) (by unfold the7; first | (rw [if_pos ⟨by omega, by omega⟩]) | (rw [if_neg (by omega)])) (by omega)) (by omega) (And.intro rfl (And.intro rfl (And.intro rfl (And.intro rfl (And.intro rfl (True.intro))))))
end
section
/-! tests of the class: sayings -/
def vs7 (S : sS) (i : Int) : Int := if ty7 S i = 100 then fnd S 13 i (i + 1) else -1
def rs7 (S : sS) (i : Int) : Int := Xi S 18 (vs7 S i).toNat
def qsA (S : sS) (a i : Int) : Prop := wheC S a i = i ∧ isK S (whkC S a i) (Xi S 14 (rs7 S i).toNat) ≠ 0 ∧ whoC S a i ≠ -1
def qsC (S : sS) (a b i : Int) : Prop := vs7 S i ≠ -1 ∧ qsA S a i ∧ wheC S (i + 1) b = b ∧ isK S (whkC S (i + 1) b) (Xi S 15 (rs7 S i).toNat) ≠ 0
noncomputable def cnS (S : sS) (a b : Int) : Nat → Int
  | 0 => 0
  | n + 1 => @ite Int (qsC S a b (a + n)) (Classical.propDecidable _) (cnS S a b n + 1) (cnS S a b n)
noncomputable def psS (S : sS) (a b : Int) : Nat → Int
  | 0 => -1
  | n + 1 => @ite Int (qsC S a b (a + n)) (Classical.propDecidable _) (a + n) (psS S a b n)
def CLS (T : sS) (cl : Nat) (r w x : Int) : Prop := Xi T (276 + cl) 3 = r ∧ Xi T (276 + cl) 2 = w ∧ Xi T (276 + cl) 6 = x
def SYC (S T : sS) (cl : Nat) (a b i c : Int) : Prop := c = cnS S a b (i - a).toNat ∧ 0 ≤ c ∧ c ≤ i - a ∧ Xi T (276 + cl) 0 = 6 ∧ KCL S T cl ∧
  (0 < c → a ≤ psS S a b (i - a).toNat ∧ psS S a b (i - a).toNat < i ∧ qsC S a b (psS S a b (i - a).toNat) ∧ CLS T cl (rs7 S (psS S a b (i - a).toNat)) (whoC S a (psS S a b (i - a).toNat)) (whoC S (psS S a b (i - a).toNat + 1) b))
theorem syc_0 {S T : sS} {cl : Nat} {a b : Int} (h6 : Xi T (276 + cl) 0 = 6) (k : KCL S T cl) : SYC S T cl a b a 0 := by
  rw [SYC, show (a - a).toNat = 0 by omega]
  exact ⟨rfl, by omega, by omega, h6, k, fun q => absurd q (by omega)⟩
theorem syc_n {S T U : sS} {cl : Nat} {a b i c : Int} (h : SYC S T cl a b i c) (hi : a ≤ i) (q : ¬ qsC S a b i) (k : ∀ j, Xi U (276 + cl) j = Xi T (276 + cl) j) (kk : KCL T U cl) : SYC S U cl a b (i + 1) c := by
  obtain ⟨h1, h2, h3, h4, h5, h6⟩ := h
  have q2 : ¬ qsC S a b (a + ((i - a).toNat : Int)) := by rw [show a + ((i - a).toNat : Int) = i by omega]; exact q
  have e2 : psS S a b ((i - a).toNat + 1) = psS S a b (i - a).toNat := by rw [psS, if_neg q2]
  rw [SYC, show (i + 1 - a).toNat = (i - a).toNat + 1 by omega, e2]
  refine ⟨by rw [cnS, if_neg q2]; exact h1, h2, by omega, (k 0).trans h4, kcl_tr h5 kk, fun w => ?_⟩
  have u := h6 w
  exact ⟨u.1, by omega, u.2.2.1, (k 3).trans u.2.2.2.1, (k 2).trans u.2.2.2.2.1, (k 6).trans u.2.2.2.2.2⟩
theorem syc_y {S T U : sS} {cl : Nat} {a b i c : Int} (h : SYC S T cl a b i c) (hi : a ≤ i) (q : qsC S a b i) (f : Xi U (276 + cl) 0 = Xi T (276 + cl) 0) (s : CLS U cl (rs7 S i) (whoC S a i) (whoC S (i + 1) b)) (kk : KCL T U cl) : SYC S U cl a b (i + 1) (c + 1) := by
  obtain ⟨h1, h2, h3, h4, h5, h6⟩ := h
  have q2 : qsC S a b (a + ((i - a).toNat : Int)) := by rw [show a + ((i - a).toNat : Int) = i by omega]; exact q
  have e2 : psS S a b ((i - a).toNat + 1) = i := by rw [psS, if_pos q2]; omega
  rw [SYC, show (i + 1 - a).toNat = (i - a).toNat + 1 by omega, e2]
  exact ⟨by rw [cnS, if_pos q2, h1], by omega, by omega, f.trans h4, kcl_tr h5 kk, fun _ => ⟨hi, by omega, q, s⟩⟩
def SYO (S S1 : sS) (cl : Nat) (a b z : Int) : Prop := Xi S1 (276 + cl) 0 = 6 ∧ KCL S S1 cl ∧
  (cnS S a b (b - a).toNat ≠ 1 → z = 0 ∧ FTO S S1 (if cnS S a b (b - a).toNat = 0 then 4 else 7) a) ∧
  (cnS S a b (b - a).toNat = 1 → z = 1 ∧ Xi S1 876 8 = Xi S 876 8 ∧ SYC S S1 cl a b b 1)
theorem rth_F {l : List rec} {S P U : sS} {a b z : Int} (h : FR l S P) (e1 : (kdis l [(877, 878)] && !(mdf l 876 7)) = true) (e2 : (kdis l kA && !(mdf l 1 3)) = true) (e3 : mdf l 895 3 = false) (e4 : mdf l 895 4 = false) (e5 : kdis l [(21, 22)] = true) (o : RTH P U a b z) : RTH S U a b z := by
  have t := ty7_F h e1
  have r : ∀ x y, ruF P x y = ruF S x y := fun _ _ => ruF_FR h e1
  have f : ∀ s x y, fnd P s x y = fnd S s x y := fun _ _ _ => fnd_FR h e2
  have k : ∀ j, Xi P 21 j = Xi S 21 j := fun j => (h.smk e5).x 21 rfl j
  unfold RTH whoC whkC whrC wheC at o ⊢
  rw [t, r, f, k, h.x 895 3 e3, h.x 895 4 e4] at o
  exact o

def md_rr_saying__p : List rec := [(276, 876, 0, 1), (276, 876, 2, 3), (276, 876, 3, 4), (276, 876, 6, 7), (876, 877, 8, 9), (876, 877, 9, 10), (895, 896, 5, 6), (895, 896, 6, 7), (895, 896, 7, 8)]
abbrev Q_rr_saying__p (S : sS) (from_ : Int) (to : Int) (cl : Nat) : pst := fun r S1 => RI S1 ∧ FR md_rr_saying__p S S1 ∧ (∃ z : Int, r = some (iv z) ∧ (0 ≤ z ∧ z ≤ 1) ∧ (SYO S S1 cl from_ to z))
set_option maxRecDepth 100000 in
theorem t_rr_saying__p {S : sS} (hH : RI S) (from_ : Int) (to : Int) (cl : Nat) (hfrom_ : 0 ≤ from_ ∧ from_ ≤ 5130) (hto : 0 ≤ to ∧ to ≤ 5130) (hcl : cl < 600) (h13 : 0 ≤ Xi S 1 3 ∧ Xi S 1 3 ≤ 200) (hCE : CEN S) (hf : Xi S 876 8 = 0) (hr : Xi S 876 7 ≤ 5130) (hft : from_ ≤ to) (d : Nat) : Mp lay0 (d + 3) m_rr_saying [.ref 899, iv from_, iv to, .ref (276 + cl)] S (Q_rr_saying__p S from_ to cl) := by
  refine Mp_R rfl rfl (fun fu => ?_)
  have hF : FR md_rr_saying__p S S := FR.rf
  have w1 : -2147483648 ≤ Xi S 1 3 ∧ Xi S 1 3 ≤ 2147483647 := Xi_rgI
  have w2 : -2147483648 ≤ Xi S 876 7 ∧ Xi S 876 7 ≤ 2147483647 := Xi_rgI
  have w3 : -2147483648 ≤ Xi S 876 8 ∧ Xi S 876 8 ≤ 2147483647 := Xi_rgI
  have w4 : -2147483648 ≤ Xi S 895 5 ∧ Xi S 895 5 ≤ 2147483647 := Xi_rgI
  have w5 : -2147483648 ≤ Xi S 895 6 ∧ Xi S 895 6 ≤ 2147483647 := Xi_rgI
  have C12 : ∀ (n12 : Nat) (_ : n12 ≤ fu) (T1 : sS) (_ : RI T1) (_ : FR md_rr_saying__p S T1) (v4 : Int) (v5 : Int), (0 ≤ v4 ∧ v4 ≤ 5130) → (0 ≤ v5 ∧ v5 ≤ 5130) → (from_ ≤ v5 ∧ v5 ≤ to) → (0 ≤ v4 ∧ v4 ≤ v5 - from_) → (Hid (SYC S T1 cl from_ to v5 v4)) → (Xi T1 876 8 = 0) → Pl n12 lay0 (d + 2) m_rr_saying 12 [(0, .ref 899), (1, iv from_), (2, iv to), (3, .ref (276 + cl)), (4, iv v4), (5, iv v5)] [] T1 (Q_rr_saying__p S from_ to cl) := by
    intro n12
    induction n12 with
    | zero => intros; exact Pl_0
    | succ n12 ih12 =>
      intro hm12 T1 hHT1 hFT1 v4 v5 w6 w7 w8 w9 S12 w10
      have w11 : Xi T1 1 3 = Xi S 1 3 := hFT1.x _ _ rfl
      have w12 : Xi T1 876 7 = Xi S 876 7 := hFT1.x _ _ rfl
      have w13 : Xi T1 895 4 = Xi S 895 4 := hFT1.x _ _ rfl
      have w14 : -2147483648 ≤ Xi T1 876 8 ∧ Xi T1 876 8 ≤ 2147483647 := Xi_rgI
      have w15 : -2147483648 ≤ Xi T1 895 5 ∧ Xi T1 895 5 ≤ 2147483647 := Xi_rgI
      have w16 : -2147483648 ≤ Xi T1 895 6 ∧ Xi T1 895 6 ≤ 2147483647 := Xi_rgI
      refine ys_iload rfl rfl ?_
      refine y_iload_n rfl rfl ?_
      refine y_icmp_ge rfl rfl (by unfold rg; omega) (by unfold rg; omega) (fun w17 => ?_) (fun w18 => ?_)
      · refine y_iload rfl rfl ?_
        have S218 : Hid (SYC S T1 cl from_ to to v4) := by have u := S12; rw [show v5 = to by omega] at u; exact u
        have c218 : v4 = cnS S from_ to (to - from_).toNat := S218.o.1
        refine y_iconst rfl ?_
        refine y_icmp_eq rfl rfl (by unfold rg; omega) (by unfold rg; omega) (fun w19 => ?_) (fun w20 => ?_)
        · refine y_iconst rfl ?_
          refine y_goto rfl rfl ?_
          refine y_ireturn rfl rfl ?_
          exact ⟨hHT1, hFT1, _, rfl, ⟨by omega, by omega⟩, (by first | (have u := Y240; exact ⟨(G240 0).trans S218.o.2.2.2.1, kcl_tr S218.o.2.2.2.2.1 K240, fun _ => ⟨by omega, by rw [← c218]; first | (rw [if_pos (by omega)]; exact Y240) | (rw [if_neg (by omega)]; exact Y240)⟩, fun q => absurd (c218.trans q) (by omega)⟩) | exact ⟨S218.o.2.2.2.1, S218.o.2.2.2.2.1, fun q => absurd (c218.symm.trans (by omega)) q, fun _ => ⟨by omega, by omega, by have u := S218.o; rw [show v4 = 1 by omega] at u; exact u⟩⟩)⟩
        · refine y_aload_n rfl rfl ?_
          refine y_gfr rfl rfl rfl rfl rfl (hHT1.r 899 0 876 rfl) ?_
          refine y_iload rfl rfl ?_
          refine y_if_ne rfl rfl (by unfold rg; omega) (fun w21 => ?_) (fun w22 => ?_)
          · refine y_bipush rfl rfl ?_
            refine y_iload_n rfl rfl ?_
            refine y_callV rfl rfl rfl (t_to_wrong__p hHT1 7 from_ ⟨by omega, by omega⟩ ⟨by omega, by omega⟩ _) ?_
            rintro _ T2 ⟨hHT2, w26, z25, rfl, w25, w23, f240, w24⟩
            have hFT2 : FR md_rr_saying__p S T2 := FR.tr hFT1 w26 rfl
            show Pl _ _ _ _ _ _ [iv z25] _ _
            have F240 := (by assumption : FR md_to_wrong__p T1 T2)
            have Y240 : FTO S T2 _ from_ := (by have u := f240 (by omega); exact ⟨u.1, u.2.trans (pc7_FR hFT1 rfl rfl rfl _)⟩)
            have G240 : ∀ j, Xi T2 (276 + cl) j = Xi T1 (276 + cl) j := cl_keep F240 rfl hcl
            have K240 : KCL T1 T2 cl := kcl_f F240 rfl KCL.rf
            refine y_if_eq rfl rfl (by unfold rg; omega) (fun w27 => ?_) (fun w28 => ?_)
            · refine y_iconst rfl ?_
              refine y_ireturn rfl rfl ?_
              have w29 : Xi T2 895 5 = Xi T1 895 5 := (show Xi T2 895 5 = Xi T1 895 5 from w26.x _ _ rfl)
              have w30 : Xi T2 895 6 = Xi T1 895 6 := (show Xi T2 895 6 = Xi T1 895 6 from w26.x _ _ rfl)
              exact ⟨hHT2, hFT2, _, rfl, ⟨by omega, by omega⟩, (by first | (have u := Y240; exact ⟨(G240 0).trans S218.o.2.2.2.1, kcl_tr S218.o.2.2.2.2.1 K240, fun _ => ⟨by omega, by rw [← c218]; first | (rw [if_pos (by omega)]; exact Y240) | (rw [if_neg (by omega)]; exact Y240)⟩, fun q => absurd (c218.trans q) (by omega)⟩) | exact ⟨S218.o.2.2.2.1, S218.o.2.2.2.2.1, fun q => absurd (c218.symm.trans (by omega)) q, fun _ => ⟨by omega, by omega, by have u := S218.o; rw [show v4 = 1 by omega] at u; exact u⟩⟩)⟩
            · refine y_iconst rfl ?_
              refine y_goto rfl rfl ?_
              refine y_ireturn rfl rfl ?_
              have w31 : Xi T2 895 5 = Xi T1 895 5 := (show Xi T2 895 5 = Xi T1 895 5 from w26.x _ _ rfl)
              have w32 : Xi T2 895 6 = Xi T1 895 6 := (show Xi T2 895 6 = Xi T1 895 6 from w26.x _ _ rfl)
              exact ⟨hHT2, hFT2, _, rfl, ⟨by omega, by omega⟩, (by first | (have u := Y240; exact ⟨(G240 0).trans S218.o.2.2.2.1, kcl_tr S218.o.2.2.2.2.1 K240, fun _ => ⟨by omega, by rw [← c218]; first | (rw [if_pos (by omega)]; exact Y240) | (rw [if_neg (by omega)]; exact Y240)⟩, fun q => absurd (c218.trans q) (by omega)⟩) | exact ⟨S218.o.2.2.2.1, S218.o.2.2.2.2.1, fun q => absurd (c218.symm.trans (by omega)) q, fun _ => ⟨by omega, by omega, by have u := S218.o; rw [show v4 = 1 by omega] at u; exact u⟩⟩)⟩
          · refine y_iconst rfl ?_
            refine y_goto rfl rfl ?_
            refine y_iload_n rfl rfl ?_
            refine y_callV rfl rfl rfl (t_to_wrong__p hHT1 4 from_ ⟨by omega, by omega⟩ ⟨by omega, by omega⟩ _) ?_
            rintro _ T3 ⟨hHT3, w36, z35, rfl, w35, w33, f240, w34⟩
            have hFT3 : FR md_rr_saying__p S T3 := FR.tr hFT1 w36 rfl
            show Pl _ _ _ _ _ _ [iv z35] _ _
            have F240 := (by assumption : FR md_to_wrong__p T1 T3)
            have Y240 : FTO S T3 _ from_ := (by have u := f240 (by omega); exact ⟨u.1, u.2.trans (pc7_FR hFT1 rfl rfl rfl _)⟩)
            have G240 : ∀ j, Xi T3 (276 + cl) j = Xi T1 (276 + cl) j := cl_keep F240 rfl hcl
            have K240 : KCL T1 T3 cl := kcl_f F240 rfl KCL.rf
            refine y_if_eq rfl rfl (by unfold rg; omega) (fun w37 => ?_) (fun w38 => ?_)
            · refine y_iconst rfl ?_
              refine y_ireturn rfl rfl ?_
              have w39 : Xi T3 895 5 = Xi T1 895 5 := (show Xi T3 895 5 = Xi T1 895 5 from w36.x _ _ rfl)
              have w40 : Xi T3 895 6 = Xi T1 895 6 := (show Xi T3 895 6 = Xi T1 895 6 from w36.x _ _ rfl)
              exact ⟨hHT3, hFT3, _, rfl, ⟨by omega, by omega⟩, (by first | (have u := Y240; exact ⟨(G240 0).trans S218.o.2.2.2.1, kcl_tr S218.o.2.2.2.2.1 K240, fun _ => ⟨by omega, by rw [← c218]; first | (rw [if_pos (by omega)]; exact Y240) | (rw [if_neg (by omega)]; exact Y240)⟩, fun q => absurd (c218.trans q) (by omega)⟩) | exact ⟨S218.o.2.2.2.1, S218.o.2.2.2.2.1, fun q => absurd (c218.symm.trans (by omega)) q, fun _ => ⟨by omega, by omega, by have u := S218.o; rw [show v4 = 1 by omega] at u; exact u⟩⟩)⟩
            · refine y_iconst rfl ?_
              refine y_goto rfl rfl ?_
              refine y_ireturn rfl rfl ?_
              have w41 : Xi T3 895 5 = Xi T1 895 5 := (show Xi T3 895 5 = Xi T1 895 5 from w36.x _ _ rfl)
              have w42 : Xi T3 895 6 = Xi T1 895 6 := (show Xi T3 895 6 = Xi T1 895 6 from w36.x _ _ rfl)
              exact ⟨hHT3, hFT3, _, rfl, ⟨by omega, by omega⟩, (by first | (have u := Y240; exact ⟨(G240 0).trans S218.o.2.2.2.1, kcl_tr S218.o.2.2.2.2.1 K240, fun _ => ⟨by omega, by rw [← c218]; first | (rw [if_pos (by omega)]; exact Y240) | (rw [if_neg (by omega)]; exact Y240)⟩, fun q => absurd (c218.trans q) (by omega)⟩) | exact ⟨S218.o.2.2.2.1, S218.o.2.2.2.2.1, fun q => absurd (c218.symm.trans (by omega)) q, fun _ => ⟨by omega, by omega, by have u := S218.o; rw [show v4 = 1 by omega] at u; exact u⟩⟩)⟩
      · refine y_aload_n rfl rfl ?_
        refine y_gfr rfl rfl rfl rfl rfl (hHT1.r 899 0 876 rfl) ?_
        refine y_iload rfl rfl ?_
        refine y_callV rfl rfl rfl (t_to_typeAt__p hHT1 v5 ⟨by omega, by omega⟩ _) ?_
        rintro _ _ ⟨rfl, z44, rfl, w44, g24, w43⟩
        show Pl _ _ _ _ _ _ [iv z44] _ _
        have gq24 := g24
        rw [FRT hFT1 rfl rfl] at gq24
        have t24 : ty7 S v5 = z44 := by have u := g24; rw [ty7_F hFT1 rfl] at u; exact u
        refine y_bipush rfl rfl ?_
        refine y_icmp_ne rfl rfl (by unfold rg; omega) (by unfold rg; omega) (fun w45 => ?_) (fun w46 => ?_)
        · refine y_iconst rfl ?_
          refine y_istore rfl rfl rfl ?_
          have V51 : (-1) = vs7 S v5 := by unfold vs7; first | (have u := K44; rw [if_pos (by omega)]; exact u44) | (rw [if_neg (by omega)])
          refine y_iload rfl rfl ?_
          refine y_iconst rfl ?_
          refine y_icmp_ne rfl rfl (by unfold rg; omega) (by unfold rg; omega) (fun w47 => absurd w47 (by omega)) (fun w48 => ?_)
          · refine y_goto rfl rfl ?_
            refine y_iinc rfl rfl rfl rfl ?_
            have C212 : Hid (SYC S T1 cl from_ to (v5 + 1) v4) := by first | (have u := q206; exact syc_y S12.o (by omega) q206 x206 s206 c206) | (have u := K180; exact syc_n S12.o (by omega) (fun q => q.2.2.2 (by rw [← k180]; omega)) k142.o c142.o) | (have u := K142; first | exact syc_n S12.o (by omega) (fun q => W131.o.2 (by omega) q.2.1) k142.o c142.o | exact syc_n S12.o (by omega) (fun q => by have a := q.2.2.1; have b := R142.2.2.2; omega) k142.o c142.o) | exact syc_n S12.o (by omega) (fun q => q.1 (V51.symm.trans (by omega))) (fun _ => rfl) KCL.rf
            refine y_goto rfl rfl ?_
            exact Pl_weak (ih12 (by omega) T1 hHT1 hFT1 (v4) ((v5 + 1)) (by omega) (by omega) (by omega) (by omega) (by first | exact C212 | exact syc_0 (by rw [e6]; exact Xi_same (by unfold rg; omega)) (kcl_w e6 KCL.rf)) (by omega)) (by omega) (And.intro rfl (And.intro rfl (And.intro rfl (And.intro rfl (And.intro rfl (And.intro rfl (True.intro)))))))
        · refine y_aload_n rfl rfl ?_
          refine y_gfr rfl rfl rfl rfl rfl (hHT1.r 899 2 895 rfl) ?_
          refine y_bipush rfl rfl ?_
          refine y_iload rfl rfl ?_
          refine y_iload rfl rfl ?_
          refine y_iconst rfl ?_
          refine y_iadd rfl ?_
          refine y_callV rfl rfl rfl (t_me_find__p hHT1 13 v5 (v5 + 1) ⟨by omega, by omega⟩ ⟨by omega, by omega⟩ ⟨by omega, by omega⟩ (by first | assumption | omega) (by first | assumption | exact (CEN_FR hFT1 rfl rfl (by assumption : CEN S))) _) ?_
          rintro _ _ ⟨rfl, z49, rfl, w49, v44⟩
          show Pl _ _ _ _ _ _ [iv z49] _ _
          have K44 : True := trivial
          have u44 := v44.trans (fnd_FR hFT1 rfl)
          clear v44
          refine y_goto rfl rfl ?_
          refine y_istore rfl rfl rfl ?_
          have V51 : z49 = vs7 S v5 := by unfold vs7; first | (have u := K44; rw [if_pos (by omega)]; exact u44) | (rw [if_neg (by omega)])
          refine y_iload rfl rfl ?_
          refine y_iconst rfl ?_
          refine y_icmp_ne rfl rfl (by unfold rg; omega) (by unfold rg; omega) (fun w50 => ?_) (fun w51 => ?_)
          · refine y_aload_n rfl rfl ?_
            refine y_gfr rfl rfl rfl rfl rfl (hHT1.r 899 1 1 rfl) ?_
            refine y_gfr rfl rfl rfl rfl rfl (hHT1.r 1 17 18 rfl) ?_
            refine y_iload rfl rfl ?_
            refine y_ialoadP (n := 8) rfl rfl (by unfold rg; omega) (fun w52 w53 => ?_)
            have w54 : -2147483648 ≤ (Xi T1 18 ((z49).toNat)) ∧ (Xi T1 18 ((z49).toNat)) ≤ 2147483647 := Xi_rgI
            refine y_istore rfl rfl rfl ?_
            have r72 : (Xi T1 18 ((z49).toNat)) = rs7 S v5 := by show Xi T1 18 _ = Xi S 18 (vs7 S v5).toNat; rw [(hFT1.cx 18 rfl _).1, V51]
            refine y_aload_n rfl rfl ?_
            refine y_gfr rfl rfl rfl rfl rfl (hHT1.r 899 2 895 rfl) ?_
            refine y_iload_n rfl rfl ?_
            refine y_iload rfl rfl ?_
            refine y_callV rfl rfl rfl (t_me_readThing__p hHT1 from_ v5 ⟨by omega, by omega⟩ ⟨by omega, by omega⟩ (by first | assumption | omega) (by first | assumption | exact (CEN_FR hFT1 rfl rfl (by assumption : CEN S))) (by first | assumption | omega) _) ?_
            rintro _ T4 ⟨hHT4, w57, z56, rfl, w56, o81, w55⟩
            have hFT4 : FR md_rr_saying__p S T4 := FR.tr hFT1 w57 rfl
            show Pl _ _ _ _ _ _ [iv z56] _ _
            have R81 := rth_F hFT1 rfl rfl rfl rfl rfl  o81
            clear o81
            have F81 := (by assumption : FR md_me_readThing__p T1 T4)
            refine y_istore rfl rfl rfl ?_
            refine y_iload rfl rfl ?_
            refine y_iload rfl rfl ?_
            refine y_icmp_ne rfl rfl (by unfold rg; omega) (by unfold rg; omega) (fun w58 => ?_) (fun w59 => ?_)
            · refine y_iconst rfl ?_
              refine y_istore rfl rfl rfl ?_
              have W131 : Hid (((-1) ≠ (-1 : Int) → wheC S from_ v5 = v5 ∧ isK S (whkC S from_ v5) (Xi S 14 (rs7 S v5).toNat) ≠ 0 ∧ (-1) = whoC S from_ v5) ∧ ((-1) = (-1 : Int) → ¬ qsA S from_ v5)) := by have u8 := R81.2.2.2; have u5 := R81.1; first | (have u := K114; first | exact ⟨fun q => absurd rfl q, fun _ w => w.2.1 (by rw [← k114]; omega)⟩ | exact ⟨fun q => ⟨by omega, by rw [← k114]; omega, u5⟩, fun q w => w.2.2 (by rw [← u5]; exact q)⟩) | exact ⟨fun q => absurd rfl q, fun _ w => by have := w.1; omega⟩
              refine y_aload_n rfl rfl ?_
              refine y_gfr rfl rfl rfl rfl rfl (hHT4.r 899 2 895 rfl) ?_
              refine y_iload rfl rfl ?_
              refine y_iconst rfl ?_
              refine y_iadd rfl ?_
              refine y_iload_n rfl rfl ?_
              have w60 : Xi T4 1 3 = Xi T1 1 3 := (show Xi T4 1 3 = Xi T1 1 3 from w57.x _ _ rfl)
              have w61 : Xi T4 876 7 = Xi T1 876 7 := (show Xi T4 876 7 = Xi T1 876 7 from w57.x _ _ rfl)
              have w62 : Xi T4 876 8 = Xi T1 876 8 := (show Xi T4 876 8 = Xi T1 876 8 from w57.x _ _ rfl)
              refine y_callV rfl rfl rfl (t_me_readThing__p hHT4 (v5 + 1) to ⟨by omega, by omega⟩ ⟨by omega, by omega⟩ (by first | assumption | omega) (by first | assumption | exact (CEN_FR hFT4 rfl rfl (by assumption : CEN S))) (by first | assumption | omega) _) ?_
              rintro _ T5 ⟨hHT5, w65, z64, rfl, w64, o142, w63⟩
              have hFT5 : FR md_rr_saying__p S T5 := FR.tr hFT4 w65 rfl
              show Pl _ _ _ _ _ _ [iv z64] _ _
              have K142 : True := trivial
              have R142 := rth_F hFT4 rfl rfl rfl rfl rfl  o142
              clear o142
              have F142 := (by assumption : FR md_me_readThing__p T4 T5)
              have k142 : Hid (∀ j, Xi T5 (276 + cl) j = Xi T1 (276 + cl) j) := fun j => (cl_keep F142 rfl hcl j).trans (cl_keep F81 rfl hcl j)
              have c142 : Hid (KCL T1 T5 cl) := kcl_f F142 rfl (kcl_f F81 rfl KCL.rf)
              refine y_istore rfl rfl rfl ?_
              refine y_iload rfl rfl ?_
              refine y_iconst rfl ?_
              refine y_icmp_eq rfl rfl (by unfold rg; omega) (by unfold rg; omega) (fun w66 => ?_) (fun w67 => absurd w67 (by omega))
              · refine y_iinc rfl rfl rfl rfl ?_
                have C212 : Hid (SYC S T5 cl from_ to (v5 + 1) v4) := by first | (have u := q206; exact syc_y S12.o (by omega) q206 x206 s206 c206) | (have u := K180; exact syc_n S12.o (by omega) (fun q => q.2.2.2 (by rw [← k180]; omega)) k142.o c142.o) | (have u := K142; first | exact syc_n S12.o (by omega) (fun q => W131.o.2 (by omega) q.2.1) k142.o c142.o | exact syc_n S12.o (by omega) (fun q => by have a := q.2.2.1; have b := R142.2.2.2; omega) k142.o c142.o) | exact syc_n S12.o (by omega) (fun q => q.1 (V51.symm.trans (by omega))) (fun _ => rfl) KCL.rf
                refine y_goto rfl rfl ?_
                have w68 : Xi T5 876 8 = Xi T1 876 8 := (show Xi T5 876 8 = Xi T4 876 8 from w65.x _ _ rfl).trans ((show Xi T4 876 8 = Xi T1 876 8 from w57.x _ _ rfl))
                exact Pl_weak (ih12 (by omega) T5 hHT5 hFT5 (v4) ((v5 + 1)) (by omega) (by omega) (by omega) (by omega) (by first | exact C212 | exact syc_0 (by rw [e6]; exact Xi_same (by unfold rg; omega)) (kcl_w e6 KCL.rf)) (by omega)) (by omega) (And.intro rfl (And.intro rfl (And.intro rfl (And.intro rfl (And.intro rfl (And.intro rfl (True.intro)))))))
            · refine y_aload_n rfl rfl ?_
              refine y_gfr rfl rfl rfl rfl rfl (hHT4.r 899 1 1 rfl) ?_
              refine y_aload_n rfl rfl ?_
              refine y_gfr rfl rfl rfl rfl rfl (hHT4.r 899 2 895 rfl) ?_
              refine y_gfi rfl rfl rfl rfl rfl ?_
              have w69 : -2147483648 ≤ (Xi T4 895 6) ∧ (Xi T4 895 6) ≤ 2147483647 := Xi_rgI
              refine y_aload_n rfl rfl ?_
              refine y_gfr rfl rfl rfl rfl rfl (hHT4.r 899 1 1 rfl) ?_
              refine y_gfr rfl rfl rfl rfl rfl (hHT4.r 1 13 14 rfl) ?_
              refine y_iload rfl rfl ?_
              refine y_ialoadP (n := 6) rfl rfl (by unfold rg; omega) (fun w70 w71 => ?_)
              have w72 : -2147483648 ≤ (Xi T4 14 (((Xi T1 18 ((z49).toNat))).toNat)) ∧ (Xi T4 14 (((Xi T1 18 ((z49).toNat))).toNat)) ≤ 2147483647 := Xi_rgI
              have w73 : Xi T4 876 8 = Xi T1 876 8 := (show Xi T4 876 8 = Xi T1 876 8 from w57.x _ _ rfl)
              refine y_callV rfl rfl rfl (t_vo_isKind__p hHT4 (Xi T4 895 6) (Xi T4 14 (((Xi T1 18 ((z49).toNat))).toNat)) ⟨by omega, by omega⟩ ⟨by omega, by omega⟩ _) ?_
              rintro _ _ ⟨rfl, z74, rfl, w74, q114⟩
              show Pl _ _ _ _ _ _ [iv z74] _ _
              have K114 : True := trivial
              have k114 : z74 = isK S (whkC S from_ v5) (Xi S 14 (rs7 S v5).toNat) := by have u := q114; rw [isK_F hFT4 rfl, R81.2.1, (hFT4.cx 14 rfl _).1, r72] at u; exact u
              clear q114
              refine y_if_eq rfl rfl (by unfold rg; omega) (fun w75 => ?_) (fun w76 => ?_)
              · refine y_iconst rfl ?_
                refine y_istore rfl rfl rfl ?_
                have W131 : Hid (((-1) ≠ (-1 : Int) → wheC S from_ v5 = v5 ∧ isK S (whkC S from_ v5) (Xi S 14 (rs7 S v5).toNat) ≠ 0 ∧ (-1) = whoC S from_ v5) ∧ ((-1) = (-1 : Int) → ¬ qsA S from_ v5)) := by have u8 := R81.2.2.2; have u5 := R81.1; first | (have u := K114; first | exact ⟨fun q => absurd rfl q, fun _ w => w.2.1 (by rw [← k114]; omega)⟩ | exact ⟨fun q => ⟨by omega, by rw [← k114]; omega, u5⟩, fun q w => w.2.2 (by rw [← u5]; exact q)⟩) | exact ⟨fun q => absurd rfl q, fun _ w => by have := w.1; omega⟩
                refine y_aload_n rfl rfl ?_
                refine y_gfr rfl rfl rfl rfl rfl (hHT4.r 899 2 895 rfl) ?_
                refine y_iload rfl rfl ?_
                refine y_iconst rfl ?_
                refine y_iadd rfl ?_
                refine y_iload_n rfl rfl ?_
                have w77 : Xi T4 1 3 = Xi T1 1 3 := (show Xi T4 1 3 = Xi T1 1 3 from w57.x _ _ rfl)
                have w78 : Xi T4 876 7 = Xi T1 876 7 := (show Xi T4 876 7 = Xi T1 876 7 from w57.x _ _ rfl)
                refine y_callV rfl rfl rfl (t_me_readThing__p hHT4 (v5 + 1) to ⟨by omega, by omega⟩ ⟨by omega, by omega⟩ (by first | assumption | omega) (by first | assumption | exact (CEN_FR hFT4 rfl rfl (by assumption : CEN S))) (by first | assumption | omega) _) ?_
                rintro _ T6 ⟨hHT6, w82, z81, rfl, w81, o142, w80⟩
                have hFT6 : FR md_rr_saying__p S T6 := FR.tr hFT4 w82 rfl
                show Pl _ _ _ _ _ _ [iv z81] _ _
                have K142 : True := trivial
                have R142 := rth_F hFT4 rfl rfl rfl rfl rfl  o142
                clear o142
                have F142 := (by assumption : FR md_me_readThing__p T4 T6)
                have k142 : Hid (∀ j, Xi T6 (276 + cl) j = Xi T1 (276 + cl) j) := fun j => (cl_keep F142 rfl hcl j).trans (cl_keep F81 rfl hcl j)
                have c142 : Hid (KCL T1 T6 cl) := kcl_f F142 rfl (kcl_f F81 rfl KCL.rf)
                refine y_istore rfl rfl rfl ?_
                refine y_iload rfl rfl ?_
                refine y_iconst rfl ?_
                refine y_icmp_eq rfl rfl (by unfold rg; omega) (by unfold rg; omega) (fun w83 => ?_) (fun w84 => absurd w84 (by omega))
                · refine y_iinc rfl rfl rfl rfl ?_
                  have C212 : Hid (SYC S T6 cl from_ to (v5 + 1) v4) := by first | (have u := q206; exact syc_y S12.o (by omega) q206 x206 s206 c206) | (have u := K180; exact syc_n S12.o (by omega) (fun q => q.2.2.2 (by rw [← k180]; omega)) k142.o c142.o) | (have u := K142; first | exact syc_n S12.o (by omega) (fun q => W131.o.2 (by omega) q.2.1) k142.o c142.o | exact syc_n S12.o (by omega) (fun q => by have a := q.2.2.1; have b := R142.2.2.2; omega) k142.o c142.o) | exact syc_n S12.o (by omega) (fun q => q.1 (V51.symm.trans (by omega))) (fun _ => rfl) KCL.rf
                  refine y_goto rfl rfl ?_
                  have w85 : Xi T6 876 8 = Xi T1 876 8 := (show Xi T6 876 8 = Xi T4 876 8 from w82.x _ _ rfl).trans ((show Xi T4 876 8 = Xi T1 876 8 from w57.x _ _ rfl))
                  exact Pl_weak (ih12 (by omega) T6 hHT6 hFT6 (v4) ((v5 + 1)) (by omega) (by omega) (by omega) (by omega) (by first | exact C212 | exact syc_0 (by rw [e6]; exact Xi_same (by unfold rg; omega)) (kcl_w e6 KCL.rf)) (by omega)) (by omega) (And.intro rfl (And.intro rfl (And.intro rfl (And.intro rfl (And.intro rfl (And.intro rfl (True.intro)))))))
              · refine y_aload_n rfl rfl ?_
                refine y_gfr rfl rfl rfl rfl rfl (hHT4.r 899 2 895 rfl) ?_
                refine y_gfi rfl rfl rfl rfl rfl ?_
                have w86 : -2147483648 ≤ (Xi T4 895 5) ∧ (Xi T4 895 5) ≤ 2147483647 := Xi_rgI
                refine y_goto rfl rfl ?_
                refine y_istore rfl rfl rfl ?_
                have W131 : Hid (((Xi T4 895 5) ≠ (-1 : Int) → wheC S from_ v5 = v5 ∧ isK S (whkC S from_ v5) (Xi S 14 (rs7 S v5).toNat) ≠ 0 ∧ (Xi T4 895 5) = whoC S from_ v5) ∧ ((Xi T4 895 5) = (-1 : Int) → ¬ qsA S from_ v5)) := by have u8 := R81.2.2.2; have u5 := R81.1; first | (have u := K114; first | exact ⟨fun q => absurd rfl q, fun _ w => w.2.1 (by rw [← k114]; omega)⟩ | exact ⟨fun q => ⟨by omega, by rw [← k114]; omega, u5⟩, fun q w => w.2.2 (by rw [← u5]; exact q)⟩) | exact ⟨fun q => absurd rfl q, fun _ w => by have := w.1; omega⟩
                refine y_aload_n rfl rfl ?_
                refine y_gfr rfl rfl rfl rfl rfl (hHT4.r 899 2 895 rfl) ?_
                refine y_iload rfl rfl ?_
                refine y_iconst rfl ?_
                refine y_iadd rfl ?_
                refine y_iload_n rfl rfl ?_
                have w87 : Xi T4 1 3 = Xi T1 1 3 := (show Xi T4 1 3 = Xi T1 1 3 from w57.x _ _ rfl)
                have w88 : Xi T4 876 7 = Xi T1 876 7 := (show Xi T4 876 7 = Xi T1 876 7 from w57.x _ _ rfl)
                refine y_callV rfl rfl rfl (t_me_readThing__p hHT4 (v5 + 1) to ⟨by omega, by omega⟩ ⟨by omega, by omega⟩ (by first | assumption | omega) (by first | assumption | exact (CEN_FR hFT4 rfl rfl (by assumption : CEN S))) (by first | assumption | omega) _) ?_
                rintro _ T7 ⟨hHT7, w92, z91, rfl, w91, o142, w90⟩
                have hFT7 : FR md_rr_saying__p S T7 := FR.tr hFT4 w92 rfl
                show Pl _ _ _ _ _ _ [iv z91] _ _
                have K142 : True := trivial
                have R142 := rth_F hFT4 rfl rfl rfl rfl rfl  o142
                clear o142
                have F142 := (by assumption : FR md_me_readThing__p T4 T7)
                have k142 : Hid (∀ j, Xi T7 (276 + cl) j = Xi T1 (276 + cl) j) := fun j => (cl_keep F142 rfl hcl j).trans (cl_keep F81 rfl hcl j)
                have c142 : Hid (KCL T1 T7 cl) := kcl_f F142 rfl (kcl_f F81 rfl KCL.rf)
                refine y_istore rfl rfl rfl ?_
                refine y_iload rfl rfl ?_
                refine y_iconst rfl ?_
                refine y_icmp_eq rfl rfl (by unfold rg; omega) (by unfold rg; omega) (fun w93 => ?_) (fun w94 => ?_)
                · refine y_iinc rfl rfl rfl rfl ?_
                  have C212 : Hid (SYC S T7 cl from_ to (v5 + 1) v4) := by first | (have u := q206; exact syc_y S12.o (by omega) q206 x206 s206 c206) | (have u := K180; exact syc_n S12.o (by omega) (fun q => q.2.2.2 (by rw [← k180]; omega)) k142.o c142.o) | (have u := K142; first | exact syc_n S12.o (by omega) (fun q => W131.o.2 (by omega) q.2.1) k142.o c142.o | exact syc_n S12.o (by omega) (fun q => by have a := q.2.2.1; have b := R142.2.2.2; omega) k142.o c142.o) | exact syc_n S12.o (by omega) (fun q => q.1 (V51.symm.trans (by omega))) (fun _ => rfl) KCL.rf
                  refine y_goto rfl rfl ?_
                  have w95 : Xi T7 876 8 = Xi T1 876 8 := (show Xi T7 876 8 = Xi T4 876 8 from w92.x _ _ rfl).trans ((show Xi T4 876 8 = Xi T1 876 8 from w57.x _ _ rfl))
                  exact Pl_weak (ih12 (by omega) T7 hHT7 hFT7 (v4) ((v5 + 1)) (by omega) (by omega) (by omega) (by omega) (by first | exact C212 | exact syc_0 (by rw [e6]; exact Xi_same (by unfold rg; omega)) (kcl_w e6 KCL.rf)) (by omega)) (by omega) (And.intro rfl (And.intro rfl (And.intro rfl (And.intro rfl (And.intro rfl (And.intro rfl (True.intro)))))))
                · refine y_iload rfl rfl ?_
                  refine y_iload_n rfl rfl ?_
                  refine y_icmp_ne rfl rfl (by unfold rg; omega) (by unfold rg; omega) (fun w96 => ?_) (fun w97 => ?_)
                  · refine y_iinc rfl rfl rfl rfl ?_
                    have C212 : Hid (SYC S T7 cl from_ to (v5 + 1) v4) := by first | (have u := q206; exact syc_y S12.o (by omega) q206 x206 s206 c206) | (have u := K180; exact syc_n S12.o (by omega) (fun q => q.2.2.2 (by rw [← k180]; omega)) k142.o c142.o) | (have u := K142; first | exact syc_n S12.o (by omega) (fun q => W131.o.2 (by omega) q.2.1) k142.o c142.o | exact syc_n S12.o (by omega) (fun q => by have a := q.2.2.1; have b := R142.2.2.2; omega) k142.o c142.o) | exact syc_n S12.o (by omega) (fun q => q.1 (V51.symm.trans (by omega))) (fun _ => rfl) KCL.rf
                    refine y_goto rfl rfl ?_
                    have w98 : Xi T7 876 8 = Xi T1 876 8 := (show Xi T7 876 8 = Xi T4 876 8 from w92.x _ _ rfl).trans ((show Xi T4 876 8 = Xi T1 876 8 from w57.x _ _ rfl))
                    exact Pl_weak (ih12 (by omega) T7 hHT7 hFT7 (v4) ((v5 + 1)) (by omega) (by omega) (by omega) (by omega) (by first | exact C212 | exact syc_0 (by rw [e6]; exact Xi_same (by unfold rg; omega)) (kcl_w e6 KCL.rf)) (by omega)) (by omega) (And.intro rfl (And.intro rfl (And.intro rfl (And.intro rfl (And.intro rfl (And.intro rfl (True.intro)))))))
                  · refine y_aload_n rfl rfl ?_
                    refine y_gfr rfl rfl rfl rfl rfl (hHT7.r 899 1 1 rfl) ?_
                    refine y_aload_n rfl rfl ?_
                    refine y_gfr rfl rfl rfl rfl rfl (hHT7.r 899 2 895 rfl) ?_
                    refine y_gfi rfl rfl rfl rfl rfl ?_
                    have w99 : -2147483648 ≤ (Xi T7 895 6) ∧ (Xi T7 895 6) ≤ 2147483647 := Xi_rgI
                    refine y_aload_n rfl rfl ?_
                    refine y_gfr rfl rfl rfl rfl rfl (hHT7.r 899 1 1 rfl) ?_
                    refine y_gfr rfl rfl rfl rfl rfl (hHT7.r 1 14 15 rfl) ?_
                    refine y_iload rfl rfl ?_
                    refine y_ialoadP (n := 6) rfl rfl (by unfold rg; omega) (fun w100 w101 => ?_)
                    have w102 : -2147483648 ≤ (Xi T7 15 (((Xi T1 18 ((z49).toNat))).toNat)) ∧ (Xi T7 15 (((Xi T1 18 ((z49).toNat))).toNat)) ≤ 2147483647 := Xi_rgI
                    have w103 : Xi T7 876 8 = Xi T1 876 8 := (show Xi T7 876 8 = Xi T4 876 8 from w92.x _ _ rfl).trans ((show Xi T4 876 8 = Xi T1 876 8 from w57.x _ _ rfl))
                    refine y_callV rfl rfl rfl (t_vo_isKind__p hHT7 (Xi T7 895 6) (Xi T7 15 (((Xi T1 18 ((z49).toNat))).toNat)) ⟨by omega, by omega⟩ ⟨by omega, by omega⟩ _) ?_
                    rintro _ _ ⟨rfl, z104, rfl, w104, q180⟩
                    show Pl _ _ _ _ _ _ [iv z104] _ _
                    have K180 : True := trivial
                    have k180 : z104 = isK S (whkC S (v5 + 1) to) (Xi S 15 (rs7 S v5).toNat) := by have u := q180; rw [isK_F hFT7 rfl, R142.2.1, (hFT7.cx 15 rfl _).1, r72] at u; exact u
                    clear q180
                    refine y_if_eq rfl rfl (by unfold rg; omega) (fun w105 => ?_) (fun w106 => ?_)
                    · refine y_iinc rfl rfl rfl rfl ?_
                      have C212 : Hid (SYC S T7 cl from_ to (v5 + 1) v4) := by first | (have u := q206; exact syc_y S12.o (by omega) q206 x206 s206 c206) | (have u := K180; exact syc_n S12.o (by omega) (fun q => q.2.2.2 (by rw [← k180]; omega)) k142.o c142.o) | (have u := K142; first | exact syc_n S12.o (by omega) (fun q => W131.o.2 (by omega) q.2.1) k142.o c142.o | exact syc_n S12.o (by omega) (fun q => by have a := q.2.2.1; have b := R142.2.2.2; omega) k142.o c142.o) | exact syc_n S12.o (by omega) (fun q => q.1 (V51.symm.trans (by omega))) (fun _ => rfl) KCL.rf
                      refine y_goto rfl rfl ?_
                      exact Pl_weak (ih12 (by omega) T7 hHT7 hFT7 (v4) ((v5 + 1)) (by omega) (by omega) (by omega) (by omega) (by first | exact C212 | exact syc_0 (by rw [e6]; exact Xi_same (by unfold rg; omega)) (kcl_w e6 KCL.rf)) (by omega)) (by omega) (And.intro rfl (And.intro rfl (And.intro rfl (And.intro rfl (And.intro rfl (And.intro rfl (True.intro)))))))
                    · refine y_aload_n rfl rfl ?_
                      refine y_iload rfl rfl ?_
                      refine y_pfi rfl rfl (layClW (by omega) rfl) rfl ?_
                      obtain ⟨U8, eU8⟩ : ∃ T : sS, T = uI T7 (276 + cl) 3 (Int32.ofInt (Xi T1 18 ((z49).toNat))) := ⟨_, rfl⟩
                      rw [← eU8]
                      have hHU8 : RI U8 := by rw [eU8]; exact RI_w hHT7
                      have hFU8 : FR md_rr_saying__p S U8 := by rw [eU8]; exact FR.wI hFT7 (mdf_i (r := (276, 876, 3, 4)) (List.mem_of_getElem? (i := 2) rfl) (inR_i (by omega) (by omega) (by omega) (by omega)))
                      have w108 : Xi U8 (276 + cl) 3 = (Xi T1 18 ((z49).toNat)) := by rw [eU8]; exact Xi_same (by unfold rg; omega)
                      have e189 := eU8
                      refine y_aload_n rfl rfl ?_
                      refine y_iload rfl rfl ?_
                      refine y_pfi rfl rfl (layClW (by omega) rfl) rfl ?_
                      obtain ⟨U9, eU9⟩ : ∃ T : sS, T = uI U8 (276 + cl) 2 (Int32.ofInt (Xi T4 895 5)) := ⟨_, rfl⟩
                      rw [← eU9]
                      have hHU9 : RI U9 := by rw [eU9]; exact RI_w hHU8
                      have hFU9 : FR md_rr_saying__p S U9 := by rw [eU9]; exact FR.wI hFU8 (mdf_i (r := (276, 876, 2, 3)) (List.mem_of_getElem? (i := 1) rfl) (inR_i (by omega) (by omega) (by omega) (by omega)))
                      have w109 : Xi U9 (276 + cl) 2 = (Xi T4 895 5) := by rw [eU9]; exact Xi_same (by unfold rg; omega)
                      have e195 := eU9
                      refine y_aload_n rfl rfl ?_
                      refine y_aload_n rfl rfl ?_
                      refine y_gfr rfl rfl rfl rfl rfl (hHU9.r 899 2 895 rfl) ?_
                      refine y_gfi rfl rfl rfl rfl rfl ?_
                      have w110 : -2147483648 ≤ (Xi U9 895 5) ∧ (Xi U9 895 5) ≤ 2147483647 := Xi_rgI
                      have w206 : (Xi U9 895 5) = whoC S (v5 + 1) to := by rw [e195, Xi_ne (by omega), e189, Xi_ne (by omega)]; exact R142.1
                      refine y_pfi rfl rfl (layClW (by omega) rfl) rfl ?_
                      obtain ⟨U10, eU10⟩ : ∃ T : sS, T = uI U9 (276 + cl) 6 (Int32.ofInt (Xi U9 895 5)) := ⟨_, rfl⟩
                      rw [← eU10]
                      have hHU10 : RI U10 := by rw [eU10]; exact RI_w hHU9
                      have hFU10 : FR md_rr_saying__p S U10 := by rw [eU10]; exact FR.wI hFU9 (mdf_i (r := (276, 876, 6, 7)) (List.mem_of_getElem? (i := 3) rfl) (inR_i (by omega) (by omega) (by omega) (by omega)))
                      have w111 : Xi U10 (276 + cl) 6 = (Xi U9 895 5) := by rw [eU10]; exact Xi_same (by unfold rg; omega)
                      have e206 := eU10
                      have x206 : Xi U10 (276 + cl) 0 = Xi T1 (276 + cl) 0 := by rw [e206, Xi_ne (by omega), e195, Xi_ne (by omega), e189, Xi_ne (by omega)]; exact k142.o 0
                      have s206 : CLS U10 cl (rs7 S v5) (whoC S from_ v5) (whoC S (v5 + 1) to) := ⟨by rw [e206, Xi_ne (by omega), e195, Xi_ne (by omega), e189]; exact (Xi_same (by unfold rg; omega)).trans r72, by rw [e206, Xi_ne (by omega), e195]; exact (Xi_same (by unfold rg; omega)).trans (W131.o.1 (by omega)).2.2, by rw [e206]; exact (Xi_same (by unfold rg; omega)).trans w206⟩
                      have c206 : KCL T1 U10 cl := kcl_w e206 (kcl_w e195 (kcl_w e189 c142.o))
                      have q206 : qsC S from_ to v5 := ⟨by rw [← V51]; omega, ⟨(W131.o.1 (by omega)).1, (W131.o.1 (by omega)).2.1, by rw [← (W131.o.1 (by omega)).2.2]; omega⟩, by have := R142.2.2.2; omega, by rw [← k180]; omega⟩
                      refine y_iinc rfl rfl rfl rfl ?_
                      refine y_iinc rfl rfl rfl rfl ?_
                      have C212 : Hid (SYC S U10 cl from_ to (v5 + 1) (v4 + 1)) := by first | (have u := q206; exact syc_y S12.o (by omega) q206 x206 s206 c206) | (have u := K180; exact syc_n S12.o (by omega) (fun q => q.2.2.2 (by rw [← k180]; omega)) k142.o c142.o) | (have u := K142; first | exact syc_n S12.o (by omega) (fun q => W131.o.2 (by omega) q.2.1) k142.o c142.o | exact syc_n S12.o (by omega) (fun q => by have a := q.2.2.1; have b := R142.2.2.2; omega) k142.o c142.o) | exact syc_n S12.o (by omega) (fun q => q.1 (V51.symm.trans (by omega))) (fun _ => rfl) KCL.rf
                      refine y_goto rfl rfl ?_
                      have w112 : Xi U10 876 8 = Xi T1 876 8 := (show Xi U10 876 8 = Xi U9 876 8 from by rw [eU10]; exact Xi_ne (by omega)).trans ( (show Xi U9 876 8 = Xi U8 876 8 from by rw [eU9]; exact Xi_ne (by omega)).trans ( (show Xi U8 876 8 = Xi T7 876 8 from by rw [eU8]; exact Xi_ne (by omega)).trans ( (show Xi T7 876 8 = Xi T4 876 8 from w92.x _ _ rfl).trans ((show Xi T4 876 8 = Xi T1 876 8 from w57.x _ _ rfl)))))
                      have w113 : Xi U10 895 5 = Xi T7 895 5 := (show Xi U10 895 5 = Xi U9 895 5 from by rw [eU10]; exact Xi_ne (by omega)).trans ( (show Xi U9 895 5 = Xi U8 895 5 from by rw [eU9]; exact Xi_ne (by omega)).trans ((show Xi U8 895 5 = Xi T7 895 5 from by rw [eU8]; exact Xi_ne (by omega))))
                      have w114 : Xi U10 895 6 = Xi T7 895 6 := (show Xi U10 895 6 = Xi U9 895 6 from by rw [eU10]; exact Xi_ne (by omega)).trans ( (show Xi U9 895 6 = Xi U8 895 6 from by rw [eU9]; exact Xi_ne (by omega)).trans ((show Xi U8 895 6 = Xi T7 895 6 from by rw [eU8]; exact Xi_ne (by omega))))
                      exact Pl_weak (ih12 (by omega) U10 hHU10 hFU10 ((v4 + 1)) ((v5 + 1)) (by omega) (by omega) (by omega) (by omega) (by first | exact C212 | exact syc_0 (by rw [e6]; exact Xi_same (by unfold rg; omega)) (kcl_w e6 KCL.rf)) (by omega)) (by omega) (And.intro rfl (And.intro rfl (And.intro rfl (And.intro rfl (And.intro rfl (And.intro rfl (True.intro)))))))
          · refine y_goto rfl rfl ?_
            refine y_iinc rfl rfl rfl rfl ?_
            have C212 : Hid (SYC S T1 cl from_ to (v5 + 1) v4) := by first | (have u := q206; exact syc_y S12.o (by omega) q206 x206 s206 c206) | (have u := K180; exact syc_n S12.o (by omega) (fun q => q.2.2.2 (by rw [← k180]; omega)) k142.o c142.o) | (have u := K142; first | exact syc_n S12.o (by omega) (fun q => W131.o.2 (by omega) q.2.1) k142.o c142.o | exact syc_n S12.o (by omega) (fun q => by have a := q.2.2.1; have b := R142.2.2.2; omega) k142.o c142.o) | exact syc_n S12.o (by omega) (fun q => q.1 (V51.symm.trans (by omega))) (fun _ => rfl) KCL.rf
            refine y_goto rfl rfl ?_
            exact Pl_weak (ih12 (by omega) T1 hHT1 hFT1 (v4) ((v5 + 1)) (by omega) (by omega) (by omega) (by omega) (by first | exact C212 | exact syc_0 (by rw [e6]; exact Xi_same (by unfold rg; omega)) (kcl_w e6 KCL.rf)) (by omega)) (by omega) (And.intro rfl (And.intro rfl (And.intro rfl (And.intro rfl (And.intro rfl (And.intro rfl (True.intro)))))))
  refine y_iconst rfl ?_
  refine y_istore rfl rfl rfl ?_
  refine y_aload_n rfl rfl ?_
  refine y_bipush rfl rfl ?_
  refine y_pfi rfl rfl (layClW (by omega) rfl) rfl ?_
  obtain ⟨U11, eU11⟩ : ∃ T : sS, T = uI S (276 + cl) 0 (Int32.ofInt 6) := ⟨_, rfl⟩
  rw [← eU11]
  have hHU11 : RI U11 := by rw [eU11]; exact RI_w hH
  have hFU11 : FR md_rr_saying__p S U11 := by rw [eU11]; exact FR.wI hF (mdf_i (r := (276, 876, 0, 1)) (List.mem_of_getElem? (i := 0) rfl) (inR_i (by omega) (by omega) (by omega) (by omega)))
  have w115 : Xi U11 (276 + cl) 0 = 6 := by rw [eU11]; exact Xi_same (by unfold rg; omega)
  have e6 := eU11
  refine y_iload_n rfl rfl ?_
  refine y_istore rfl rfl rfl ?_
  have w116 : Xi U11 876 8 = Xi S 876 8 := (show Xi U11 876 8 = Xi S 876 8 from by rw [eU11]; exact Xi_ne (by omega))
  have w117 : Xi U11 895 5 = Xi S 895 5 := (show Xi U11 895 5 = Xi S 895 5 from by rw [eU11]; exact Xi_ne (by omega))
  have w118 : Xi U11 895 6 = Xi S 895 6 := (show Xi U11 895 6 = Xi S 895 6 from by rw [eU11]; exact Xi_ne (by omega))
  exact Pl_weak (C12 fu (by omega) U11 hHU11 hFU11 (0) (from_) (by omega) (by omega) (by omega) (by omega) (by first | exact C212 | exact syc_0 (by rw [e6]; exact Xi_same (by unfold rg; omega)) (kcl_w e6 KCL.rf)) (by omega)) (by omega) (And.intro rfl (And.intro rfl (And.intro rfl (And.intro rfl (And.intro rfl (And.intro rfl (True.intro)))))))
end
