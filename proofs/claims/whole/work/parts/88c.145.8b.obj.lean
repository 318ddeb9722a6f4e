section
/-! 12, 13: the class -/
theorem mI_eq {S U : sS} {i : Nat} (v : SMV S U) (t : ty7 U = ty7 S) : mI U i = mI S i := by unfold mI; rw [t, mnV_eq v]
theorem fI_eq {S U : sS} {i : Nat} (v : SMV S U) (t : ty7 U = ty7 S) : fI U i = fI S i := by unfold fI; rw [t, fnd_eq v]
theorem nwn_eq {S U : sS} (v : SMV S U) (t : ty7 U = ty7 S) : ∀ n : Nat, nwn U n = nwn S n
  | 0 => rfl
  | n + 1 => by
    show nwn U n + (if mI U n = -1 then 1 else 0) = nwn S n + (if mI S n = -1 then 1 else 0)
    rw [nwn_eq v t n, mI_eq v t]
theorem NWI_eq {S U : sS} {i : Nat} (v : SMV S U) (t : ty7 U = ty7 S) : NWI U i ↔ NWI S i := by
  unfold NWI
  simp only [mI_eq v t, t, alC_eq v]
theorem LOO_eq {S U : sS} {n : Nat} (v : SMV S U) (t : ty7 U = ty7 S) (c : Xi U 5 2 = Xi S 5 2) : LOO U n ↔ LOO S n := by
  unfold LOO OKI
  simp only [mI_eq v t, fI_eq v t, NWI_eq v t, nwn_eq v t, c]
def at12 (S : sS) : Int := if Xi S 890 2 = 12 then re7 (ty7 S) (Xi S 890 3 + 2) else Xi S 890 3 + 1
def d12 (S : sS) : Int := if Xi S 890 2 = 12 then 1 else 0
/-- the description is one -/
def DS1 (S : sS) : Prop := at12 S - (Xi S 890 3 + 2) ≤ 6 ∧ ccT S (Xi S 890 3 + 2) (at12 S) 0 0 (-1) 4 = 1
def PL1 (S : sS) (a : Int) : Prop := hPl S a ≠ -1 ∧ chC S (hPl S a) (wyC (ty7 S a)) ≠ 0
/-- the state in which the LIST is told -/
def lUO : List rec := [(876, 877, 8, 9), (876, 877, 9, 10), (891, 892, 9, 10), (891, 892, 11, 12), (891, 892, 12, 13), (892, 893, 0, 100000), (893, 894, 0, 100000), (895, 896, 8, 9), (895, 896, 9, 10), (895, 896, 12, 13), (895, 896, 13, 14), (895, 896, 14, 15), (896, 897, 0, 100000), (897, 898, 0, 100000), (898, 899, 0, 100000)]
def UOK (S U : sS) : Prop := (∀ k j : Nat, k < 876 → Xi U k j = Xi S k j) ∧ (SMV S U ∧ ty7 U = ty7 S ∧ (∀ r, pc7 U r = pc7 S r) ∧ FR lUO S U) ∧ (Xi U 876 8 = 0 ∧ Xi U 890 3 = Xi S 890 3) ∧ (ty7 S (at12 S) = 103 → Xi U 891 11 = 0) ∧ (ty7 S (at12 S) ≠ 103 → Xi U 891 11 = wyC (ty7 S (at12 S)) ∧ Xi U 891 12 = hPl S (at12 S)) ∧ (Xi S 890 2 = 12 → ∃ m : Int, (1 ≤ m ∧ m ≤ 3 ∧ m ≤ at12 S - (Xi S 890 3 + 2)) ∧ ccC S (Xi S 890 3 + 2) (at12 S) 0 0 (-1) m = 1 ∧ Xi U 895 12 = ckC S (at12 S) 0 m ∧ KPC U (fA S (ckC S (at12 S) 0 m) (Xi S 890 3 + 2) 0) (g1C S (Xi S 890 3 + 2)) (g2C S (ckC S (at12 S) 0 m) (Xi S 890 3 + 2)) (at12 S - m - (Xi S 890 3 + 2)))
def TOJ (S S1 : sS) (z : Int) : Prop :=
  TLO S S1 z (nL S) ∧
  (LOO S (nL S) → Xi S 890 2 = 12 → (6 < at12 S - (Xi S 890 3 + 2) ∨ ccT S (Xi S 890 3 + 2) (at12 S) 0 0 (-1) 4 = 0) → z = 0 ∧ FTO S S1 4 (Xi S 890 3 + 2)) ∧
  (LOO S (nL S) → Xi S 890 2 = 12 → at12 S - (Xi S 890 3 + 2) ≤ 6 → 1 < ccT S (Xi S 890 3 + 2) (at12 S) 0 0 (-1) 4 → z = 0 ∧ FTO S S1 7 (Xi S 890 3 + 2)) ∧
  (LOO S (nL S) → (Xi S 890 2 = 12 → DS1 S) → ty7 S (at12 S) ≠ 103 → ¬ PL1 S (at12 S) → z = 0 ∧ FTO S S1 4 (rPl S (at12 S))) ∧
  (LOO S (nL S) → (Xi S 890 2 = 12 → DS1 S) → (ty7 S (at12 S) ≠ 103 → PL1 S (at12 S)) → ∃ U : sS, UOK S U ∧ DOB U S1 z (d12 S))
theorem toj_1 {S S1 : sS} {z : Int} (o : TOB S S1 z) (hz : z = 0) : TOJ S S1 0 := by
  subst hz
  have n : ¬ LOO S (nL S) := fun q => by have t := (o.2.1 q).1; omega
  exact ⟨o.1, fun q => absurd q n, fun q => absurd q n, fun q => absurd q n, fun q => absurd q n⟩
theorem toj_2 {S A S1 : sS} {z : Int} (l : LOO S (nL S)) (h12 : Xi S 890 2 = 12) (p : ∀ r, pc7 A r = pc7 S r) (e : ccT A (Xi S 890 3 + 2) (at12 S) 0 0 (-1) 4 = ccT S (Xi S 890 3 + 2) (at12 S) 0 0 (-1) 4) (o : TDS A S1 z (Xi S 890 3 + 2) (at12 S) 0) (hz : z = 0) : TOJ S S1 0 := by
  subst hz
  obtain ⟨o1, o2, o3⟩ := o
  rw [e] at o1 o2 o3
  have n : ¬ DS1 S := fun q => by have t := (o3 q.1 q.2).1; omega
  exact ⟨tlo_y l, fun _ _ q => ⟨rfl, fto_p (o1 q).2 p⟩, fun _ _ q w => ⟨rfl, fto_p (o2 q w).2 p⟩, fun _ q => absurd (q h12) n, fun _ q => absurd (q h12) n⟩
theorem ds1_n {S : sS} (h : DS1 S) : ¬ (6 < at12 S - (Xi S 890 3 + 2) ∨ ccT S (Xi S 890 3 + 2) (at12 S) 0 0 (-1) 4 = 0) ∧ ¬ (1 < ccT S (Xi S 890 3 + 2) (at12 S) 0 0 (-1) 4) := by
  have a := h.1
  have b := h.2
  exact ⟨fun q => by rcases q with q | q <;> omega, by omega⟩
theorem toj_3 {S S1 : sS} (l : LOO S (nL S)) (d : Xi S 890 2 = 12 → DS1 S) (h : ty7 S (at12 S) ≠ 103) (n : ¬ PL1 S (at12 S)) (f : FTO S S1 4 (rPl S (at12 S))) : TOJ S S1 0 :=
  ⟨tlo_y l, fun _ a q => absurd q (ds1_n (d a)).1, fun _ a _ q => absurd q (ds1_n (d a)).2, fun _ _ _ _ => ⟨rfl, f⟩, fun _ _ q => absurd (q h) n⟩
theorem toj_4 {S U S1 : sS} {z : Int} (l : LOO S (nL S)) (d : Xi S 890 2 = 12 → DS1 S) (p : ty7 S (at12 S) ≠ 103 → PL1 S (at12 S)) (u : UOK S U) (o : DOB U S1 z (d12 S)) : TOJ S S1 z :=
  ⟨tlo_y l, fun _ a q => absurd q (ds1_n (d a)).1, fun _ a _ q => absurd q (ds1_n (d a)).2, fun _ _ a b => absurd (p a) b, fun _ _ _ => ⟨U, u, o⟩⟩
theorem rln_rg {S : sS} {has t : Int} : ∀ (n : Nat) (p l : Int), 0 ≤ p → p + n ≤ 12 → -1 ≤ l → l ≤ 11 → -1 ≤ rln S has t n p l ∧ rln S has t n p l ≤ 11
  | 0, p, l, _, _, h1, h2 => ⟨h1, h2⟩
  | n + 1, p, l, h0, hn, h1, h2 => by
    show -1 ≤ rln S has t n (p + 1) (if iandF (ishrF has p) 1 = 1 ∧ Xi S 9 p.toNat = t then p else l) ∧ rln S has t n (p + 1) (if iandF (ishrF has p) 1 = 1 ∧ Xi S 9 p.toNat = t then p else l) ≤ 11
    by_cases q : iandF (ishrF has p) 1 = 1 ∧ Xi S 9 p.toNat = t
    · rw [if_pos q]; exact rln_rg n (p + 1) p (by omega) (by omega) (by omega) (by omega)
    · rw [if_neg q]; exact rln_rg n (p + 1) l (by omega) (by omega) h1 h2
theorem rlF_rg {S : sS} {k a b v : Int} : -1 ≤ rlF S k a b v ∧ rlF S k a b v ≤ 11 := by
  unfold rlF
  split
  · omega
  · exact rln_rg 12 0 (-1) (by omega) (by omega) (by omega) (by omega)
theorem prs_len {f g : Int → Int → Int} {z : Int} : ∀ (n : Nat) (p : Int), (prs f g z n p).length ≤ n
  | 0, _ => Nat.le_refl _
  | n + 1, p => by
    show (if z ≤ p then [] else g p (p + nxt f z p) :: prs f g z n (p + nxt f z p)).length ≤ n + 1
    split
    · exact Nat.zero_le _
    · rw [List.length_cons]
      have t := prs_len (f := f) (g := g) (z := z) n (p + nxt f z p)
      omega
theorem prs_all {f g : Int → Int → Int} {z : Int} {P : Int → Prop} (h : ∀ x y, P (g x y)) : ∀ (n : Nat) (p : Int) (i : Nat), i < (prs f g z n p).length → P ((prs f g z n p).getD i 0)
  | 0, _, i, hi => absurd hi (Nat.not_lt_zero _)
  | n + 1, p, i, hi => by
    have e : prs f g z (n + 1) p = if z ≤ p then [] else g p (p + nxt f z p) :: prs f g z n (p + nxt f z p) := rfl
    rw [e] at hi ⊢
    by_cases q : z ≤ p
    · rw [if_pos q] at hi; exact absurd hi (Nat.not_lt_zero _)
    · rw [if_neg q] at hi ⊢
      cases i with
      | zero => exact h _ _
      | succ i => exact prs_all h n (p + nxt f z p) i (by rw [List.length_cons] at hi; omega)
theorem kpc_rg {U : sS} {f g : Int → Int → Int} {S : sS} {k a z : Int} (h : KPC U f g (g2C S k a) z) : (0 ≤ Xi U 895 14 ∧ Xi U 895 14 ≤ 6) ∧ ∀ i : Nat, (i : Int) < Xi U 895 14 → -1 ≤ Xi U 897 i ∧ Xi U 897 i ≤ 11 := by
  obtain ⟨h1, h2, h3⟩ := h
  have l := prs_len (f := f) (g := g) (z := z) 6 0
  refine ⟨by omega, fun i hi => ?_⟩
  have hi2 : i < (prs f g z 6 0).length := by omega
  rw [(h3 i hi2).2]
  exact prs_all (g := g2C S k a) (P := fun x => -1 ≤ x ∧ x ≤ 11) (fun x y => rlF_rg) 6 0 i (by omega)
theorem ccT_v {l : List rec} {S T : sS} (h : FR l S T) (e : (kdis l kA && !(mdf l 1 3)) = true) {a t pl d al v : Int} : ccT T a t pl d al v = ccT S a t pl d al v := by
  have c : ∀ m, ccC T a t pl d al m = ccC S a t pl d al m := fun m => by
    have k : ckC T t pl m = ckC S t pl m := by unfold ckC fnd; rw [mnV_FR h e]
    have i : isK T (ckC S t pl m) al = isK S (ckC S t pl m) al := by
      have e2 := e
      simp only [Bool.and_eq_true, Bool.not_eq_true'] at e2
      have s := h.smk e2.1
      exact isKn_fr (fun j => s.x 6 rfl j) 16 _
    unfold ccC cokC
    rw [k, i, cpF_FR h e]
  unfold ccT
  rw [c, c, c]
/-- behind the LIST and the description -/
def UO1 (S U : sS) : Prop := (∀ k j : Nat, k < 876 → Xi U k j = Xi S k j) ∧ (SMV S U ∧ ty7 U = ty7 S ∧ (∀ r, pc7 U r = pc7 S r) ∧ FR lUO S U) ∧ (Xi U 876 8 = 0 ∧ Xi U 890 3 = Xi S 890 3 ∧ Xi U 891 11 = 0) ∧ (Xi S 890 2 = 12 → ∃ m : Int, (1 ≤ m ∧ m ≤ 3 ∧ m ≤ at12 S - (Xi S 890 3 + 2)) ∧ ccC S (Xi S 890 3 + 2) (at12 S) 0 0 (-1) m = 1 ∧ Xi U 895 12 = ckC S (at12 S) 0 m ∧ KPC U (fA S (ckC S (at12 S) 0 m) (Xi S 890 3 + 2) 0) (g1C S (Xi S 890 3 + 2)) (g2C S (ckC S (at12 S) 0 m) (Xi S 890 3 + 2)) (at12 S - m - (Xi S 890 3 + 2)))
theorem ink_0 {k : Nat} (h : k < 876) : inK [(0, 876)] k = true := by
  unfold inK
  simp only [List.any_cons, List.any_nil, Bool.or_false, Bool.and_eq_true, Nat.ble_eq, Nat.blt_eq]
  omega
theorem uo1_n {S A : sS} {l : List rec} (F : FR l S A) (f : Xi A 876 8 = 0) (hw : Xi S 891 11 = 0) (h : Xi S 890 2 ≠ 12) (a1 : kdis l [(0, 876)] = true := by rfl) (a2 : kdis l [(2, 5), (879, 880)] = true := by rfl) (a3 : mdf l 1 3 = false := by rfl) (a4 : kdis l [(877, 878)] = true := by rfl) (a5 : mdf l 876 7 = false := by rfl) (a6 : kdis l [(878, 879)] = true := by rfl) (a7 : mdf l 876 5 = false := by rfl) (a8 : mdf l 890 3 = false := by rfl) (a9 : mdf l 891 11 = false := by rfl) (a10 : sub l lUO = true := by rfl) : UO1 S A :=
  ⟨fun k j hk => (F.smk a1).x k (ink_0 hk) j, ⟨SMV_FR F a2 a3, FRT F a4 a5, pc7_FR F a6 a5 a7, F.up a10⟩, ⟨f, F.x 890 3 a8, (F.x 891 11 a9).trans hw⟩, fun q => absurd q h⟩
theorem uo1_d {S A B : sS} {l l2 : List rec} (F : FR l S A) (G : FR l2 A B) (o : TDS A B 1 (Xi S 890 3 + 2) (at12 S) 0) (c : ccT A (Xi S 890 3 + 2) (at12 S) 0 0 (-1) 4 = ccT S (Xi S 890 3 + 2) (at12 S) 0 0 (-1) 4) (hw : Xi S 891 11 = 0) (f : Xi A 876 8 = 0) (a1 : kdis l [(0, 876)] = true := by rfl) (a2 : kdis l [(2, 5), (879, 880)] = true := by rfl) (a3 : mdf l 1 3 = false := by rfl) (a4 : kdis l [(877, 878)] = true := by rfl) (a5 : mdf l 876 7 = false := by rfl) (a6 : kdis l [(878, 879)] = true := by rfl) (a7 : mdf l 876 5 = false := by rfl) (a8 : mdf l 890 3 = false := by rfl) (a9 : mdf l 891 11 = false := by rfl) (b1 : kdis l2 [(0, 876)] = true := by rfl) (b2 : kdis l2 [(2, 5), (879, 880)] = true := by rfl) (b3 : mdf l2 1 3 = false := by rfl) (b4 : kdis l2 [(877, 878)] = true := by rfl) (b5 : mdf l2 876 7 = false := by rfl) (b6 : kdis l2 [(878, 879)] = true := by rfl) (b7 : mdf l2 876 5 = false := by rfl) (b8 : mdf l2 890 3 = false := by rfl) (b9 : mdf l2 891 11 = false := by rfl) (ak : (kdis l kA && !(mdf l 1 3)) = true := by rfl) (a10 : sub l lUO = true := by rfl) (b10 : sub l2 lUO = true := by rfl) : UO1 S B := by
  obtain ⟨o1, o2, o3⟩ := o
  have d : at12 S - (Xi S 890 3 + 2) ≤ 6 ∧ ccT A (Xi S 890 3 + 2) (at12 S) 0 0 (-1) 4 = 1 := by
    by_cases q : 6 < at12 S - (Xi S 890 3 + 2) ∨ ccT A (Xi S 890 3 + 2) (at12 S) 0 0 (-1) 4 = 0
    · have t := (o1 q).1; omega
    · by_cases w : 1 < ccT A (Xi S 890 3 + 2) (at12 S) 0 0 (-1) 4
      · have t := (o2 (by omega) w).1; omega
      · have n := ccT_nn (S := A) (a := Xi S 890 3 + 2) (t := at12 S) (pl := 0) (d := 0) (al := -1) (v := 4)
        exact ⟨by omega, by omega⟩
  obtain ⟨_, r1, m, m1, m2, m3, m4, m5⟩ := o3 d.1 d.2
  have ck : ckC A (at12 S) 0 m = ckC S (at12 S) 0 m := by unfold ckC fnd; rw [mnV_FR F ak]
  have cc : ccC A (Xi S 890 3 + 2) (at12 S) 0 0 (-1) m = ccC S (Xi S 890 3 + 2) (at12 S) 0 0 (-1) m := by
    have i : isK A (ckC S (at12 S) 0 m) (-1) = isK S (ckC S (at12 S) 0 m) (-1) := by
      have e2 := ak
      simp only [Bool.and_eq_true, Bool.not_eq_true'] at e2
      exact isKn_fr (fun j => (F.smk e2.1).x 6 rfl j) 16 _
    unfold ccC cokC
    rw [ck, i, cpF_FR F ak]
  rw [ck, fA_FR F ak, g1C_FR F ak, g2C_FR F ak] at m5
  refine ⟨fun k j hk => ((G.smk b1).x k (ink_0 hk) j).trans ((F.smk a1).x k (ink_0 hk) j), ⟨(SMV_FR F a2 a3).tr (SMV_FR G b2 b3), (FRT G b4 b5).trans (FRT F a4 a5), fun r => (pc7_FR G b6 b5 b7 r).trans (pc7_FR F a6 a5 a7 r), (F.up a10).tr G b10⟩, ⟨r1.trans f, (G.x 890 3 b8).trans (F.x 890 3 a8), ((G.x 891 11 b9).trans (F.x 891 11 a9)).trans hw⟩, fun _ => ⟨m, m1, by rw [← cc]; exact m2, by rw [← ck]; exact m3, m5⟩⟩
theorem tds_1 {S A B : sS} {z : Int} (o : TDS A B z (Xi S 890 3 + 2) (at12 S) 0) (c : ccT A (Xi S 890 3 + 2) (at12 S) 0 0 (-1) 4 = ccT S (Xi S 890 3 + 2) (at12 S) 0 0 (-1) 4) (hz : z ≠ 0) : DS1 S := by
  obtain ⟨o1, o2, o3⟩ := o
  rw [c] at o1 o2
  by_cases q : 6 < at12 S - (Xi S 890 3 + 2) ∨ ccT S (Xi S 890 3 + 2) (at12 S) 0 0 (-1) 4 = 0
  · exact absurd (o1 q).1 hz
  · by_cases w : 1 < ccT S (Xi S 890 3 + 2) (at12 S) 0 0 (-1) 4
    · exact absurd (o2 (by omega) w).1 hz
    · have n := ccT_nn (S := S) (a := Xi S 890 3 + 2) (t := at12 S) (pl := 0) (d := 0) (al := -1) (v := 4)
      exact ⟨by omega, by omega⟩
theorem tds_n {S A B : sS} (o : TDS A B 1 (Xi S 890 3 + 2) (at12 S) 0) (c : ccT A (Xi S 890 3 + 2) (at12 S) 0 0 (-1) 4 = ccT S (Xi S 890 3 + 2) (at12 S) 0 0 (-1) 4) : (0 ≤ Xi B 895 14 ∧ Xi B 895 14 ≤ 6) ∧ ∀ i : Nat, (i : Int) < Xi B 895 14 → -1 ≤ Xi B 897 i ∧ Xi B 897 i ≤ 11 := by
  have d := tds_1 o c (by omega)
  obtain ⟨_, _, m, _, _, _, _, m5⟩ := o.2.2 d.1 (by rw [c]; exact d.2)
  exact kpc_rg m5
theorem pl_eq {S U : sS} {a : Int} (x : ∀ k j : Nat, k < 876 → Xi U k j = Xi S k j) (v : SMV S U) (t : ty7 U = ty7 S) : (hPl U a = hPl S a ∧ rPl U a = rPl S a) ∧ ty7 U = ty7 S ∧ (chC U (hPl S a) (wyC (ty7 S a)) = chC S (hPl S a) (wyC (ty7 S a))) := by
  have r : rPl U a = rPl S a := by unfold rPl; rw [t]
  exact ⟨⟨by unfold hPl; rw [r, t, fnd_eq v], r⟩, t, chC_eq (fun j => x 6 j (by omega)) (fun j => x 21 j (by omega))⟩
theorem pl1_y {S U V : sS} {z a : Int} (o : TPLA U V z a) (w : (hPl U a = hPl S a ∧ rPl U a = rPl S a) ∧ ty7 U = ty7 S ∧ (chC U (hPl S a) (wyC (ty7 S a)) = chC S (hPl S a) (wyC (ty7 S a)))) (hz : z ≠ 0) : PL1 S a := by
  by_cases q : PL1 S a
  · exact q
  · exfalso
    refine hz (o.2 (fun y => q ?_)).1
    rw [w.1.1, w.2.1, w.2.2] at y
    exact y
theorem pl1_n {S U V : sS} {z a : Int} (o : TPLA U V z a) (w : (hPl U a = hPl S a ∧ rPl U a = rPl S a) ∧ ty7 U = ty7 S ∧ (chC U (hPl S a) (wyC (ty7 S a)) = chC S (hPl S a) (wyC (ty7 S a)))) (p : ∀ r, pc7 U r = pc7 S r) (hz : z = 0) : ¬ PL1 S a ∧ FTO S V 4 (rPl S a) := by
  have n : ¬ PL1 S a := fun q => by
    have t := (o.1 (by rw [w.1.1, w.2.1, w.2.2]; exact q)).1
    omega
  refine ⟨n, ?_⟩
  have t := (o.2 (fun y => n (by rw [w.1.1, w.2.1, w.2.2] at y; exact y))).2
  rw [w.1.2] at t
  exact fto_p t p
theorem uok_p {S U V : sS} {z : Int} (u : UO1 S U) (o : TPLA U V z (at12 S)) (w : (hPl U (at12 S) = hPl S (at12 S) ∧ rPl U (at12 S) = rPl S (at12 S)) ∧ ty7 U = ty7 S ∧ (chC U (hPl S (at12 S)) (wyC (ty7 S (at12 S))) = chC S (hPl S (at12 S)) (wyC (ty7 S (at12 S))))) (hz : z ≠ 0) (ht : ty7 S (at12 S) ≠ 103) (rh : rg (hPl S (at12 S))) : UOK S V := by
  have p := pl1_y o w hz
  have e := (o.1 (by rw [w.1.1, w.2.1, w.2.2]; exact p)).2
  rw [w.1.1, w.2.1] at e
  obtain ⟨u1, ⟨u2, u3, u4, u9⟩, ⟨u5, u6, u7⟩, u8⟩ := u
  obtain ⟨A, eA⟩ : ∃ A : sS, A = uI U 891 11 (Int32.ofInt (wyC (ty7 S (at12 S)))) := ⟨_, rfl⟩
  rw [← eA] at e
  obtain ⟨q1, q2, q3, q4⟩ := pl_w eA e
  have wr := wy_rg (k := ty7 S (at12 S))
  refine ⟨fun k j hk => (q4 k j (by omega)).trans (u1 k j hk), ⟨u2.tr q3, q2.trans u3, fun r => (q1 r).trans (u4 r), by rw [e, eA]; exact FR.wI (FR.wI u9 rfl) rfl⟩, ⟨(q4 _ _ (by omega)).trans u5, (q4 _ _ (by omega)).trans u6⟩, fun q => absurd q ht, fun _ => ⟨?_, ?_⟩, fun q => ?_⟩
  · rw [e, Xi_ne (by omega), eA]; exact Xi_same (by unfold rg; omega)
  · rw [e]; exact Xi_same rh
  · obtain ⟨m, m1, m2, m3, m4⟩ := u8 q
    refine ⟨m, m1, m2, (q4 _ _ (by omega)).trans m3, ?_⟩
    unfold KPC at m4 ⊢
    rw [q4 _ _ (by omega)]
    exact ⟨m4.1, m4.2.1, fun i hi => by rw [q4 _ _ (by omega), q4 _ _ (by omega)]; exact m4.2.2 i hi⟩
theorem uok_n {S U : sS} (u : UO1 S U) (ht : ty7 S (at12 S) = 103) : UOK S U := by
  obtain ⟨u1, u2, ⟨u5, u6, u7⟩, u8⟩ := u
  exact ⟨u1, u2, ⟨u5, u6⟩, fun _ => u7, fun q => absurd ht q, u8⟩
theorem rg_hp {S : sS} {a : Int} (h : CEN S) : rg (hPl S a) := by
  unfold hPl
  have t := fnd_rg (S := S) (s := 2) (a := rPl S a) (b := re7 (ty7 S) (rPl S a)) h (by omega)
  unfold rg
  omega
theorem tds_8 {S A B : sS} (o : TDS A B 1 (Xi S 890 3 + 2) (at12 S) 0) (c : ccT A (Xi S 890 3 + 2) (at12 S) 0 0 (-1) 4 = ccT S (Xi S 890 3 + 2) (at12 S) 0 0 (-1) 4) (f : Xi A 876 8 = 0) : Xi B 876 8 = 0 := by
  have d := tds_1 o c (by omega)
  exact (o.2.2 d.1 (by rw [c]; exact d.2)).2.1.trans f

def md_re_tellObjects__p : List rec := [(1, 2, 3, 4), (2, 3, 0, 100000), (3, 4, 0, 100000), (4, 5, 0, 100000), (5, 6, 0, 100000), (21, 22, 0, 100000), (22, 23, 0, 100000), (23, 24, 0, 100000), (25, 65, 0, 100000), (66, 106, 0, 100000), (107, 147, 0, 100000), (148, 188, 0, 100000), (876, 877, 8, 9), (876, 877, 9, 10), (891, 892, 9, 10), (891, 892, 10, 11), (891, 892, 11, 12), (891, 892, 12, 13), (892, 893, 0, 100000), (893, 894, 0, 100000), (895, 896, 8, 9), (895, 896, 9, 10), (895, 896, 12, 13), (895, 896, 13, 14), (895, 896, 14, 15), (896, 897, 0, 100000), (897, 898, 0, 100000), (898, 899, 0, 100000)]
abbrev Q_re_tellObjects__p (S : sS) : pst := fun r S1 => RI S1 ∧ FR md_re_tellObjects__p S S1 ∧ (∃ z : Int, r = some (iv z) ∧ (0 ≤ z ∧ z ≤ 1) ∧ (TOJ S S1 z))
set_option maxRecDepth 100000 in
theorem t_re_tellObjects__p {S : sS} (hH : RI S) (h13 : 0 ≤ Xi S 1 3 ∧ Xi S 1 3 ≤ 200) (hCE : CEN S) (hNB : NRB S) (hf : Xi S 876 8 = 0) (hr : Xi S 876 7 ≤ 5130) (ht : 0 ≤ Xi S 890 3 ∧ Xi S 890 3 ≤ 5125) (hn0 : Xi S 891 9 = 0) (h2 : Xi S 1 3 < 199) (hX : TX S) (hw2 : WH2 S) (hc : 0 ≤ Xi S 5 2 ∧ Xi S 5 2 ≤ 24) (hE : Xi S 1 3 + 24 - Xi S 5 2 < 199) (hwy : Xi S 891 11 = 0) (hn14 : 0 ≤ Xi S 895 14 ∧ Xi S 895 14 ≤ 6) (hpr : Hid (∀ i : Nat, (i : Int) < Xi S 895 14 → -1 ≤ Xi S 897 i ∧ Xi S 897 i ≤ 11)) (d : Nat) : Mp lay0 (d + 6) m_re_tellObjects [.ref 891] S (Q_re_tellObjects__p S) := by
  refine Mp_R rfl rfl (fun fu => ?_)
  have hF : FR md_re_tellObjects__p S S := FR.rf
  have w1 : -2147483648 ≤ Xi S 1 3 ∧ Xi S 1 3 ≤ 2147483647 := Xi_rgI
  have w2 : -2147483648 ≤ Xi S 5 2 ∧ Xi S 5 2 ≤ 2147483647 := Xi_rgI
  have w3 : -2147483648 ≤ Xi S 876 7 ∧ Xi S 876 7 ≤ 2147483647 := Xi_rgI
  have w4 : -2147483648 ≤ Xi S 876 8 ∧ Xi S 876 8 ≤ 2147483647 := Xi_rgI
  have w5 : -2147483648 ≤ Xi S 890 2 ∧ Xi S 890 2 ≤ 2147483647 := Xi_rgI
  have w6 : -2147483648 ≤ Xi S 890 3 ∧ Xi S 890 3 ≤ 2147483647 := Xi_rgI
  have w7 : -2147483648 ≤ Xi S 891 11 ∧ Xi S 891 11 ≤ 2147483647 := Xi_rgI
  have w8 : -2147483648 ≤ Xi S 891 9 ∧ Xi S 891 9 ≤ 2147483647 := Xi_rgI
  have w9 : -2147483648 ≤ Xi S 895 14 ∧ Xi S 895 14 ≤ 2147483647 := Xi_rgI
  have C68 : ∀  (T1 : sS) (_ : RI T1) (_ : FR md_re_tellObjects__p S T1) (v2 : Int) (v3 : Int), (0 ≤ v2 ∧ v2 ≤ 1) → (0 ≤ v3 ∧ v3 ≤ 5140) → (v3 = at12 S) → (v2 = d12 S) → (Hid (LOO S (nL S))) → (Hid (Xi S 890 2 = 12 → DS1 S)) → (Hid (UO1 S T1)) → (TX T1) → (Hid ((0 ≤ Xi T1 895 14 ∧ Xi T1 895 14 ≤ 6) ∧ ∀ i : Nat, (i : Int) < Xi T1 895 14 → -1 ≤ Xi T1 897 i ∧ Xi T1 897 i ≤ 11)) → (Xi T1 876 8 = 0) → (Xi T1 890 3 = Xi S 890 3) → (Xi T1 876 7 = Xi S 876 7) → (Xi T1 1 3 = Xi S 1 3) → (0 ≤ v3 ∧ v3 ≤ 5140) → Pl fu lay0 (d + 5) m_re_tellObjects 68 [(0, .ref 891), (2, iv v2), (3, iv v3)] [] T1 (Q_re_tellObjects__p S) := by
    intro T1 hHT1 hFT1 v2 v3 w10 w11 a68 d68 L68 D68 U68 X68 N68 f68 w12 w13 w14 w15
    have w16 : Xi T1 876 7 = Xi S 876 7 := hFT1.x _ _ rfl
    have w17 : Xi T1 890 2 = Xi S 890 2 := hFT1.x _ _ rfl
    have w18 : Xi T1 890 3 = Xi S 890 3 := hFT1.x _ _ rfl
    have w19 : -2147483648 ≤ Xi T1 1 3 ∧ Xi T1 1 3 ≤ 2147483647 := Xi_rgI
    have w20 : -2147483648 ≤ Xi T1 5 2 ∧ Xi T1 5 2 ≤ 2147483647 := Xi_rgI
    have w21 : -2147483648 ≤ Xi T1 876 7 ∧ Xi T1 876 7 ≤ 2147483647 := Xi_rgI
    have w22 : -2147483648 ≤ Xi T1 876 8 ∧ Xi T1 876 8 ≤ 2147483647 := Xi_rgI
    have w23 : -2147483648 ≤ Xi T1 890 3 ∧ Xi T1 890 3 ≤ 2147483647 := Xi_rgI
    have w24 : -2147483648 ≤ Xi T1 895 14 ∧ Xi T1 895 14 ≤ 2147483647 := Xi_rgI
    refine y_aload_n rfl rfl ?_
    refine y_gfr rfl rfl rfl rfl rfl (hHT1.r 891 0 876 rfl) ?_
    refine y_iload_n rfl rfl ?_
    refine y_callV rfl rfl rfl (t_to_typeAt__p hHT1 v3 ⟨by omega, by omega⟩ _) ?_
    rintro _ _ ⟨rfl, z27, rfl, w27, w25, w26⟩
    show Pl _ _ _ _ _ _ [iv z27] _ _
    have gq73 := w25
    rw [FRT hFT1 rfl rfl] at gq73
    clear w25
    have t73 : ty7 S (at12 S) = z27 := by have t := gq73; rw [a68] at t; exact t
    refine y_bipush rfl rfl ?_
    refine y_icmp_eq rfl rfl (by unfold rg; omega) (by unfold rg; omega) (fun w28 => ?_) (fun w29 => ?_)
    · refine y_aload_n rfl rfl ?_
      have P89 : Hid (ty7 S (at12 S) ≠ 103 → PL1 S (at12 S)) := by first | (have t := K83; exact fun _ => pl1_y O83.o W83.o (by omega)) | exact fun q => absurd (by omega) q
      have U89 : Hid (UOK S T1) := by first | (have t := K83; exact uok_p U68.o O83.o W83.o (by omega) t76 (rg_hp hCE)) | exact uok_n U68.o (by omega)
      have i89 : Xi T1 876 8 = 0 ∧ Xi T1 890 3 = Xi S 890 3 := U89.o.2.2.1
      have X89 : TX T1 := by first | (have t := K83; exact TX_FR F83 rfl X68) | exact X68
      have V89 : SMV S T1 := U89.o.2.1.1
      have W89 : WH2 T1 := WH2_v hw2 V89 (U89.o.1 5 2 (by omega))
      have E89 : CEN T1 := CEN_v hCE V89
      have L89 : Hid (LOO T1 (nL T1)) := by unfold nL; rw [U89.o.2.1.2.1, i89.2]; exact (LOO_eq V89 U89.o.2.1.2.1 (U89.o.1 5 2 (by omega))).2 L68.o
      have n89 : (0 ≤ Xi T1 895 14 ∧ Xi T1 895 14 ≤ 6) ∧ ∀ i : Nat, (i : Int) < Xi T1 895 14 → -1 ≤ Xi T1 897 i ∧ Xi T1 897 i ≤ 11 := by first | (have t := K83; rw [F83.x 895 14 rfl]; exact ⟨N68.o.1, fun i hi => by rw [(F83.cx 897 rfl i).1]; exact N68.o.2 i hi⟩) | exact N68.o
      have e89 : Xi T1 1 3 = Xi S 1 3 ∧ Xi T1 5 2 = Xi S 5 2 := ⟨V89.1, U89.o.1 5 2 (by omega)⟩
      have r89 : Xi T1 876 7 = Xi S 876 7 := by first | (have t := K83; rw [F83.x 876 7 rfl]; omega) | omega
      refine y_iload_n rfl rfl ?_
      refine y_callV rfl rfl rfl (t_re_doObjects__p hHT1 v2 ⟨by omega, by omega⟩ (by first | assumption | omega) (E89) (by first | assumption | omega) (by first | assumption | omega) (by first | assumption | omega) (X89) (W89) (by omega) (by omega) (L89.o) (n89.1) (n89.2) _) ?_
      rintro _ T2 ⟨hHT2, w31, z30, rfl, w30, o91⟩
      have hFT2 : FR md_re_tellObjects__p S T2 := FR.tr hFT1 w31 rfl
      show Pl _ _ _ _ _ _ [iv z30] _ _
      have K91 : True := trivial
      have R91 : TOJ S T2 z30 := toj_4 L68.o D68.o P89.o U89.o (by have t := o91; rw [d68] at t; exact t)
      obtain ⟨zd, hzd⟩ : ∃ w : Int, w = z30 := ⟨_, rfl⟩
      rw [← hzd] at R91
      refine y_if_eq rfl rfl (by unfold rg; omega) (fun w32 => ?_) (fun w33 => ?_)
      · refine y_iconst rfl ?_
        refine y_ireturn rfl rfl ?_
        have w34 : Xi T2 876 7 = Xi T1 876 7 := (show Xi T2 876 7 = Xi T1 876 7 from w31.x _ _ rfl)
        have w35 : Xi T2 890 3 = Xi T1 890 3 := (show Xi T2 890 3 = Xi T1 890 3 from w31.x _ _ rfl)
        have w36 : Xi T2 895 14 = Xi T1 895 14 := (show Xi T2 895 14 = Xi T1 895 14 from w31.x _ _ rfl)
        exact ⟨hHT2, hFT2, _, rfl, ⟨by omega, by omega⟩, (by first | (have t := K91; first | (have t := K97; exact Eq.subst (motive := fun x => TOJ S T2 x) (by omega : zd = 1) R91) | exact Eq.subst (motive := fun x => TOJ S T2 x) (by omega : zd = 0) R91) | (have t := K83; have q := pl1_n O83.o W83.o U68.o.2.1.2.2.1 (by omega); exact toj_3 L68.o D68.o t76 q.1 q.2) | (have t := K60; exact toj_2 L35.o h12 F27p.o c60 O60.o (by omega)) | exact toj_1 O27.o (by omega))⟩
      · refine y_iconst rfl ?_
        have K97 : True := trivial
        refine y_goto rfl rfl ?_
        refine y_ireturn rfl rfl ?_
        have w37 : Xi T2 876 7 = Xi T1 876 7 := (show Xi T2 876 7 = Xi T1 876 7 from w31.x _ _ rfl)
        have w38 : Xi T2 890 3 = Xi T1 890 3 := (show Xi T2 890 3 = Xi T1 890 3 from w31.x _ _ rfl)
        have w39 : Xi T2 895 14 = Xi T1 895 14 := (show Xi T2 895 14 = Xi T1 895 14 from w31.x _ _ rfl)
        exact ⟨hHT2, hFT2, _, rfl, ⟨by omega, by omega⟩, (by first | (have t := K91; first | (have t := K97; exact Eq.subst (motive := fun x => TOJ S T2 x) (by omega : zd = 1) R91) | exact Eq.subst (motive := fun x => TOJ S T2 x) (by omega : zd = 0) R91) | (have t := K83; have q := pl1_n O83.o W83.o U68.o.2.1.2.2.1 (by omega); exact toj_3 L68.o D68.o t76 q.1 q.2) | (have t := K60; exact toj_2 L35.o h12 F27p.o c60 O60.o (by omega)) | exact toj_1 O27.o (by omega))⟩
    · refine y_aload_n rfl rfl ?_
      have t76 : ty7 S (at12 S) ≠ 103 := by omega
      refine y_iload_n rfl rfl ?_
      refine y_callV rfl rfl rfl (t_re_takePlace__p hHT1 v3 ⟨by omega, by omega⟩ (by first | assumption | omega) (CEN_v hCE U68.o.2.1.1) (by first | assumption | omega) (by first | assumption | omega) _) ?_
      rintro _ T3 ⟨hHT3, w41, z40, rfl, w40, o83⟩
      have hFT3 : FR md_re_tellObjects__p S T3 := FR.tr hFT1 w41 rfl
      show Pl _ _ _ _ _ _ [iv z40] _ _
      have K83 : True := trivial
      have O83 : Hid (TPLA T1 T3 z40 (at12 S)) := by have t := o83; rw [a68] at t; exact t
      clear o83
      have F83 := (by assumption : FR md_re_takePlace__p T1 T3)
      obtain ⟨zl, hzl⟩ : ∃ w : Int, w = z40 := ⟨_, rfl⟩
      have W83 : Hid ((hPl T1 (at12 S) = hPl S (at12 S) ∧ rPl T1 (at12 S) = rPl S (at12 S)) ∧ ty7 T1 = ty7 S ∧ (chC T1 (hPl S (at12 S)) (wyC (ty7 S (at12 S))) = chC S (hPl S (at12 S)) (wyC (ty7 S (at12 S))))) := pl_eq (U68.o.1) U68.o.2.1.1 U68.o.2.1.2.1
      refine y_if_eq rfl rfl (by unfold rg; omega) (fun w42 => ?_) (fun w43 => ?_)
      · refine y_iconst rfl ?_
        refine y_ireturn rfl rfl ?_
        have w44 : Xi T3 1 3 = Xi T1 1 3 := (show Xi T3 1 3 = Xi T1 1 3 from w41.x _ _ rfl)
        have w45 : Xi T3 5 2 = Xi T1 5 2 := (show Xi T3 5 2 = Xi T1 5 2 from w41.x _ _ rfl)
        have w46 : Xi T3 876 7 = Xi T1 876 7 := (show Xi T3 876 7 = Xi T1 876 7 from w41.x _ _ rfl)
        have w47 : Xi T3 890 3 = Xi T1 890 3 := (show Xi T3 890 3 = Xi T1 890 3 from w41.x _ _ rfl)
        have w48 : Xi T3 895 14 = Xi T1 895 14 := (show Xi T3 895 14 = Xi T1 895 14 from w41.x _ _ rfl)
        exact ⟨hHT3, hFT3, _, rfl, ⟨by omega, by omega⟩, (by first | (have t := K91; first | (have t := K97; exact Eq.subst (motive := fun x => TOJ S T3 x) (by omega : zd = 1) R91) | exact Eq.subst (motive := fun x => TOJ S T3 x) (by omega : zd = 0) R91) | (have t := K83; have q := pl1_n O83.o W83.o U68.o.2.1.2.2.1 (by omega); exact toj_3 L68.o D68.o t76 q.1 q.2) | (have t := K60; exact toj_2 L35.o h12 F27p.o c60 O60.o (by omega)) | exact toj_1 O27.o (by omega))⟩
      · refine y_aload_n rfl rfl ?_
        have P89 : Hid (ty7 S (at12 S) ≠ 103 → PL1 S (at12 S)) := by first | (have t := K83; exact fun _ => pl1_y O83.o W83.o (by omega)) | exact fun q => absurd (by omega) q
        have U89 : Hid (UOK S T3) := by first | (have t := K83; exact uok_p U68.o O83.o W83.o (by omega) t76 (rg_hp hCE)) | exact uok_n U68.o (by omega)
        have i89 : Xi T3 876 8 = 0 ∧ Xi T3 890 3 = Xi S 890 3 := U89.o.2.2.1
        have X89 : TX T3 := by first | (have t := K83; exact TX_FR F83 rfl X68) | exact X68
        have V89 : SMV S T3 := U89.o.2.1.1
        have W89 : WH2 T3 := WH2_v hw2 V89 (U89.o.1 5 2 (by omega))
        have E89 : CEN T3 := CEN_v hCE V89
        have L89 : Hid (LOO T3 (nL T3)) := by unfold nL; rw [U89.o.2.1.2.1, i89.2]; exact (LOO_eq V89 U89.o.2.1.2.1 (U89.o.1 5 2 (by omega))).2 L68.o
        have n89 : (0 ≤ Xi T3 895 14 ∧ Xi T3 895 14 ≤ 6) ∧ ∀ i : Nat, (i : Int) < Xi T3 895 14 → -1 ≤ Xi T3 897 i ∧ Xi T3 897 i ≤ 11 := by first | (have t := K83; rw [F83.x 895 14 rfl]; exact ⟨N68.o.1, fun i hi => by rw [(F83.cx 897 rfl i).1]; exact N68.o.2 i hi⟩) | exact N68.o
        have e89 : Xi T3 1 3 = Xi S 1 3 ∧ Xi T3 5 2 = Xi S 5 2 := ⟨V89.1, U89.o.1 5 2 (by omega)⟩
        have r89 : Xi T3 876 7 = Xi S 876 7 := by first | (have t := K83; rw [F83.x 876 7 rfl]; omega) | omega
        refine y_iload_n rfl rfl ?_
        have w49 : Xi T3 1 3 = Xi T1 1 3 := (show Xi T3 1 3 = Xi T1 1 3 from w41.x _ _ rfl)
        have w50 : Xi T3 5 2 = Xi T1 5 2 := (show Xi T3 5 2 = Xi T1 5 2 from w41.x _ _ rfl)
        have w51 : Xi T3 876 7 = Xi T1 876 7 := (show Xi T3 876 7 = Xi T1 876 7 from w41.x _ _ rfl)
        have w52 : Xi T3 890 3 = Xi T1 890 3 := (show Xi T3 890 3 = Xi T1 890 3 from w41.x _ _ rfl)
        have w53 : Xi T3 895 14 = Xi T1 895 14 := (show Xi T3 895 14 = Xi T1 895 14 from w41.x _ _ rfl)
        refine y_callV rfl rfl rfl (t_re_doObjects__p hHT3 v2 ⟨by omega, by omega⟩ (by first | assumption | omega) (E89) (by first | assumption | omega) (by first | assumption | omega) (by first | assumption | omega) (X89) (W89) (by omega) (by omega) (L89.o) (n89.1) (n89.2) _) ?_
        rintro _ T4 ⟨hHT4, w55, z54, rfl, w54, o91⟩
        have hFT4 : FR md_re_tellObjects__p S T4 := FR.tr hFT3 w55 rfl
        show Pl _ _ _ _ _ _ [iv z54] _ _
        have K91 : True := trivial
        have R91 : TOJ S T4 z54 := toj_4 L68.o D68.o P89.o U89.o (by have t := o91; rw [d68] at t; exact t)
        obtain ⟨zd, hzd⟩ : ∃ w : Int, w = z54 := ⟨_, rfl⟩
        rw [← hzd] at R91
        refine y_if_eq rfl rfl (by unfold rg; omega) (fun w56 => ?_) (fun w57 => ?_)
        · refine y_iconst rfl ?_
          refine y_ireturn rfl rfl ?_
          have w58 : Xi T4 876 7 = Xi T1 876 7 := (show Xi T4 876 7 = Xi T3 876 7 from w55.x _ _ rfl).trans ((show Xi T3 876 7 = Xi T1 876 7 from w41.x _ _ rfl))
          have w59 : Xi T4 890 3 = Xi T1 890 3 := (show Xi T4 890 3 = Xi T3 890 3 from w55.x _ _ rfl).trans ((show Xi T3 890 3 = Xi T1 890 3 from w41.x _ _ rfl))
          have w60 : Xi T4 895 14 = Xi T1 895 14 := (show Xi T4 895 14 = Xi T3 895 14 from w55.x _ _ rfl).trans ((show Xi T3 895 14 = Xi T1 895 14 from w41.x _ _ rfl))
          exact ⟨hHT4, hFT4, _, rfl, ⟨by omega, by omega⟩, (by first | (have t := K91; first | (have t := K97; exact Eq.subst (motive := fun x => TOJ S T4 x) (by omega : zd = 1) R91) | exact Eq.subst (motive := fun x => TOJ S T4 x) (by omega : zd = 0) R91) | (have t := K83; have q := pl1_n O83.o W83.o U68.o.2.1.2.2.1 (by omega); exact toj_3 L68.o D68.o t76 q.1 q.2) | (have t := K60; exact toj_2 L35.o h12 F27p.o c60 O60.o (by omega)) | exact toj_1 O27.o (by omega))⟩
        · refine y_iconst rfl ?_
          have K97 : True := trivial
          refine y_goto rfl rfl ?_
          refine y_ireturn rfl rfl ?_
          have w61 : Xi T4 876 7 = Xi T1 876 7 := (show Xi T4 876 7 = Xi T3 876 7 from w55.x _ _ rfl).trans ((show Xi T3 876 7 = Xi T1 876 7 from w41.x _ _ rfl))
          have w62 : Xi T4 890 3 = Xi T1 890 3 := (show Xi T4 890 3 = Xi T3 890 3 from w55.x _ _ rfl).trans ((show Xi T3 890 3 = Xi T1 890 3 from w41.x _ _ rfl))
          have w63 : Xi T4 895 14 = Xi T1 895 14 := (show Xi T4 895 14 = Xi T3 895 14 from w55.x _ _ rfl).trans ((show Xi T3 895 14 = Xi T1 895 14 from w41.x _ _ rfl))
          exact ⟨hHT4, hFT4, _, rfl, ⟨by omega, by omega⟩, (by first | (have t := K91; first | (have t := K97; exact Eq.subst (motive := fun x => TOJ S T4 x) (by omega : zd = 1) R91) | exact Eq.subst (motive := fun x => TOJ S T4 x) (by omega : zd = 0) R91) | (have t := K83; have q := pl1_n O83.o W83.o U68.o.2.1.2.2.1 (by omega); exact toj_3 L68.o D68.o t76 q.1 q.2) | (have t := K60; exact toj_2 L35.o h12 F27p.o c60 O60.o (by omega)) | exact toj_1 O27.o (by omega))⟩
  refine y_aload_n rfl rfl ?_
  refine y_gfr rfl rfl rfl rfl rfl (hH.r 891 1 890 rfl) ?_
  refine y_gfi rfl rfl rfl rfl rfl ?_
  refine y_istore_n rfl rfl rfl ?_
  refine y_aload_n rfl rfl ?_
  refine y_gfr rfl rfl rfl rfl rfl (hH.r 891 1 890 rfl) ?_
  refine y_gfi rfl rfl rfl rfl rfl ?_
  refine y_bipush rfl rfl ?_
  refine y_icmp_ne rfl rfl (by unfold rg; omega) (by unfold rg; omega) (fun w64 => ?_) (fun w65 => ?_)
  · refine y_iconst rfl ?_
    refine y_istore_n rfl rfl rfl ?_
    refine y_aload_n rfl rfl ?_
    refine y_callV rfl rfl rfl (t_re_takeObjects__p hH (by first | assumption | omega) (by first | assumption | exact (by assumption : CEN S)) (by first | assumption | exact (by assumption : NRB S)) (by first | assumption | omega) (by first | assumption | omega) (by first | assumption | omega) (by first | assumption | omega) (by first | assumption | omega) _) ?_
    rintro _ T5 ⟨hHT5, w67, z66, rfl, w66, o27⟩
    have hFT5 : FR md_re_tellObjects__p S T5 := FR.tr hF w67 rfl
    show Pl _ _ _ _ _ _ [iv z66] _ _
    have O27 := Hid.i o27
    clear o27
    have F27 := (by assumption : FR md_re_takeObjects__p S T5)
    have F27p : Hid (∀ r, pc7 T5 r = pc7 S r) := pc7_FR F27 rfl rfl rfl
    obtain ⟨zt, hzt⟩ : ∃ w : Int, w = z66 := ⟨_, rfl⟩
    refine y_if_ne rfl rfl (by unfold rg; omega) (fun w68 => ?_) (fun w69 => ?_)
    · refine y_iload_n rfl rfl ?_
      have L35 : Hid (LOO S (nL S)) := O27.o.2.2 (by omega)
      have f35 : Xi T5 876 8 = 0 := (O27.o.2.1 L35.o).2.2.2.1
      have V35 : SMV S T5 := SMV_FR F27 rfl rfl
      have x35 : TX T5 := TX_FR F27 rfl hX
      have E35 : CEN T5 := CEN_v hCE V35
      refine y_iconst rfl ?_
      refine y_iadd rfl ?_
      refine y_istore_n rfl rfl rfl ?_
      refine y_iload_n rfl rfl ?_
      refine y_if_eq rfl rfl (by unfold rg; omega) (fun w70 => ?_) (fun w71 => absurd w71 (by omega))
      · have w72 : Xi T5 1 3 = Xi S 1 3 := (show Xi T5 1 3 = Xi S 1 3 from w67.x _ _ rfl)
        have w73 : Xi T5 5 2 = Xi S 5 2 := (show Xi T5 5 2 = Xi S 5 2 from w67.x _ _ rfl)
        have w74 : Xi T5 876 7 = Xi S 876 7 := (show Xi T5 876 7 = Xi S 876 7 from w67.x _ _ rfl)
        have w75 : Xi T5 890 3 = Xi S 890 3 := (show Xi T5 890 3 = Xi S 890 3 from w67.x _ _ rfl)
        have w76 : Xi T5 895 14 = Xi S 895 14 := (show Xi T5 895 14 = Xi S 895 14 from w67.x _ _ rfl)
        exact Pl_weak (C68 T5 hHT5 hFT5 (0) (((Xi S 890 3) + 1)) (by omega) (by omega) (by first | (have t := K60; exact a50) | (unfold at12; rw [if_neg (by omega)])) (by unfold d12; first | (rw [if_pos (by omega)]) | (rw [if_neg (by omega)])) (L35) (by first | (have t := K60; exact fun _ => tds_1 O60.o c60 (by omega)) | exact fun q => absurd q (by omega)) (by first | (have t := K60; exact uo1_d F27 F60 (by have t := O60.o; rw [← hzq, show zq = 1 by omega] at t; exact t) c60 hwy f35) | exact uo1_n F27 f35 hwy (by omega)) (by first | (have t := K60; exact TX_FR F60 rfl x35) | exact x35) (by first | (have t := K60; exact tds_n (by have t := O60.o; rw [← hzq, show zq = 1 by omega] at t; exact t) c60) | (rw [F27.x 895 14 rfl]; exact ⟨hn14, fun i hi => by rw [(F27.cx 897 rfl i).1]; exact hpr.o i hi⟩)) (by first | (have t := K60; exact tds_8 (by have t := O60.o; rw [← hzq, show zq = 1 by omega] at t; exact t) c60 f35) | exact f35) (by omega) (by omega) (by omega) (by omega)) (by omega) (And.intro rfl (And.intro rfl (And.intro rfl (True.intro))))
    · refine y_iconst rfl ?_
      refine y_ireturn rfl rfl ?_
      have w77 : Xi T5 1 3 = Xi S 1 3 := (show Xi T5 1 3 = Xi S 1 3 from w67.x _ _ rfl)
      have w78 : Xi T5 5 2 = Xi S 5 2 := (show Xi T5 5 2 = Xi S 5 2 from w67.x _ _ rfl)
      have w79 : Xi T5 876 7 = Xi S 876 7 := (show Xi T5 876 7 = Xi S 876 7 from w67.x _ _ rfl)
      have w80 : Xi T5 890 3 = Xi S 890 3 := (show Xi T5 890 3 = Xi S 890 3 from w67.x _ _ rfl)
      have w81 : Xi T5 895 14 = Xi S 895 14 := (show Xi T5 895 14 = Xi S 895 14 from w67.x _ _ rfl)
      exact ⟨hHT5, hFT5, _, rfl, ⟨by omega, by omega⟩, (by first | (have t := K91; first | (have t := K97; exact Eq.subst (motive := fun x => TOJ S T5 x) (by omega : zd = 1) R91) | exact Eq.subst (motive := fun x => TOJ S T5 x) (by omega : zd = 0) R91) | (have t := K83; have q := pl1_n O83.o W83.o U68.o.2.1.2.2.1 (by omega); exact toj_3 L68.o D68.o t76 q.1 q.2) | (have t := K60; exact toj_2 L35.o h12 F27p.o c60 O60.o (by omega)) | exact toj_1 O27.o (by omega))⟩
  · refine y_iconst rfl ?_
    refine y_goto rfl rfl ?_
    refine y_istore_n rfl rfl rfl ?_
    refine y_aload_n rfl rfl ?_
    refine y_callV rfl rfl rfl (t_re_takeObjects__p hH (by first | assumption | omega) (by first | assumption | exact (by assumption : CEN S)) (by first | assumption | exact (by assumption : NRB S)) (by first | assumption | omega) (by first | assumption | omega) (by first | assumption | omega) (by first | assumption | omega) (by first | assumption | omega) _) ?_
    rintro _ T6 ⟨hHT6, w83, z82, rfl, w82, o27⟩
    have hFT6 : FR md_re_tellObjects__p S T6 := FR.tr hF w83 rfl
    show Pl _ _ _ _ _ _ [iv z82] _ _
    have O27 := Hid.i o27
    clear o27
    have F27 := (by assumption : FR md_re_takeObjects__p S T6)
    have F27p : Hid (∀ r, pc7 T6 r = pc7 S r) := pc7_FR F27 rfl rfl rfl
    obtain ⟨zt, hzt⟩ : ∃ w : Int, w = z82 := ⟨_, rfl⟩
    refine y_if_ne rfl rfl (by unfold rg; omega) (fun w84 => ?_) (fun w85 => ?_)
    · refine y_iload_n rfl rfl ?_
      have L35 : Hid (LOO S (nL S)) := O27.o.2.2 (by omega)
      have f35 : Xi T6 876 8 = 0 := (O27.o.2.1 L35.o).2.2.2.1
      have V35 : SMV S T6 := SMV_FR F27 rfl rfl
      have x35 : TX T6 := TX_FR F27 rfl hX
      have E35 : CEN T6 := CEN_v hCE V35
      refine y_iconst rfl ?_
      refine y_iadd rfl ?_
      refine y_istore_n rfl rfl rfl ?_
      refine y_iload_n rfl rfl ?_
      refine y_if_eq rfl rfl (by unfold rg; omega) (fun w86 => absurd w86 (by omega)) (fun w87 => ?_)
      · refine y_aload_n rfl rfl ?_
        have K43 : True := trivial
        have h12 : Xi S 890 2 = 12 := by omega
        refine y_gfr rfl rfl rfl rfl rfl (hHT6.r 891 0 876 rfl) ?_
        refine y_iload_n rfl rfl ?_
        refine y_iconst rfl ?_
        refine y_iadd rfl ?_
        have w88 : Xi T6 1 3 = Xi S 1 3 := (show Xi T6 1 3 = Xi S 1 3 from w83.x _ _ rfl)
        have w89 : Xi T6 5 2 = Xi S 5 2 := (show Xi T6 5 2 = Xi S 5 2 from w83.x _ _ rfl)
        have w90 : Xi T6 876 7 = Xi S 876 7 := (show Xi T6 876 7 = Xi S 876 7 from w83.x _ _ rfl)
        have w91 : Xi T6 890 3 = Xi S 890 3 := (show Xi T6 890 3 = Xi S 890 3 from w83.x _ _ rfl)
        have w92 : Xi T6 895 14 = Xi S 895 14 := (show Xi T6 895 14 = Xi S 895 14 from w83.x _ _ rfl)
        refine y_callV rfl rfl rfl (t_to_runEnd__p hHT6 ((Xi S 890 3) + 2) ⟨by omega, by omega⟩ _) ?_
        rintro _ _ ⟨rfl, z95, rfl, w95, w93, w94⟩
        show Pl _ _ _ _ _ _ [iv z95] _ _
        have gq50 := w93
        rw [FRT hFT6 rfl rfl] at gq50
        try rw [show Xi T6 890 1 = Xi S 890 1 by omega] at gq50
        clear w93
        have a50 : z95 = at12 S := by unfold at12; rw [if_pos h12]; exact gq50.symm
        refine y_istore_n rfl rfl rfl ?_
        refine y_aload_n rfl rfl ?_
        refine y_iload_n rfl rfl ?_
        refine y_iconst rfl ?_
        refine y_iadd rfl ?_
        refine y_iload_n rfl rfl ?_
        refine y_iconst rfl ?_
        refine y_callV rfl rfl rfl (t_re_takeDescription__p hHT6 ((Xi S 890 3) + 2) z95 0 ⟨by omega, by omega⟩ ⟨by omega, by omega⟩ ⟨by omega, by omega⟩ (by first | assumption | omega) (E35) (by first | assumption | omega) _) ?_
        rintro _ T7 ⟨hHT7, w102, z101, rfl, w101, o60⟩
        have hFT7 : FR md_re_tellObjects__p S T7 := FR.tr hFT6 w102 rfl
        show Pl _ _ _ _ _ _ [iv z101] _ _
        have K60 : True := trivial
        have O60 : Hid (TDS T6 T7 z101 (Xi S 890 3 + 2) (at12 S) 0) := by have t := o60; rw [a50] at t; exact t
        clear o60
        have F60 := (by assumption : FR md_re_takeDescription__p T6 T7)
        have c60 : ccT T6 (Xi S 890 3 + 2) (at12 S) 0 0 (-1) 4 = ccT S (Xi S 890 3 + 2) (at12 S) 0 0 (-1) 4 := ccT_v F27 rfl
        obtain ⟨zq, hzq⟩ : ∃ w : Int, w = z101 := ⟨_, rfl⟩
        refine y_if_ne rfl rfl (by unfold rg; omega) (fun w103 => ?_) (fun w104 => ?_)
        · have w105 : Xi T7 1 3 = Xi S 1 3 := (show Xi T7 1 3 = Xi T6 1 3 from w102.x _ _ rfl).trans ((show Xi T6 1 3 = Xi S 1 3 from w83.x _ _ rfl))
          have w106 : Xi T7 5 2 = Xi S 5 2 := (show Xi T7 5 2 = Xi T6 5 2 from w102.x _ _ rfl).trans ((show Xi T6 5 2 = Xi S 5 2 from w83.x _ _ rfl))
          have w107 : Xi T7 876 7 = Xi S 876 7 := (show Xi T7 876 7 = Xi T6 876 7 from w102.x _ _ rfl).trans ((show Xi T6 876 7 = Xi S 876 7 from w83.x _ _ rfl))
          have w108 : Xi T7 890 3 = Xi S 890 3 := (show Xi T7 890 3 = Xi T6 890 3 from w102.x _ _ rfl).trans ((show Xi T6 890 3 = Xi S 890 3 from w83.x _ _ rfl))
          exact Pl_weak (C68 T7 hHT7 hFT7 (1) (z95) (by omega) (by omega) (by first | (have t := K60; exact a50) | (unfold at12; rw [if_neg (by omega)])) (by unfold d12; first | (rw [if_pos (by omega)]) | (rw [if_neg (by omega)])) (L35) (by first | (have t := K60; exact fun _ => tds_1 O60.o c60 (by omega)) | exact fun q => absurd q (by omega)) (by first | (have t := K60; exact uo1_d F27 F60 (by have t := O60.o; rw [← hzq, show zq = 1 by omega] at t; exact t) c60 hwy f35) | exact uo1_n F27 f35 hwy (by omega)) (by first | (have t := K60; exact TX_FR F60 rfl x35) | exact x35) (by first | (have t := K60; exact tds_n (by have t := O60.o; rw [← hzq, show zq = 1 by omega] at t; exact t) c60) | (rw [F27.x 895 14 rfl]; exact ⟨hn14, fun i hi => by rw [(F27.cx 897 rfl i).1]; exact hpr.o i hi⟩)) (by first | (have t := K60; exact tds_8 (by have t := O60.o; rw [← hzq, show zq = 1 by omega] at t; exact t) c60 f35) | exact f35) (by omega) (by omega) (by omega) (by omega)) (by omega) (And.intro rfl (And.intro rfl (And.intro rfl (True.intro))))
        · refine y_iconst rfl ?_
          refine y_ireturn rfl rfl ?_
          have w109 : Xi T7 1 3 = Xi S 1 3 := (show Xi T7 1 3 = Xi T6 1 3 from w102.x _ _ rfl).trans ((show Xi T6 1 3 = Xi S 1 3 from w83.x _ _ rfl))
          have w110 : Xi T7 5 2 = Xi S 5 2 := (show Xi T7 5 2 = Xi T6 5 2 from w102.x _ _ rfl).trans ((show Xi T6 5 2 = Xi S 5 2 from w83.x _ _ rfl))
          have w111 : Xi T7 876 7 = Xi S 876 7 := (show Xi T7 876 7 = Xi T6 876 7 from w102.x _ _ rfl).trans ((show Xi T6 876 7 = Xi S 876 7 from w83.x _ _ rfl))
          have w112 : Xi T7 890 3 = Xi S 890 3 := (show Xi T7 890 3 = Xi T6 890 3 from w102.x _ _ rfl).trans ((show Xi T6 890 3 = Xi S 890 3 from w83.x _ _ rfl))
          exact ⟨hHT7, hFT7, _, rfl, ⟨by omega, by omega⟩, (by first | (have t := K91; first | (have t := K97; exact Eq.subst (motive := fun x => TOJ S T7 x) (by omega : zd = 1) R91) | exact Eq.subst (motive := fun x => TOJ S T7 x) (by omega : zd = 0) R91) | (have t := K83; have q := pl1_n O83.o W83.o U68.o.2.1.2.2.1 (by omega); exact toj_3 L68.o D68.o t76 q.1 q.2) | (have t := K60; exact toj_2 L35.o h12 F27p.o c60 O60.o (by omega)) | exact toj_1 O27.o (by omega))⟩
    · refine y_iconst rfl ?_
      refine y_ireturn rfl rfl ?_
      have w113 : Xi T6 1 3 = Xi S 1 3 := (show Xi T6 1 3 = Xi S 1 3 from w83.x _ _ rfl)
      have w114 : Xi T6 5 2 = Xi S 5 2 := (show Xi T6 5 2 = Xi S 5 2 from w83.x _ _ rfl)
      have w115 : Xi T6 876 7 = Xi S 876 7 := (show Xi T6 876 7 = Xi S 876 7 from w83.x _ _ rfl)
      have w116 : Xi T6 890 3 = Xi S 890 3 := (show Xi T6 890 3 = Xi S 890 3 from w83.x _ _ rfl)
      have w117 : Xi T6 895 14 = Xi S 895 14 := (show Xi T6 895 14 = Xi S 895 14 from w83.x _ _ rfl)
      exact ⟨hHT6, hFT6, _, rfl, ⟨by omega, by omega⟩, (by first | (have t := K91; first | (have t := K97; exact Eq.subst (motive := fun x => TOJ S T6 x) (by omega : zd = 1) R91) | exact Eq.subst (motive := fun x => TOJ S T6 x) (by omega : zd = 0) R91) | (have t := K83; have q := pl1_n O83.o W83.o U68.o.2.1.2.2.1 (by omega); exact toj_3 L68.o D68.o t76 q.1 q.2) | (have t := K60; exact toj_2 L35.o h12 F27p.o c60 O60.o (by omega)) | exact toj_1 O27.o (by omega))⟩
/-! 12, 13: the reference asks -/
def kwR (m : Int) : Int := if m = 2 then 3 else if m = 3 then 0 else 4
def mhR (S : sS) (m k : Int) : Int := if m = 1 then (if blR S k 1 ≠ 0 ∨ blR S k 2 ≠ 0 then 1 else 0) else blR S k (kwR m)
/-- how many of a LIST are new to the reference -/
noncomputable def nwm (S : sS) (f : Int) : Nat → Nat
  | 0 => 0
  | n + 1 => nwm S f n + (if rmR S (f + n) = -1 then 1 else 0)
def NWQ (S : sS) (f : Int) (i : Nat) : Prop := nwR0 S (f + i) ∧ ∀ j : Nat, j < i → rmR S (f + j) = -1 → ¬ alR S (f + i) (f + j)
def OKQ (S : sS) (f : Int) (i : Nat) : Prop := rnR S (f + i) 4 ≠ -1 ∨ (NWQ S f i ∧ Xi S 904 19 + nwm S f i < 24)
def LOQ (S : sS) (f : Int) (n : Nat) : Prop := ∀ i : Nat, i < n → OKQ S f i
def RLO (S : sS) (f : Int) (n : Nat) (x : Int × Int × Int) : Prop := ∀ k : Nat, k < n → LOQ S f k → (rmR S (f + k) ≠ -1 → rnR S (f + k) 4 = -1 → NTB x 4 (pR S (f + k))) ∧ (rmR S (f + k) = -1 → ¬ NWQ S f k → NTB x 3 (pR S (f + k))) ∧ (NWQ S f k → 24 ≤ Xi S 904 19 + nwm S f k → NTB x 9 (pR S (f + k)))
/-- the news of a LIST so far -/
def NWS6 (S U : sS) (f : Int) (n : Nat) : Prop := Xi U 904 108 = nwm S f n ∧ ∀ i : Nat, i < n → rmR S (f + i) = -1 → Xi U 966 (nwm S f i) = f + i
def ROI (S U : sS) (f : Int) (i : Nat) (nn : Int) : Prop := (LOQ S f i → NT3 U = NT3 S ∧ nn = Xi S 904 19 + nwm S f i ∧ NWS6 S U f i) ∧ RLO S f i (NT3 U) ∧ 0 ≤ Xi U 904 108
theorem roi_0 {S : sS} {f nn : Int} (hn : nn = Xi S 904 19) (h9 : Xi S 904 108 = 0) : ROI S S f 0 nn := ⟨fun _ => ⟨rfl, by rw [hn]; show _ = Xi S 904 19 + ((0 : Nat) : Int); omega, h9, fun i hi => by omega⟩, fun k hk => by omega, by omega⟩
theorem nwm_y {S : sS} {f : Int} {n : Nat} (h : rmR S (f + n) = -1) : nwm S f (n + 1) = nwm S f n + 1 := by show nwm S f n + (if rmR S (f + n) = -1 then 1 else 0) = _; rw [if_pos h]
theorem nwm_n {S : sS} {f : Int} {n : Nat} (h : rmR S (f + n) ≠ -1) : nwm S f (n + 1) = nwm S f n := by show nwm S f n + (if rmR S (f + n) = -1 then 1 else 0) = _; rw [if_neg h]; rfl
theorem nwm_m {S : sS} {f : Int} {a b : Nat} (h : a ≤ b) : nwm S f a ≤ nwm S f b := by
  induction b with
  | zero => rw [show a = 0 by omega]; exact Nat.le_refl _
  | succ b ih =>
    by_cases q : a ≤ b
    · exact Nat.le_trans (ih q) (Nat.le_add_right _ _)
    · rw [show a = b + 1 by omega]; exact Nat.le_refl _
theorem nwm_i {S : sS} {f : Int} : ∀ (n k : Nat), k < nwm S f n → ∃ j : Nat, j < n ∧ rmR S (f + j) = -1 ∧ nwm S f j = k
  | 0, k, h => absurd h (Nat.not_lt_zero _)
  | n + 1, k, h => by
    by_cases q : rmR S (f + n) = -1
    · rw [nwm_y q] at h
      by_cases w : k < nwm S f n
      · obtain ⟨j, a, b⟩ := nwm_i n k w
        exact ⟨j, by omega, b⟩
      · exact ⟨n, by omega, q, by omega⟩
    · rw [nwm_n q] at h
      obtain ⟨j, a, b⟩ := nwm_i n k h
      exact ⟨j, by omega, b⟩
theorem nwq_u {S U : sS} {f : Int} {i : Nat} (sm : SMR S U) (h : NWS6 S U f i) : nwR U (f + i) ↔ NWQ S f i := by
  unfold nwR NWQ nwR0
  rw [rmR_sm sm, sm.2.1 951 _ (by omega), h.1]
  constructor
  · rintro ⟨a, b, c⟩
    refine ⟨⟨a, b⟩, fun j hj mj w => c (nwm S f j) ?_ (by rw [h.2 j hj mj, alR_sm sm]; exact w)⟩
    have t := nwm_m (S := S) (f := f) (a := j + 1) (b := i) (by omega)
    rw [nwm_y mj] at t
    omega
  · rintro ⟨⟨a, b⟩, c⟩
    refine ⟨a, b, fun k hk w => ?_⟩
    obtain ⟨j, j1, j2, j3⟩ := nwm_i (S := S) (f := f) i k (by omega)
    rw [← j3, h.2 j j1 j2, alR_sm sm] at w
    exact c j j1 j2 w
theorem roi_k {S U : sS} {f nn : Int} {i : Nat} (h : ROI S U f i nn) (q : rnR S (f + i) 4 ≠ -1) (q2 : rmR S (f + i) ≠ -1) : ROI S U f (i + 1) nn := by
  obtain ⟨a, b, c⟩ := h
  refine ⟨fun l => ?_, fun k hk lk => ?_, c⟩
  · obtain ⟨a1, a2, a3, a4⟩ := a (fun j hj => l j (by omega))
    rw [nwm_n q2]
    exact ⟨a1, a2, by rw [nwm_n q2]; exact a3, fun j hj mj => a4 j (by by_cases w : j = i; (rw [w] at mj; exact absurd mj q2); omega) mj⟩
  · by_cases e : k < i
    · exact b k e lk
    · have ek : k = i := by omega
      subst ek
      exact ⟨fun _ w => absurd w q, fun w => absurd w q2, fun w => absurd w.1.2 q2⟩
theorem ntb_up {x y : Int × Int × Int} {S : sS} {f : Int} {i : Nat} {g p : Int} (h : RLO S f i x) (hy : y = x ∨ ∃ c, y = ntF x c p) (hp : ∀ k : Nat, k < i → pR S (f + k) < p) : RLO S f i y := fun k hk lk => by
  obtain ⟨a, b, c⟩ := h k hk lk
  have up : ∀ g2, g2 ≠ 0 → NTB x g2 (pR S (f + k)) → NTB y g2 (pR S (f + k)) := fun g2 hg t => by
    rcases hy with e | ⟨d, e⟩
    · rw [e]; exact t
    · rw [e]; exact ntb_k t hg (hp k hk)
  exact ⟨fun u v => up 4 (by decide) (a u v), fun u v => up 3 (by decide) (b u v), fun u v => up 9 (by decide) (c u v)⟩
theorem roi_f {S U V : sS} {f nn p : Int} {i : Nat} (h : ROI S U f i nn) (q : rnR S (f + i) 4 = -1) (m : rmR S (f + i) ≠ -1) (t : NT3 V = ntF (NT3 U) 4 p) (hpp : p = pR S (f + i)) (hp : ∀ k : Nat, k < i → pR S (f + k) < pR S (f + i)) (h0 : (NT3 S).1 = 0) (h9 : Xi V 904 108 = Xi U 904 108) : ROI S V f (i + 1) nn := by
  subst hpp
  obtain ⟨a, b, c⟩ := h
  have nk : ¬ OKQ S f i := fun w => by
    rcases w with w | w
    · exact w q
    · exact m w.1.1.2
  refine ⟨fun l => absurd (l i (by omega)) nk, fun k hk lk => ?_, by omega⟩
  by_cases e : k < i
  · exact ntb_up (g := 0) b (Or.inr ⟨4, t⟩) hp k e lk
  · have ek : k = i := by omega
    subst ek
    refine ⟨fun _ _ => ?_, fun w => absurd w m, fun w => absurd w.1.2 m⟩
    rw [t]
    exact ntb_1 (by rw [(a lk).1]; exact h0)
theorem roi_s {S U V : sS} {f nn z r p : Int} {i : Nat} (h : ROI S U f i nn) (q : rnR S (f + i) 4 = -1) (m : rmR S (f + i) = -1) (y : nwR U r → NT3 V = (if nn < 24 then NT3 U else ntF (NT3 U) 9 p) ∧ Xi V 904 108 = Xi U 904 108 + 1 ∧ Xi V 966 (Xi U 904 108).toNat = r ∧ ∀ k : Nat, (k : Int) < Xi U 904 108 → Xi V 966 k = Xi U 966 k) (n : ¬ nwR U r → NT3 V = ntF (NT3 U) 3 p ∧ Xi V 904 108 = Xi U 904 108 ∧ ∀ k : Nat, Xi V 966 k = Xi U 966 k) (hz : (z = 1 → nwR U r) ∧ (z = 0 → ¬ nwR U r)) (h01 : z = 0 ∨ z = 1) (hr : r = f + i) (sm : SMR S U) (hpp : p = pR S (f + i)) (hp : ∀ k : Nat, k < i → pR S (f + k) < pR S (f + i)) (h0 : (NT3 S).1 = 0) : ROI S V f (i + 1) (nn + z) := by
  obtain ⟨a, b, d⟩ := h
  subst hr; subst hpp
  have yy : NT3 V = NT3 U ∨ ∃ c, NT3 V = ntF (NT3 U) c (pR S (f + i)) := by
    by_cases w : nwR U (f + i)
    · have t := (y w).1
      by_cases u : nn < 24
      · rw [if_pos u] at t; exact Or.inl t
      · rw [if_neg u] at t; exact Or.inr ⟨9, t⟩
    · exact Or.inr ⟨3, (n w).1⟩
  refine ⟨fun l => ?_, fun k hk lk => ?_, ?_⟩
  · have li : LOQ S f i := fun j hj => l j (by omega)
    obtain ⟨a1, a2, a3⟩ := a li
    rcases l i (by omega) with w | ⟨w1, w2⟩
    · exact absurd q w
    · have w := (nwq_u sm a3).2 w1
      obtain ⟨y1, y2, y3, y4⟩ := y w
      have z1 : z = 1 := by
        rcases h01 with x | x
        · exact absurd w (hz.2 x)
        · exact x
      rw [if_pos (by omega)] at y1
      have e := a3.1
      rw [e] at y2 y3 y4
      rw [show ((nwm S f i : Nat) : Int).toNat = nwm S f i by omega] at y3
      refine ⟨y1.trans a1, by rw [nwm_y m]; omega, by rw [y2, nwm_y m]; omega, fun j hj mj => ?_⟩
      by_cases ej : j = i
      · rw [ej]; exact y3
      · have t := nwm_m (S := S) (f := f) (a := j + 1) (b := i) (by omega)
        rw [nwm_y mj] at t
        rw [y4 (nwm S f j) (by omega)]
        exact a3.2 j (by omega) mj
  · by_cases e : k < i
    · exact ntb_up (g := 0) b yy hp k e lk
    · have ek : k = i := by omega
      subst ek
      obtain ⟨a1, a2, a3⟩ := a lk
      have u := nwq_u sm a3
      have x0 : (NT3 U).1 = 0 := by rw [a1]; exact h0
      refine ⟨fun w => absurd m w, fun _ w => ?_, fun w v => ?_⟩
      · rw [(n (fun x => w (u.1 x))).1]; exact ntb_1 x0
      · rw [(y (u.2 w)).1, if_neg (by omega)]; exact ntb_1 x0
  · by_cases w : nwR U (f + i)
    · have t := (y w).2.1; omega
    · have t := (n w).2.1; omega
theorem rn_rm {S : sS} {r s : Int} (h : rnR S r s ≠ -1) : rmR S r ≠ -1 := fun q => h (by
  unfold rnR msR
  unfold rmR at q
  rw [if_neg (fun w => w.1 q)])
/-- places of a LIST in order -/
def PLL (S : sS) (f : Int) (n : Nat) : Prop := ∀ k i : Nat, k < i → i < n → pR S (f + k) < pR S (f + i)
def PR1 (S : sS) : Prop := rnR S (Xi S 904 74) 4 ≠ -1 ∧ mhR S (Xi S 904 73) (Xi S 918 (rnR S (Xi S 904 74) 4).toNat) ≠ 0
def RPA (S : sS) (x y : Int × Int × Int) : Prop := ((Xi S 904 73 ≠ 0 → PR1 S) → y = x) ∧ (Xi S 904 73 ≠ 0 → ¬ PR1 S → y = ntF x 4 (pR S (Xi S 904 74)))
theorem mhR_am {S P : sS} {l : List rec} {a b : Int} (F : FR l S P) (e : kdis l [(917, 918)] = true) : mhR P a b = mhR S a b := by
  unfold mhR
  rw [blR_fr F e, blR_fr F e, blR_fr F e]
theorem PR1_sm {S P : sS} {l : List rec} (h : SMR S P) (F : FR l S P) (e : kdis l [(917, 918)] = true) (e2 : kdis l [(918, 919)] = true) (e3 : mD l [73, 74] = true) : PR1 P ↔ PR1 S := by
  unfold PR1
  rw [mD_x F e3 73 (by decide), mD_x F e3 74 (by decide), rnR_sm h, mhR_am F e, (F.smk e2).x 918 rfl]
/-- the words of the description -/
def fW (S : sS) : Int := Xi S 950 (Xi S 904 78).toNat
def nW (S : sS) : Int := Xi S 951 (Xi S 904 78).toNat
def DR1 (S : sS) : Prop := nW S ≤ 6 ∧ dcT S (fW S) (nW S) 0 0 (-1) 4 = 1
/-- 12 (ds = 1), 13: what the reference notes, and keeps -/
def RO12 (S S1 : sS) (ds : Int) : Prop :=
  RLO S (Xi S 904 71) (Xi S 904 72).toNat (NT3 S1) ∧
  (LOQ S (Xi S 904 71) (Xi S 904 72).toNat → ds = 1 → (6 < nW S ∨ dcT S (fW S) (nW S) 0 0 (-1) 4 = 0) → NTB (NT3 S1) 4 (pR S (Xi S 904 78))) ∧
  (LOQ S (Xi S 904 71) (Xi S 904 72).toNat → ds = 1 → nW S ≤ 6 → 1 < dcT S (fW S) (nW S) 0 0 (-1) 4 → NTB (NT3 S1) 7 (pR S (Xi S 904 78))) ∧
  (LOQ S (Xi S 904 71) (Xi S 904 72).toNat → (ds = 1 → DR1 S) → Xi S 904 73 ≠ 0 → ¬ PR1 S → NTB (NT3 S1) 4 (pR S (Xi S 904 74))) ∧
  (LOQ S (Xi S 904 71) (Xi S 904 72).toNat → (ds = 1 → DR1 S) → (Xi S 904 73 ≠ 0 → PR1 S) → (NT3 S1).1 = 0) ∧
  (ds = 1 → DR1 S → ∃ m : Int, (1 ≤ m ∧ m ≤ 3 ∧ m ≤ nW S) ∧ dcR S (fW S) (nW S) 0 0 (-1) m = 1 ∧ KRD S S1 (fW S) (nW S) 0 0 m)
theorem ro13 {S A S1 : sS} {nn : Int} (h : ROI S A (Xi S 904 71) (Xi S 904 72).toNat nn) (p : RPA S (NT3 A) (NT3 S1)) (h0 : (NT3 S).1 = 0) (pl : Xi S 904 73 ≠ 0 → ∀ k : Nat, k < (Xi S 904 72).toNat → pR S (Xi S 904 71 + k) < pR S (Xi S 904 74)) : RO12 S S1 0 := by
  obtain ⟨a, b, c⟩ := h
  refine ⟨?_, fun _ q => by omega, fun _ q => by omega, fun l _ w n => ?_, fun l _ w => ?_, fun q => by omega⟩
  · by_cases w : Xi S 904 73 ≠ 0 → PR1 S
    · rw [p.1 w]; exact b
    · have w1 : Xi S 904 73 ≠ 0 := fun q => w (fun y => absurd q y)
      exact ntb_up (g := 0) b (Or.inr ⟨4, p.2 w1 (fun q => w (fun _ => q))⟩) (pl w1)
  · rw [p.2 w n]; exact ntb_1 (by rw [(a l).1]; exact h0)
  · rw [p.1 w, (a l).1]; exact h0
theorem rlo_up {S : sS} {f : Int} {n : Nat} {x y : Int × Int × Int} {p : Int} (h : RLO S f n x) (hy : y = x ∨ ∃ c, y = ntF x c p) (hp : ∀ k : Nat, k < n → pR S (f + k) < p) : RLO S f n y := ntb_up (g := 0) h hy hp
theorem ro12 {S A C S1 : sS} {x0 : Int × Int × Int} {T : Int} (h : (LOQ S (Xi S 904 71) (Xi S 904 72).toNat → NT3 A = x0) ∧ RLO S (Xi S 904 71) (Xi S 904 72).toNat (NT3 A)) (hC : NT3 C = if T ≤ 0 then ntF (NT3 A) 4 (pR S (Xi S 904 78)) else if 2 ≤ T then ntF (NT3 A) 7 (pR S (Xi S 904 78)) else NT3 A) (hT6 : 6 < nW S → T = 0) (hT : nW S ≤ 6 → T = dcT S (fW S) (nW S) 0 0 (-1) 4) (hn : 0 ≤ T) (p : RPA S (NT3 C) (NT3 S1)) (h0 : x0.1 = 0) (p1 : ∀ k : Nat, k < (Xi S 904 72).toNat → pR S (Xi S 904 71 + k) < pR S (Xi S 904 78)) (p2 : Xi S 904 73 ≠ 0 → pR S (Xi S 904 78) < pR S (Xi S 904 74)) (kp : DR1 S → ∃ m : Int, (1 ≤ m ∧ m ≤ 3 ∧ m ≤ nW S) ∧ dcR S (fW S) (nW S) 0 0 (-1) m = 1 ∧ KRD S S1 (fW S) (nW S) 0 0 m) : RO12 S S1 1 := by
  obtain ⟨a, b⟩ := h
  have hC2 : NT3 C = NT3 A ∨ ∃ c, NT3 C = ntF (NT3 A) c (pR S (Xi S 904 78)) := by
    by_cases w : T ≤ 0
    · rw [if_pos w] at hC; exact Or.inr ⟨4, hC⟩
    · rw [if_neg w] at hC
      by_cases v : 2 ≤ T
      · rw [if_pos v] at hC; exact Or.inr ⟨7, hC⟩
      · rw [if_neg v] at hC; exact Or.inl hC
  have bC := rlo_up b hC2 p1
  have up : ∀ g q, NTB (NT3 C) g q → g ≠ 0 → (Xi S 904 73 ≠ 0 → q < pR S (Xi S 904 74)) → NTB (NT3 S1) g q := fun g q t hg hq => by
    by_cases w : Xi S 904 73 ≠ 0 → PR1 S
    · rw [p.1 w]; exact t
    · have w1 : Xi S 904 73 ≠ 0 := fun q => w (fun y => absurd q y)
      rw [p.2 w1 (fun q => w (fun _ => q))]
      exact ntb_k t hg (hq w1)
  refine ⟨?_, fun l _ q => ?_, fun l _ q w => ?_, fun l d w n => ?_, fun l d w => ?_, fun _ d => kp d⟩
  · by_cases w : Xi S 904 73 ≠ 0 → PR1 S
    · rw [p.1 w]; exact bC
    · have w1 : Xi S 904 73 ≠ 0 := fun q => w (fun y => absurd q y)
      exact rlo_up bC (Or.inr ⟨4, p.2 w1 (fun q => w (fun _ => q))⟩) (fun k hk => by have := p1 k hk; have := p2 w1; omega)
  · have t0 : T ≤ 0 := by
      by_cases z : 6 < nW S
      · have := hT6 z; omega
      · have := hT (by omega)
        rcases q with q | q <;> omega
    rw [if_pos t0] at hC
    exact up _ _ (by rw [hC]; exact ntb_1 (by rw [a l]; exact h0)) (by decide) p2
  · have t2 := hT q
    rw [if_neg (by omega), if_pos (by omega)] at hC
    exact up _ _ (by rw [hC]; exact ntb_1 (by rw [a l]; exact h0)) (by decide) p2
  · have d1 := d rfl
    have t2 := hT d1.1
    have t3 := d1.2
    rw [if_neg (by omega), if_neg (by omega)] at hC
    rw [p.2 w n, hC]
    exact ntb_1 (by rw [a l]; exact h0)
  · have d1 := d rfl
    have t2 := hT d1.1
    have t3 := d1.2
    rw [if_neg (by omega), if_neg (by omega)] at hC
    rw [p.1 w, hC, a l]; exact h0
theorem nwm_sm {S P : sS} {f : Int} (h : SMR S P) : ∀ n : Nat, nwm P f n = nwm S f n
  | 0 => rfl
  | n + 1 => by
    show nwm P f n + (if rmR P (f + n) = -1 then 1 else 0) = nwm S f n + (if rmR S (f + n) = -1 then 1 else 0)
    rw [nwm_sm h n, rmR_sm h]
theorem NWQ_sm {S P : sS} {f : Int} {i : Nat} (h : SMR S P) : NWQ P f i ↔ NWQ S f i := by
  unfold NWQ
  simp only [nwR0_sm h, rmR_sm h, alR_sm h]
theorem LOQ_sm {S P : sS} {f : Int} {n : Nat} (h : SMR S P) (e : Xi P 904 19 = Xi S 904 19) : LOQ P f n ↔ LOQ S f n := by
  unfold LOQ OKQ
  simp only [NWQ_sm h, rnR_sm h, nwm_sm h, e]
theorem RLO_sm {S P : sS} {f : Int} {n : Nat} {x : Int × Int × Int} (h : SMR S P) (e : Xi P 904 19 = Xi S 904 19) (r : RLO P f n x) : RLO S f n x := by
  unfold RLO at r ⊢
  simp only [LOQ_sm h e, NWQ_sm h, rnR_sm h, rmR_sm h, nwm_sm h, pR_sm h, e] at r
  exact r
theorem dkR_am {S P : sS} {f n pl m : Int} (h : AMR S P) : dkR P f n pl m = dkR S f n pl m := by unfold dkR; rw [msR_sm h.1]
theorem dcR_am {S P : sS} {f n pl d al m : Int} (h : AMR S P) : dcR P f n pl d al m = dcR S f n pl d al m := by
  unfold dcR
  simp only [dokR, dkR_am h, blR_am h, fRa_am h]
theorem dcT_am {S P : sS} {f n pl d al v : Int} (h : AMR S P) : dcT P f n pl d al v = dcT S f n pl d al v := by
  unfold dcT
  rw [dcR_am h, dcR_am h, dcR_am h]
theorem KRD_am {S P U : sS} {f n pl d m : Int} (h : AMR S P) (k : KRD P U f n pl d m) : KRD S U f n pl d m := by
  unfold KRD at k ⊢
  rw [dkR_am h, fRa_am h, gRa_am h] at k
  exact k
theorem RO12_am {S P S1 : sS} {l : List rec} {ds : Int} (h : AMR S P) (F : FR l S P) (e : kdis l [(917, 918)] = true) (e2 : kdis l [(918, 919)] = true) (e3 : mD l [73, 74] = true) (e4 : mD l [19, 71, 72, 73, 74, 78] = true) (r : RO12 P S1 ds) : RO12 S S1 ds := by
  have p1 := PR1_sm h.1 F e e2 e3
  have q := h.1
  have f : fW P = fW S := by unfold fW; rw [mD_x F e4 78 (by decide), q.2.1 950 _ (by omega)]
  have n : nW P = nW S := by unfold nW; rw [mD_x F e4 78 (by decide), q.2.1 951 _ (by omega)]
  obtain ⟨r1, r2, r3, r4, r5, r6⟩ := r
  unfold DR1 at r4 r5 r6
  rw [mD_x F e4 71 (by decide), mD_x F e4 72 (by decide)] at r1 r2 r3 r4 r5
  rw [mD_x F e4 73 (by decide)] at r4 r5
  rw [mD_x F e4 74 (by decide)] at r4
  rw [mD_x F e4 78 (by decide)] at r2 r3
  have e19 := mD_x F e4 19 (by decide)
  rw [LOQ_sm q e19] at r2 r3 r4 r5
  rw [f, n, dcT_am h] at r2 r3 r4 r5 r6
  rw [pR_sm q] at r2 r3 r4
  rw [p1] at r4 r5
  refine ⟨RLO_sm q e19 r1, r2, r3, r4, r5, fun a b => ?_⟩
  obtain ⟨m, m1, m2, m3⟩ := r6 a b
  rw [dcR_am h] at m2
  exact ⟨m, m1, m2, KRD_am h m3⟩
theorem krd_k {S U V : sS} {f n pl d m : Int} (k : KRD S U f n pl d m) (a : Xi V 904 110 = Xi U 904 110) (b : Xi V 904 112 = Xi U 904 112) (c : ∀ j, Xi V 967 j = Xi U 967 j) : KRD S V f n pl d m := ⟨a.trans k.1, b.trans k.2.1, fun i hi => (c i).trans (k.2.2 i hi)⟩
theorem dcT_1 {S : sS} {f n pl d al m : Int} (h : dcT S f n pl d al 4 = 1) (hm : 1 ≤ m ∧ m ≤ 3) (hn : m ≤ n) (hp : 0 < dcR S f n pl d al m) (h32 : 0 ≤ Xi S 904 32 ∧ Xi S 904 32 ≤ 12) : dcR S f n pl d al m = 1 := by
  unfold dcT at h
  have u1 := dcR_nn (f := f) (n := n) (pl := pl) (d := d) (al := al) (m := 1) h32
  have u2 := dcR_nn (f := f) (n := n) (pl := pl) (d := d) (al := al) (m := 2) h32
  have u3 := dcR_nn (f := f) (n := n) (pl := pl) (d := d) (al := al) (m := 3) h32
  rcases (by omega : m = 1 ∨ m = 2 ∨ m = 3) with q | q | q <;> subst q
  · rw [if_pos (show (1 : Int) < 4 ∧ 1 ≤ n by omega)] at h
    split at h <;> split at h <;> omega
  · rw [if_pos (show (1 : Int) < 4 ∧ 1 ≤ n by omega), if_pos (show (2 : Int) < 4 ∧ 2 ≤ n by omega)] at h
    split at h <;> omega
  · rw [if_pos (show (1 : Int) < 4 ∧ 1 ≤ n by omega), if_pos (show (2 : Int) < 4 ∧ 2 ≤ n by omega), if_pos (show (3 : Int) < 4 ∧ 3 ≤ n by omega)] at h
    omega
theorem RPA_am {S P : sS} {l : List rec} {x y : Int × Int × Int} (h : SMR S P) (F : FR l S P) (e : kdis l [(917, 918)] = true) (e2 : kdis l [(918, 919)] = true) (e3 : mD l [73, 74] = true) (r : RPA P x y) : RPA S x y := by
  unfold RPA at r ⊢
  rw [PR1_sm h F e e2 e3, mD_x F e3 73 (by decide), mD_x F e3 74 (by decide), pR_sm h] at r
  exact r
theorem roi_sm {S P A : sS} {nn : Int} (h : SMR S P) (e1 : Xi P 904 71 = Xi S 904 71) (e2 : Xi P 904 72 = Xi S 904 72) (e3 : Xi P 904 19 = Xi S 904 19) (r : ROI P A (Xi P 904 71) (Xi P 904 72).toNat nn) (z : (NT3 P).1 = 0) : (LOQ S (Xi S 904 71) (Xi S 904 72).toNat → NT3 A = NT3 P) ∧ RLO S (Xi S 904 71) (Xi S 904 72).toNat (NT3 A) := by
  rw [e1, e2] at r
  exact ⟨fun l => (r.1 ((LOQ_sm h e3).2 l)).1, RLO_sm h e3 r.2.1⟩

abbrev Q_mo_kindOfWay__p (S : sS) (manner : Int) : pst := fun r S1 => S = S1 ∧ (∃ z : Int, r = some (iv z) ∧ (-2147483648 ≤ z ∧ z ≤ 2147483647) ∧ (z = kwR manner))
set_option maxRecDepth 100000 in
theorem t_mo_kindOfWay__p {S : sS} (hH : RI S) (manner : Int) (hmanner : -2147483648 ≤ manner ∧ manner ≤ 2147483647) (d : Nat) : Mp lay0 (d + 1) m_mo_kindOfWay [iv manner] S (Q_mo_kindOfWay__p S manner) := by
  refine Mp_R rfl rfl (fun fu => ?_)
  refine y_iload_n rfl rfl ?_
  refine y_iconst rfl ?_
  refine y_icmp_ne rfl rfl (by unfold rg; omega) (by unfold rg; omega) (fun w1 => ?_) (fun w2 => ?_)
  · refine y_iload_n rfl rfl ?_
    refine y_iconst rfl ?_
    refine y_icmp_ne rfl rfl (by unfold rg; omega) (by unfold rg; omega) (fun w3 => ?_) (fun w4 => ?_)
    · refine y_iconst rfl ?_
      refine y_ireturn rfl rfl ?_
      exact ⟨rfl, _, rfl, ⟨by omega, by omega⟩, (by unfold kwR; first | (rw [if_pos (by omega)]) | (rw [if_neg (by omega), if_pos (by omega)]) | (rw [if_neg (by omega), if_neg (by omega)]))⟩
    · refine y_iconst rfl ?_
      refine y_goto rfl rfl ?_
      refine y_ireturn rfl rfl ?_
      exact ⟨rfl, _, rfl, ⟨by omega, by omega⟩, (by unfold kwR; first | (rw [if_pos (by omega)]) | (rw [if_neg (by omega), if_pos (by omega)]) | (rw [if_neg (by omega), if_neg (by omega)]))⟩
  · refine y_iconst rfl ?_
    refine y_goto rfl rfl ?_
    refine y_ireturn rfl rfl ?_
    exact ⟨rfl, _, rfl, ⟨by omega, by omega⟩, (by unfold kwR; first | (rw [if_pos (by omega)]) | (rw [if_neg (by omega), if_pos (by omega)]) | (rw [if_neg (by omega), if_neg (by omega)]))⟩
abbrev Q_mo_mayHold__p (S : sS) (m : Int) (kind : Int) : pst := fun r S1 => S = S1 ∧ (∃ z : Int, r = some (iv z) ∧ (0 ≤ z ∧ z ≤ 1) ∧ (z = mhR S m kind))
set_option maxRecDepth 100000 in
theorem t_mo_mayHold__p {S : sS} (hH : RI S) (m : Int) (kind : Int) (hm : -2147483648 ≤ m ∧ m ≤ 2147483647) (hkind : -1 ≤ kind ∧ kind ≤ 15) (hB : ABV S) (d : Nat) : Mp lay0 (d + 2) m_mo_mayHold [.ref 904, iv m, iv kind] S (Q_mo_mayHold__p S m kind) := by
  refine Mp_R rfl rfl (fun fu => ?_)
  refine y_iload_n rfl rfl ?_
  refine y_iconst rfl ?_
  refine y_icmp_ne rfl rfl (by unfold rg; omega) (by unfold rg; omega) (fun w1 => ?_) (fun w2 => ?_)
  · refine y_aload_n rfl rfl ?_
    refine y_iload_n rfl rfl ?_
    refine y_iload_n rfl rfl ?_
    refine y_callS rfl rfl (by decide) rfl (t_mo_kindOfWay__p hH m ⟨by omega, by omega⟩ _) ?_
    rintro _ _ ⟨rfl, z3, rfl, w3, w34⟩
    show Pl _ _ _ _ _ _ [iv z3, iv kind, .ref 904] _ _
    refine y_callV rfl rfl rfl (t_mo_isBelow__p hH kind z3 ⟨by omega, by omega⟩ ⟨by omega, by omega⟩ (by first | assumption | exact (by assumption : ABV S)) _) ?_
    rintro _ _ ⟨rfl, z4, rfl, w4, w37⟩
    show Pl _ _ _ _ _ _ [iv z4] _ _
    refine y_ireturn rfl (retI_z (by omega)) ?_
    exact ⟨rfl, _, rfl, ⟨by omega, by omega⟩, (by unfold mhR; first | (rw [if_pos (by omega)]; first | (rw [if_pos (by omega)]) | (rw [if_neg (by omega)])) | (rw [if_neg (by omega)]; have t := w37; rw [w34] at t; exact t))⟩
  · refine y_aload_n rfl rfl ?_
    refine y_iload_n rfl rfl ?_
    refine y_iconst rfl ?_
    refine y_callV rfl rfl rfl (t_mo_isBelow__p hH kind 1 ⟨by omega, by omega⟩ ⟨by omega, by omega⟩ (by first | assumption | exact (by assumption : ABV S)) _) ?_
    rintro _ _ ⟨rfl, z6, rfl, w6, w5⟩
    show Pl _ _ _ _ _ _ [iv z6] _ _
    refine y_if_ne rfl rfl (by unfold rg; omega) (fun w7 => ?_) (fun w8 => ?_)
    · refine y_iconst rfl ?_
      refine y_goto rfl rfl ?_
      refine y_ireturn rfl rfl ?_
      exact ⟨rfl, _, rfl, ⟨by omega, by omega⟩, (by unfold mhR; first | (rw [if_pos (by omega)]; first | (rw [if_pos (by omega)]) | (rw [if_neg (by omega)])) | (rw [if_neg (by omega)]; have t := w37; rw [w34] at t; exact t))⟩
    · refine y_aload_n rfl rfl ?_
      refine y_iload_n rfl rfl ?_
      refine y_iconst rfl ?_
      refine y_callV rfl rfl rfl (t_mo_isBelow__p hH kind 2 ⟨by omega, by omega⟩ ⟨by omega, by omega⟩ (by first | assumption | exact (by assumption : ABV S)) _) ?_
      rintro _ _ ⟨rfl, z10, rfl, w10, w9⟩
      show Pl _ _ _ _ _ _ [iv z10] _ _
      refine y_if_eq rfl rfl (by unfold rg; omega) (fun w11 => ?_) (fun w12 => ?_)
      · refine y_iconst rfl ?_
        refine y_goto rfl rfl ?_
        refine y_ireturn rfl rfl ?_
        exact ⟨rfl, _, rfl, ⟨by omega, by omega⟩, (by unfold mhR; first | (rw [if_pos (by omega)]; first | (rw [if_pos (by omega)]) | (rw [if_neg (by omega)])) | (rw [if_neg (by omega)]; have t := w37; rw [w34] at t; exact t))⟩
      · refine y_iconst rfl ?_
        refine y_goto rfl rfl ?_
        refine y_ireturn rfl rfl ?_
        exact ⟨rfl, _, rfl, ⟨by omega, by omega⟩, (by unfold mhR; first | (rw [if_pos (by omega)]; first | (rw [if_pos (by omega)]) | (rw [if_neg (by omega)])) | (rw [if_neg (by omega)]; have t := w37; rw [w34] at t; exact t))⟩
def md_mo_objectsOrNew__p : List rec := [(904, 905, 104, 105), (904, 905, 105, 106), (904, 905, 106, 107), (904, 905, 108, 109), (966, 967, 0, 100000)]
abbrev Q_mo_objectsOrNew__p (S : sS) : pst := fun r S1 => RI S1 ∧ FR md_mo_objectsOrNew__p S S1 ∧ (r = none ∧ (∃ nn : Int, ROI S S1 (Xi S 904 71) (Xi S 904 72).toNat nn))
set_option maxRecDepth 100000 in
theorem t_mo_objectsOrNew__p {S : sS} (hH : RI S) (hLS : LSP S) (h15 : 0 ≤ Xi S 904 15) (hRB : RBD S) (hz0 : Xi S 904 106 = 0 ∧ Xi S 904 108 = 0) (hl : 0 ≤ Xi S 904 71 ∧ Xi S 904 71 ≤ 2600 ∧ 0 ≤ Xi S 904 72 ∧ Xi S 904 72 ≤ 2600) (hob : 0 ≤ Xi S 904 19 ∧ Xi S 904 19 ≤ 24) (hp : PLL S (Xi S 904 71) (Xi S 904 72).toNat) (d : Nat) : Mp lay0 (d + 5) m_mo_objectsOrNew [.ref 904] S (Q_mo_objectsOrNew__p S) := by
  refine Mp_R rfl rfl (fun fu => ?_)
  have hF : FR md_mo_objectsOrNew__p S S := FR.rf
  have w1 : -2147483648 ≤ Xi S 904 106 ∧ Xi S 904 106 ≤ 2147483647 := Xi_rgI
  have w2 : -2147483648 ≤ Xi S 904 108 ∧ Xi S 904 108 ≤ 2147483647 := Xi_rgI
  have w3 : -2147483648 ≤ Xi S 904 15 ∧ Xi S 904 15 ≤ 2147483647 := Xi_rgI
  have w4 : -2147483648 ≤ Xi S 904 19 ∧ Xi S 904 19 ≤ 2147483647 := Xi_rgI
  have w5 : -2147483648 ≤ Xi S 904 71 ∧ Xi S 904 71 ≤ 2147483647 := Xi_rgI
  have w6 : -2147483648 ≤ Xi S 904 72 ∧ Xi S 904 72 ≤ 2147483647 := Xi_rgI
  have C7 : ∀ (n7 : Nat) (_ : n7 ≤ fu) (T1 : sS) (_ : RI T1) (_ : FR md_mo_objectsOrNew__p S T1) (v1 : Int) (v2 : Int), (0 ≤ v1 ∧ v1 ≤ 3000) → (0 ≤ v2 ∧ v2 ≤ 2600) → (0 ≤ v2 ∧ v2 ≤ Xi S 904 72) → (0 ≤ v1 ∧ v1 ≤ 24 + v2) → (Hid (ROI S T1 (Xi S 904 71) (v2).toNat v1)) → (0 ≤ Xi T1 904 108) → (Xi T1 904 71 = Xi S 904 71) → (Xi T1 904 72 = Xi S 904 72) → Pl n7 lay0 (d + 4) m_mo_objectsOrNew 7 [(0, .ref 904), (1, iv v1), (2, iv v2)] [] T1 (Q_mo_objectsOrNew__p S) := by
    intro n7
    induction n7 with
    | zero => intros; exact Pl_0
    | succ n7 ih7 =>
      intro hm7 T1 hHT1 hFT1 v1 v2 w7 w8 w9 w10 R7 w11 w12 w13
      have w14 : Xi T1 904 15 = Xi S 904 15 := hFT1.x _ _ rfl
      have w15 : Xi T1 904 19 = Xi S 904 19 := hFT1.x _ _ rfl
      have w16 : Xi T1 904 69 = Xi S 904 69 := hFT1.x _ _ rfl
      have w17 : Xi T1 904 71 = Xi S 904 71 := hFT1.x _ _ rfl
      have w18 : Xi T1 904 72 = Xi S 904 72 := hFT1.x _ _ rfl
      have w19 : -2147483648 ≤ Xi T1 904 108 ∧ Xi T1 904 108 ≤ 2147483647 := Xi_rgI
      have w20 : -2147483648 ≤ Xi T1 904 15 ∧ Xi T1 904 15 ≤ 2147483647 := Xi_rgI
      have w21 : -2147483648 ≤ Xi T1 904 19 ∧ Xi T1 904 19 ≤ 2147483647 := Xi_rgI
      have w22 : -2147483648 ≤ Xi T1 904 71 ∧ Xi T1 904 71 ≤ 2147483647 := Xi_rgI
      have w23 : -2147483648 ≤ Xi T1 904 72 ∧ Xi T1 904 72 ≤ 2147483647 := Xi_rgI
      refine ys_iload_n rfl rfl ?_
      refine y_aload_n rfl rfl ?_
      refine y_gfi rfl rfl rfl rfl rfl ?_
      refine y_icmp_ge rfl rfl (by unfold rg; omega) (by unfold rg; omega) (fun w24 => ?_) (fun w25 => ?_)
      · refine y_return rfl rfl ?_
        exact ⟨hHT1, hFT1, rfl, (⟨v1, by have t := R7.o; rw [show v2 = Xi S 904 72 by omega] at t; exact t⟩)⟩
      · refine y_aload_n rfl rfl ?_
        have S15 : Hid (SMR S T1) := SMR_FR hFT1 rfl rfl
        have w15 : Xi T1 904 71 = Xi S 904 71 := hFT1.x 904 71 rfl
        refine y_gfi rfl rfl rfl rfl rfl ?_
        refine y_iload_n rfl rfl ?_
        refine y_iadd rfl ?_
        refine y_istore_n rfl rfl rfl ?_
        have r21 : ((Xi T1 904 71) + v2) = Xi S 904 71 + ((v2.toNat : Nat) : Int) := by omega
        refine y_aload_n rfl rfl ?_
        refine y_iload_n rfl rfl ?_
        refine y_iconst rfl ?_
        refine y_callV rfl rfl rfl (t_mo_meansRun__p hHT1 ((Xi T1 904 71) + v2) 4 ⟨by omega, by omega⟩ ⟨by omega, by omega⟩ (by first | assumption | exact (LSP_FR hFT1 rfl rfl (by assumption : LSP S))) (by first | assumption | omega) (by first | assumption | exact (RBD_FR hFT1 rfl (by assumption : RBD S))) _) ?_
        rintro _ _ ⟨rfl, z26, rfl, w26, f25⟩
        show Pl _ _ _ _ _ _ [iv z26] _ _
        have k25 : z26 = rnR S (Xi S 904 71 + ((v2.toNat : Nat) : Int)) 4 := by have t := f25; rw [rnR_sm S15.o, r21] at t; exact t
        clear f25
        refine y_iconst rfl ?_
        refine y_icmp_eq rfl rfl (by unfold rg; omega) (by unfold rg; omega) (fun w27 => ?_) (fun w28 => ?_)
        · refine y_aload_n rfl rfl ?_
          refine y_iload_n rfl rfl ?_
          refine y_callV rfl rfl rfl (t_mo_meansNothing__p hHT1 ((Xi T1 904 71) + v2) ⟨by omega, by omega⟩ (by first | assumption | exact (LSP_FR hFT1 rfl rfl (by assumption : LSP S))) (by first | assumption | omega) (by first | assumption | exact (RBD_FR hFT1 rfl (by assumption : RBD S))) _) ?_
          rintro _ _ ⟨rfl, z29, rfl, w29, f37⟩
          show Pl _ _ _ _ _ _ [iv z29] _ _
          have k37 : Hid ((z29 = 1 → rmR S (Xi S 904 71 + ((v2.toNat : Nat) : Int)) = -1) ∧ (z29 = 0 → rmR S (Xi S 904 71 + ((v2.toNat : Nat) : Int)) ≠ -1)) := by have t := f37; rw [rmR_sm S15.o, r21] at t; exact t
          clear f37
          refine y_if_eq rfl rfl (by unfold rg; omega) (fun w30 => ?_) (fun w31 => ?_)
          · refine y_aload_n rfl rfl ?_
            have m74 : rmR S (Xi S 904 71 + ((v2.toNat : Nat) : Int)) ≠ -1 := k37.o.2 (by omega)
            refine y_iconst rfl ?_
            refine y_aload_n rfl rfl ?_
            refine y_gfr rfl rfl rfl rfl rfl (hHT1.r 904 67 950 rfl) ?_
            refine y_iload_n rfl rfl ?_
            refine y_ialoadP (n := 2600) rfl rfl (by unfold rg; omega) (fun w32 w33 => ?_)
            have w34 : -2147483648 ≤ (Xi T1 950 ((((Xi T1 904 71) + v2)).toNat)) ∧ (Xi T1 950 ((((Xi T1 904 71) + v2)).toNat)) ≤ 2147483647 := Xi_rgI
            refine y_callV rfl rfl rfl (t_mo_note__p hHT1 4 (Xi T1 950 ((((Xi T1 904 71) + v2)).toNat)) ⟨by omega, by omega⟩ ⟨by omega, by omega⟩ _) ?_
            rintro _ T2 ⟨hHT2, w36, rfl, nt82⟩
            have hFT2 : FR md_mo_objectsOrNew__p S T2 := FR.tr hFT1 w36 rfl
            show Pl _ _ _ _ _ _ [] _ _
            have K82 : True := trivial
            have F82 := (by assumption : FR md_mo_note__p T1 T2)
            have P82 : Xi T1 908 (Xi T1 950 (((Xi T1 904 71) + v2)).toNat).toNat = pR S (Xi S 904 71 + ((v2.toNat : Nat) : Int)) := by rw [← pR_sm S15.o, ← r21]; rfl
            have G82 : Hid (ROI S T2 (Xi S 904 71) (v2.toNat + 1) v1) := roi_f R7.o (by omega) m74 nt82 P82 (fun k hk => hp k v2.toNat hk (by omega)) hz0.1 (F82.x 904 108 rfl)
            refine y_iinc rfl rfl rfl rfl ?_
            have H85 : Hid (ROI S T2 (Xi S 904 71) (v2.toNat + 1) v1) := by first | (have t := K55; exact Q55.o _ (by omega)) | (have t := K82; exact G82) | exact roi_k R7.o (by omega) (rn_rm (s := 4) (by omega))
            have g85 : 0 ≤ Xi T2 904 108 := H85.o.2.2
            refine y_goto rfl rfl ?_
            have w37 : Xi T2 904 108 = Xi T1 904 108 := (show Xi T2 904 108 = Xi T1 904 108 from w36.x _ _ rfl)
            have w38 : Xi T2 904 15 = Xi T1 904 15 := (show Xi T2 904 15 = Xi T1 904 15 from w36.x _ _ rfl)
            have w39 : Xi T2 904 19 = Xi T1 904 19 := (show Xi T2 904 19 = Xi T1 904 19 from w36.x _ _ rfl)
            have w40 : Xi T2 904 71 = Xi T1 904 71 := (show Xi T2 904 71 = Xi T1 904 71 from w36.x _ _ rfl)
            have w41 : Xi T2 904 72 = Xi T1 904 72 := (show Xi T2 904 72 = Xi T1 904 72 from w36.x _ _ rfl)
            exact Pl_weak (ih7 (by omega) T2 hHT2 hFT2 (v1) ((v2 + 1)) (by omega) (by omega) (by omega) (by omega) (by first | (have t := H85; rw [show (v2 + 1).toNat = v2.toNat + 1 by omega]; exact H85) | exact roi_0 rfl hz0.2) (by omega) (by omega) (by omega)) (by omega) (And.intro rfl (And.intro rfl (And.intro rfl (True.intro))))
          · refine y_aload_n rfl rfl ?_
            have m43 : rmR S (Xi S 904 71 + ((v2.toNat : Nat) : Int)) = -1 := k37.o.1 (by omega)
            refine y_iload_n rfl rfl ?_
            refine y_callV rfl rfl rfl (t_mo_isNew__p hHT1 ((Xi T1 904 71) + v2) ⟨by omega, by omega⟩ (by first | assumption | exact (LSP_FR hFT1 rfl rfl (by assumption : LSP S))) (by first | assumption | omega) (by first | assumption | exact (RBD_FR hFT1 rfl (by assumption : RBD S))) (by first | assumption | omega) _) ?_
            rintro _ _ ⟨rfl, z42, rfl, w42, f45⟩
            show Pl _ _ _ _ _ _ [iv z42] _ _
            have f45_ := Hid.i f45
            clear f45
            refine y_istore rfl rfl rfl ?_
            refine y_aload_n rfl rfl ?_
            refine y_iload_n rfl rfl ?_
            refine y_iload_n rfl rfl ?_
            refine y_bipush rfl rfl ?_
            refine y_callV rfl rfl rfl (t_mo_mustBeNew__p hHT1 ((Xi T1 904 71) + v2) v1 24 ⟨by omega, by omega⟩ ⟨by omega, by omega⟩ ⟨by omega, by omega⟩ (by first | assumption | exact (LSP_FR hFT1 rfl rfl (by assumption : LSP S))) (by first | assumption | omega) (by first | assumption | exact (RBD_FR hFT1 rfl (by assumption : RBD S))) (by first | assumption | omega) _) ?_
            rintro _ T3 ⟨hHT3, w44, rfl, y55, m55⟩
            have hFT3 : FR md_mo_objectsOrNew__p S T3 := FR.tr hFT1 w44 rfl
            show Pl _ _ _ _ _ _ [] _ _
            have K55 : True := trivial
            have F55 := (by assumption : FR md_mo_mustBeNew__p T1 T3)
            have y55_ := Hid.i y55
            have m55_ := Hid.i m55
            clear y55 m55
            have P55 : Xi T1 908 (Xi T1 950 (((Xi T1 904 71) + v2)).toNat).toNat = pR S (Xi S 904 71 + ((v2.toNat : Nat) : Int)) := by rw [← pR_sm S15.o, ← r21]; rfl
            have Q55 : Hid (∀ z : Int, z = z42 → ROI S T3 (Xi S 904 71) (v2.toNat + 1) (v1 + z)) := fun z hz => roi_s (z := z) R7.o (by omega) m43 y55_.o m55_.o (by rw [hz]; exact f45_.o) (by omega) r21 S15.o P55 (fun k hk => hp k v2.toNat hk (by omega)) hz0.1
            refine y_iload_n rfl rfl ?_
            refine y_iload rfl rfl ?_
            refine y_if_eq rfl rfl (by unfold rg; omega) (fun w45 => ?_) (fun w46 => ?_)
            · refine y_iconst rfl ?_
              refine y_iadd rfl ?_
              refine y_istore_n rfl rfl rfl ?_
              refine y_goto rfl rfl ?_
              refine y_iinc rfl rfl rfl rfl ?_
              have H85 : Hid (ROI S T3 (Xi S 904 71) (v2.toNat + 1) (v1 + 0)) := by first | (have t := K55; exact Q55.o _ (by omega)) | (have t := K82; exact G82) | exact roi_k R7.o (by omega) (rn_rm (s := 4) (by omega))
              have g85 : 0 ≤ Xi T3 904 108 := H85.o.2.2
              refine y_goto rfl rfl ?_
              have w47 : Xi T3 904 15 = Xi T1 904 15 := (show Xi T3 904 15 = Xi T1 904 15 from w44.x _ _ rfl)
              have w48 : Xi T3 904 19 = Xi T1 904 19 := (show Xi T3 904 19 = Xi T1 904 19 from w44.x _ _ rfl)
              have w49 : Xi T3 904 71 = Xi T1 904 71 := (show Xi T3 904 71 = Xi T1 904 71 from w44.x _ _ rfl)
              have w50 : Xi T3 904 72 = Xi T1 904 72 := (show Xi T3 904 72 = Xi T1 904 72 from w44.x _ _ rfl)
              exact Pl_weak (ih7 (by omega) T3 hHT3 hFT3 ((v1 + 0)) ((v2 + 1)) (by omega) (by omega) (by omega) (by omega) (by first | (have t := H85; rw [show (v2 + 1).toNat = v2.toNat + 1 by omega]; exact H85) | exact roi_0 rfl hz0.2) (by omega) (by omega) (by omega)) (by omega) (And.intro rfl (And.intro rfl (And.intro rfl (True.intro))))
            · refine y_iconst rfl ?_
              refine y_goto rfl rfl ?_
              refine y_iadd rfl ?_
              refine y_istore_n rfl rfl rfl ?_
              refine y_goto rfl rfl ?_
              refine y_iinc rfl rfl rfl rfl ?_
              have H85 : Hid (ROI S T3 (Xi S 904 71) (v2.toNat + 1) (v1 + 1)) := by first | (have t := K55; exact Q55.o _ (by omega)) | (have t := K82; exact G82) | exact roi_k R7.o (by omega) (rn_rm (s := 4) (by omega))
              have g85 : 0 ≤ Xi T3 904 108 := H85.o.2.2
              refine y_goto rfl rfl ?_
              have w51 : Xi T3 904 15 = Xi T1 904 15 := (show Xi T3 904 15 = Xi T1 904 15 from w44.x _ _ rfl)
              have w52 : Xi T3 904 19 = Xi T1 904 19 := (show Xi T3 904 19 = Xi T1 904 19 from w44.x _ _ rfl)
              have w53 : Xi T3 904 71 = Xi T1 904 71 := (show Xi T3 904 71 = Xi T1 904 71 from w44.x _ _ rfl)
              have w54 : Xi T3 904 72 = Xi T1 904 72 := (show Xi T3 904 72 = Xi T1 904 72 from w44.x _ _ rfl)
              exact Pl_weak (ih7 (by omega) T3 hHT3 hFT3 ((v1 + 1)) ((v2 + 1)) (by omega) (by omega) (by omega) (by omega) (by first | (have t := H85; rw [show (v2 + 1).toNat = v2.toNat + 1 by omega]; exact H85) | exact roi_0 rfl hz0.2) (by omega) (by omega) (by omega)) (by omega) (And.intro rfl (And.intro rfl (And.intro rfl (True.intro))))
        · refine y_goto rfl rfl ?_
          refine y_iinc rfl rfl rfl rfl ?_
          have H85 : Hid (ROI S T1 (Xi S 904 71) (v2.toNat + 1) v1) := by first | (have t := K55; exact Q55.o _ (by omega)) | (have t := K82; exact G82) | exact roi_k R7.o (by omega) (rn_rm (s := 4) (by omega))
          have g85 : 0 ≤ Xi T1 904 108 := H85.o.2.2
          refine y_goto rfl rfl ?_
          exact Pl_weak (ih7 (by omega) T1 hHT1 hFT1 (v1) ((v2 + 1)) (by omega) (by omega) (by omega) (by omega) (by first | (have t := H85; rw [show (v2 + 1).toNat = v2.toNat + 1 by omega]; exact H85) | exact roi_0 rfl hz0.2) (by omega) (by omega) (by omega)) (by omega) (And.intro rfl (And.intro rfl (And.intro rfl (True.intro))))
  refine y_aload_n rfl rfl ?_
  refine y_gfi rfl rfl rfl rfl rfl ?_
  refine y_istore_n rfl rfl rfl ?_
  refine y_iconst rfl ?_
  refine y_istore_n rfl rfl rfl ?_
  exact Pl_weak (C7 fu (by omega) S hH hF ((Xi S 904 19)) (0) (by omega) (by omega) (by omega) (by omega) (by first | (have t := H85; rw [show (v2 + 1).toNat = v2.toNat + 1 by omega]; exact H85) | exact roi_0 rfl hz0.2) (by omega) (by omega) (by omega)) (by omega) (And.intro rfl (And.intro rfl (And.intro rfl (True.intro))))
def md_mo_askPlace__p : List rec := [(904, 905, 104, 105), (904, 905, 105, 106), (904, 905, 106, 107)]
abbrev Q_mo_askPlace__p (S : sS) : pst := fun r S1 => RI S1 ∧ FR md_mo_askPlace__p S S1 ∧ (r = none ∧ (RPA S (NT3 S) (NT3 S1)))
set_option maxRecDepth 100000 in
theorem t_mo_askPlace__p {S : sS} (hH : RI S) (hLS : LSP S) (h15 : 0 ≤ Xi S 904 15) (hRB : RBD S) (hB : ABV S) (hko : Hid (∀ j : Nat, -1 ≤ Xi S 918 j ∧ Xi S 918 j ≤ 15)) (hr74 : -1 ≤ Xi S 904 74 ∧ Xi S 904 74 ≤ 2600) (d : Nat) : Mp lay0 (d + 5) m_mo_askPlace [.ref 904] S (Q_mo_askPlace__p S) := by
  refine Mp_R rfl rfl (fun fu => ?_)
  have hF : FR md_mo_askPlace__p S S := FR.rf
  have w1 : -2147483648 ≤ Xi S 904 104 ∧ Xi S 904 104 ≤ 2147483647 := Xi_rgI
  have w2 : -2147483648 ≤ Xi S 904 105 ∧ Xi S 904 105 ≤ 2147483647 := Xi_rgI
  have w3 : -2147483648 ≤ Xi S 904 106 ∧ Xi S 904 106 ≤ 2147483647 := Xi_rgI
  have w4 : -2147483648 ≤ Xi S 904 15 ∧ Xi S 904 15 ≤ 2147483647 := Xi_rgI
  have w5 : -2147483648 ≤ Xi S 904 73 ∧ Xi S 904 73 ≤ 2147483647 := Xi_rgI
  have w6 : -2147483648 ≤ Xi S 904 74 ∧ Xi S 904 74 ≤ 2147483647 := Xi_rgI
  refine y_aload_n rfl rfl ?_
  refine y_gfi rfl rfl rfl rfl rfl ?_
  refine y_if_ne rfl rfl (by unfold rg; omega) (fun w7 => ?_) (fun w8 => ?_)
  · refine y_aload_n rfl rfl ?_
    refine y_aload_n rfl rfl ?_
    refine y_gfi rfl rfl rfl rfl rfl ?_
    refine y_iconst rfl ?_
    refine y_callV rfl rfl rfl (t_mo_meansRun__p hH (Xi S 904 74) 4 ⟨by omega, by omega⟩ ⟨by omega, by omega⟩ (by first | assumption | exact (LSP_FR hF rfl rfl (by assumption : LSP S))) (by first | assumption | omega) (by first | assumption | exact (RBD_FR hF rfl (by assumption : RBD S))) _) ?_
    rintro _ _ ⟨rfl, z9, rfl, w9, f14⟩
    show Pl _ _ _ _ _ _ [iv z9] _ _
    refine y_istore_n rfl rfl rfl ?_
    refine y_aload_n rfl rfl ?_
    refine y_iload_n rfl rfl ?_
    refine y_iconst rfl ?_
    refine y_icmp_eq rfl rfl (by unfold rg; omega) (by unfold rg; omega) (fun w10 => ?_) (fun w11 => ?_)
    · refine y_iconst rfl ?_
      have K45 : Hid (¬ PR1 S) := fun q => by first | (have t := k35; have u := q.2; omega) | (have u := q.1; omega)
      refine y_iconst rfl ?_
      refine y_aload_n rfl rfl ?_
      refine y_gfr rfl rfl rfl rfl rfl (hH.r 904 67 950 rfl) ?_
      refine y_aload_n rfl rfl ?_
      refine y_gfi rfl rfl rfl rfl rfl ?_
      refine y_ialoadP (n := 2600) rfl rfl (by unfold rg; omega) (fun w12 w13 => ?_)
      have w14 : -2147483648 ≤ (Xi S 950 (((Xi S 904 74)).toNat)) ∧ (Xi S 950 (((Xi S 904 74)).toNat)) ≤ 2147483647 := Xi_rgI
      refine y_callV rfl rfl rfl (t_mo_need__p hH 0 4 (Xi S 950 (((Xi S 904 74)).toNat)) ⟨by omega, by omega⟩ ⟨by omega, by omega⟩ ⟨by omega, by omega⟩ _) ?_
      rintro _ T1 ⟨hHT1, w16, rfl, nt56⟩
      have hFT1 : FR md_mo_askPlace__p S T1 := FR.tr hF w16 rfl
      show Pl _ _ _ _ _ _ [] _ _
      have K56 : True := trivial
      have R56 : RPA S (NT3 S) (NT3 T1) := by first | (have t := K41; exact ⟨fun _ => (by have t := nt56; rw [if_neg (show ¬ (1 : Int) = 0 by decide)] at t; exact t), fun _ q => absurd K41.o q⟩) | exact ⟨fun q => absurd (q (by omega)) K45.o, fun _ _ => (by have t := nt56; rw [if_pos (show (0 : Int) = 0 from rfl)] at t; exact t)⟩
      refine y_return rfl rfl ?_
      exact ⟨hHT1, hFT1, rfl, (by first | (have t := K56; exact R56) | exact ⟨fun _ => rfl, fun q => absurd (by omega) q⟩)⟩
    · refine y_aload_n rfl rfl ?_
      have k24 := hko.o ((z9).toNat)
      refine y_aload_n rfl rfl ?_
      refine y_gfi rfl rfl rfl rfl rfl ?_
      refine y_aload_n rfl rfl ?_
      refine y_gfr rfl rfl rfl rfl rfl (hH.r 904 20 918 rfl) ?_
      refine y_iload_n rfl rfl ?_
      refine y_ialoadP (n := 24) rfl rfl (by unfold rg; omega) (fun w20 w21 => ?_)
      have w22 : -2147483648 ≤ (Xi S 918 ((z9).toNat)) ∧ (Xi S 918 ((z9).toNat)) ≤ 2147483647 := Xi_rgI
      refine y_callV rfl rfl rfl (t_mo_mayHold__p hH (Xi S 904 73) (Xi S 918 ((z9).toNat)) ⟨by omega, by omega⟩ ⟨by omega, by omega⟩ (by first | assumption | exact (ABV_FR hF rfl (by assumption : ABV S))) _) ?_
      rintro _ _ ⟨rfl, z23, rfl, w23, w35⟩
      show Pl _ _ _ _ _ _ [iv z23, .ref 904] _ _
      have k35 : z23 = mhR S (Xi S 904 73) (Xi S 918 (rnR S (Xi S 904 74) 4).toNat) := by have t := w35; rw [f14] at t; exact t
      refine y_if_eq rfl rfl (by unfold rg; omega) (fun w24 => ?_) (fun w25 => ?_)
      · refine y_iconst rfl ?_
        have K45 : Hid (¬ PR1 S) := fun q => by first | (have t := k35; have u := q.2; omega) | (have u := q.1; omega)
        refine y_iconst rfl ?_
        refine y_aload_n rfl rfl ?_
        refine y_gfr rfl rfl rfl rfl rfl (hH.r 904 67 950 rfl) ?_
        refine y_aload_n rfl rfl ?_
        refine y_gfi rfl rfl rfl rfl rfl ?_
        refine y_ialoadP (n := 2600) rfl rfl (by unfold rg; omega) (fun w26 w27 => ?_)
        have w28 : -2147483648 ≤ (Xi S 950 (((Xi S 904 74)).toNat)) ∧ (Xi S 950 (((Xi S 904 74)).toNat)) ≤ 2147483647 := Xi_rgI
        refine y_callV rfl rfl rfl (t_mo_need__p hH 0 4 (Xi S 950 (((Xi S 904 74)).toNat)) ⟨by omega, by omega⟩ ⟨by omega, by omega⟩ ⟨by omega, by omega⟩ _) ?_
        rintro _ T2 ⟨hHT2, w30, rfl, nt56⟩
        have hFT2 : FR md_mo_askPlace__p S T2 := FR.tr hF w30 rfl
        show Pl _ _ _ _ _ _ [] _ _
        have K56 : True := trivial
        have R56 : RPA S (NT3 S) (NT3 T2) := by first | (have t := K41; exact ⟨fun _ => (by have t := nt56; rw [if_neg (show ¬ (1 : Int) = 0 by decide)] at t; exact t), fun _ q => absurd K41.o q⟩) | exact ⟨fun q => absurd (q (by omega)) K45.o, fun _ _ => (by have t := nt56; rw [if_pos (show (0 : Int) = 0 from rfl)] at t; exact t)⟩
        refine y_return rfl rfl ?_
        exact ⟨hHT2, hFT2, rfl, (by first | (have t := K56; exact R56) | exact ⟨fun _ => rfl, fun q => absurd (by omega) q⟩)⟩
      · refine y_iconst rfl ?_
        have K41 : Hid (PR1 S) := ⟨by omega, by omega⟩
        refine y_goto rfl rfl ?_
        refine y_iconst rfl ?_
        refine y_aload_n rfl rfl ?_
        refine y_gfr rfl rfl rfl rfl rfl (hH.r 904 67 950 rfl) ?_
        refine y_aload_n rfl rfl ?_
        refine y_gfi rfl rfl rfl rfl rfl ?_
        refine y_ialoadP (n := 2600) rfl rfl (by unfold rg; omega) (fun w34 w35 => ?_)
        have w36 : -2147483648 ≤ (Xi S 950 (((Xi S 904 74)).toNat)) ∧ (Xi S 950 (((Xi S 904 74)).toNat)) ≤ 2147483647 := Xi_rgI
        refine y_callV rfl rfl rfl (t_mo_need__p hH 1 4 (Xi S 950 (((Xi S 904 74)).toNat)) ⟨by omega, by omega⟩ ⟨by omega, by omega⟩ ⟨by omega, by omega⟩ _) ?_
        rintro _ T3 ⟨hHT3, w38, rfl, nt56⟩
        have hFT3 : FR md_mo_askPlace__p S T3 := FR.tr hF w38 rfl
        show Pl _ _ _ _ _ _ [] _ _
        have K56 : True := trivial
        have R56 : RPA S (NT3 S) (NT3 T3) := by first | (have t := K41; exact ⟨fun _ => (by have t := nt56; rw [if_neg (show ¬ (1 : Int) = 0 by decide)] at t; exact t), fun _ q => absurd K41.o q⟩) | exact ⟨fun q => absurd (q (by omega)) K45.o, fun _ _ => (by have t := nt56; rw [if_pos (show (0 : Int) = 0 from rfl)] at t; exact t)⟩
        refine y_return rfl rfl ?_
        exact ⟨hHT3, hFT3, rfl, (by first | (have t := K56; exact R56) | exact ⟨fun _ => rfl, fun q => absurd (by omega) q⟩)⟩
  · refine y_return rfl rfl ?_
    exact ⟨hH, hF, rfl, (by first | (have t := K56; exact R56) | exact ⟨fun _ => rfl, fun q => absurd (by omega) q⟩)⟩
def md_mo_asked__13 : List rec := [(904, 905, 64, 65), (904, 905, 104, 105), (904, 905, 105, 106), (904, 905, 106, 107), (904, 905, 108, 109), (904, 905, 109, 110), (904, 905, 110, 111), (904, 905, 112, 113), (904, 905, 113, 114), (904, 905, 115, 116), (904, 905, 116, 117), (904, 905, 117, 118), (904, 905, 125, 126), (904, 905, 128, 129), (904, 905, 129, 130), (904, 905, 130, 131), (904, 905, 142, 143), (904, 905, 144, 145), (904, 905, 146, 147), (904, 905, 147, 148), (904, 905, 150, 151), (904, 905, 151, 152), (904, 905, 153, 154), (904, 905, 154, 155), (904, 905, 156, 157), (904, 905, 157, 158), (904, 905, 158, 159), (904, 905, 160, 161), (966, 967, 0, 100000), (967, 968, 0, 100000), (968, 969, 0, 100000), (969, 970, 0, 100000), (970, 971, 0, 100000), (971, 972, 0, 100000), (972, 973, 0, 100000), (973, 974, 0, 100000), (974, 975, 0, 100000), (975, 976, 0, 100000), (976, 977, 0, 100000), (977, 978, 0, 100000), (978, 979, 0, 100000), (979, 980, 0, 100000), (980, 981, 0, 100000), (981, 982, 0, 100000), (982, 983, 0, 100000), (983, 984, 0, 100000), (984, 985, 0, 100000), (985, 986, 0, 100000), (986, 987, 0, 100000), (987, 988, 0, 100000), (988, 989, 0, 100000), (989, 990, 0, 100000), (990, 991, 0, 100000), (991, 992, 0, 100000), (992, 993, 0, 100000), (993, 994, 0, 100000), (994, 995, 0, 100000)]
abbrev Q_mo_asked__13 (S : sS) (first : Int) : pst := fun r S1 => RI S1 ∧ FR md_mo_asked__13 S S1 ∧ (r = none ∧ (RO12 S S1 0))
set_option maxRecDepth 100000 in
theorem t_mo_asked__13 {S : sS} (hH : RI S) (first : Int) (hfirst : 0 ≤ first ∧ first ≤ 5001) (hLS : LSP S) (h15 : 0 ≤ Xi S 904 15) (hRB : RBD S) (hLX : LXR S) (hB : ABV S) (hob : 0 ≤ Xi S 904 19 ∧ Xi S 904 19 ≤ 24) (hko : Hid (∀ j : Nat, -1 ≤ Xi S 918 j ∧ Xi S 918 j ≤ 15)) (hl : 0 ≤ Xi S 904 71 ∧ Xi S 904 71 ≤ 2600 ∧ 0 ≤ Xi S 904 72 ∧ Xi S 904 72 ≤ 2600) (hkk : Hid (∀ k : Nat, (k : Int) < Xi S 904 15 → Xi S 914 k ≤ 1 → Xi S 915 k ≤ 15)) (hp32 : 0 ≤ Xi S 904 32 ∧ Xi S 904 32 ≤ 12) (hr74 : -1 ≤ Xi S 904 74 ∧ Xi S 904 74 ≤ 2600) (hpl : PLL S (Xi S 904 71) (Xi S 904 72).toNat) (hs : Xi S 904 70 = 13) (hpp : Hid (Xi S 904 73 ≠ 0 → ∀ k : Nat, k < (Xi S 904 72).toNat → pR S (Xi S 904 71 + k) < pR S (Xi S 904 74))) (d : Nat) : Mp lay0 (d + 13) m_mo_asked [.ref 904, iv first] S (Q_mo_asked__13 S first) := by
  refine Mp_R rfl rfl (fun fu => ?_)
  have hF : FR md_mo_asked__13 S S := FR.rf
  have w1 : -2147483648 ≤ Xi S 904 104 ∧ Xi S 904 104 ≤ 2147483647 := Xi_rgI
  have w2 : -2147483648 ≤ Xi S 904 105 ∧ Xi S 904 105 ≤ 2147483647 := Xi_rgI
  have w3 : -2147483648 ≤ Xi S 904 106 ∧ Xi S 904 106 ≤ 2147483647 := Xi_rgI
  have w4 : -2147483648 ≤ Xi S 904 108 ∧ Xi S 904 108 ≤ 2147483647 := Xi_rgI
  have w5 : -2147483648 ≤ Xi S 904 15 ∧ Xi S 904 15 ≤ 2147483647 := Xi_rgI
  have w6 : -2147483648 ≤ Xi S 904 19 ∧ Xi S 904 19 ≤ 2147483647 := Xi_rgI
  have w7 : -2147483648 ≤ Xi S 904 32 ∧ Xi S 904 32 ≤ 2147483647 := Xi_rgI
  have w8 : -2147483648 ≤ Xi S 904 70 ∧ Xi S 904 70 ≤ 2147483647 := Xi_rgI
  have w9 : -2147483648 ≤ Xi S 904 71 ∧ Xi S 904 71 ≤ 2147483647 := Xi_rgI
  have w10 : -2147483648 ≤ Xi S 904 72 ∧ Xi S 904 72 ≤ 2147483647 := Xi_rgI
  have w11 : -2147483648 ≤ Xi S 904 73 ∧ Xi S 904 73 ≤ 2147483647 := Xi_rgI
  have w12 : -2147483648 ≤ Xi S 904 74 ∧ Xi S 904 74 ≤ 2147483647 := Xi_rgI
  have w13 : -2147483648 ≤ Xi S 904 78 ∧ Xi S 904 78 ≤ 2147483647 := Xi_rgI
  refine y_aload_n rfl rfl ?_
  refine y_iconst rfl ?_
  refine y_pfi rfl rfl rfl rfl ?_
  obtain ⟨U1, eU1⟩ : ∃ T : sS, T = uI S 904 106 (Int32.ofInt 0) := ⟨_, rfl⟩
  rw [← eU1]
  have hHU1 : RI U1 := by rw [eU1]; exact RI_w hH
  have hFU1 : FR md_mo_asked__13 S U1 := by rw [eU1]; exact FR.wI hF (mdf_i (r := (904, 905, 106, 107)) (List.mem_of_getElem? (i := 3) rfl) (inR_i (by omega) (by omega) (by omega) (by omega)))
  have w14 : Xi U1 904 106 = 0 := by rw [eU1]; exact Xi_same (by unfold rg; omega)
  refine y_aload_n rfl rfl ?_
  refine y_iconst rfl ?_
  refine y_pfi rfl rfl rfl rfl ?_
  obtain ⟨U2, eU2⟩ : ∃ T : sS, T = uI U1 904 108 (Int32.ofInt 0) := ⟨_, rfl⟩
  rw [← eU2]
  have hHU2 : RI U2 := by rw [eU2]; exact RI_w hHU1
  have hFU2 : FR md_mo_asked__13 S U2 := by rw [eU2]; exact FR.wI hFU1 (mdf_i (r := (904, 905, 108, 109)) (List.mem_of_getElem? (i := 4) rfl) (inR_i (by omega) (by omega) (by omega) (by omega)))
  have w15 : Xi U2 904 108 = 0 := by rw [eU2]; exact Xi_same (by unfold rg; omega)
  refine y_aload_n rfl rfl ?_
  refine y_iconst rfl ?_
  refine y_pfi rfl rfl rfl rfl ?_
  obtain ⟨U3, eU3⟩ : ∃ T : sS, T = uI U2 904 115 (Int32.ofInt (-1)) := ⟨_, rfl⟩
  rw [← eU3]
  have hHU3 : RI U3 := by rw [eU3]; exact RI_w hHU2
  have hFU3 : FR md_mo_asked__13 S U3 := by rw [eU3]; exact FR.wI hFU2 (mdf_i (r := (904, 905, 115, 116)) (List.mem_of_getElem? (i := 9) rfl) (inR_i (by omega) (by omega) (by omega) (by omega)))
  have w16 : Xi U3 904 115 = (-1) := by rw [eU3]; exact Xi_same (by unfold rg; omega)
  refine y_aload_n rfl rfl ?_
  refine y_iconst rfl ?_
  refine y_pfi rfl rfl rfl rfl ?_
  obtain ⟨U4, eU4⟩ : ∃ T : sS, T = uI U3 904 116 (Int32.ofInt (-1)) := ⟨_, rfl⟩
  rw [← eU4]
  have hHU4 : RI U4 := by rw [eU4]; exact RI_w hHU3
  have hFU4 : FR md_mo_asked__13 S U4 := by rw [eU4]; exact FR.wI hFU3 (mdf_i (r := (904, 905, 116, 117)) (List.mem_of_getElem? (i := 10) rfl) (inR_i (by omega) (by omega) (by omega) (by omega)))
  have w17 : Xi U4 904 116 = (-1) := by rw [eU4]; exact Xi_same (by unfold rg; omega)
  refine y_aload_n rfl rfl ?_
  refine y_gfi rfl rfl rfl rfl rfl ?_
  have w18 : (Xi U4 904 70) = (Xi S 904 70) := (show Xi U4 904 70 = Xi U3 904 70 from by rw [eU4]; exact Xi_ne (by omega)).trans ( (show Xi U3 904 70 = Xi U2 904 70 from by rw [eU3]; exact Xi_ne (by omega)).trans ( (show Xi U2 904 70 = Xi U1 904 70 from by rw [eU2]; exact Xi_ne (by omega)).trans ((show Xi U1 904 70 = Xi S 904 70 from by rw [eU1]; exact Xi_ne (by omega)))))
  rw [w18]
  refine y_tsw rfl rfl rfl rfl (by unfold rg; omega) (fun w19 => ?_) (fun ii tt hii w19 => ?_)
  · exfalso; omega
  · match ii, hii with
    | 0, hii =>
      cases hii
      have w20 : (Xi S 904 70) = 0 := by simpa using w19
      exfalso; omega
    | 1, hii =>
      cases hii
      have w21 : (Xi S 904 70) = 1 := by simpa using w19
      exfalso; omega
    | 2, hii =>
      cases hii
      have w22 : (Xi S 904 70) = 2 := by simpa using w19
      exfalso; omega
    | 3, hii =>
      cases hii
      have w23 : (Xi S 904 70) = 3 := by simpa using w19
      exfalso; omega
    | 4, hii =>
      cases hii
      have w24 : (Xi S 904 70) = 4 := by simpa using w19
      exfalso; omega
    | 5, hii =>
      cases hii
      have w25 : (Xi S 904 70) = 5 := by simpa using w19
      exfalso; omega
    | 6, hii =>
      cases hii
      have w26 : (Xi S 904 70) = 6 := by simpa using w19
      exfalso; omega
    | 7, hii =>
      cases hii
      have w27 : (Xi S 904 70) = 7 := by simpa using w19
      exfalso; omega
    | 8, hii =>
      cases hii
      have w28 : (Xi S 904 70) = 8 := by simpa using w19
      exfalso; omega
    | 9, hii =>
      cases hii
      have w29 : (Xi S 904 70) = 9 := by simpa using w19
      exfalso; omega
    | 10, hii =>
      cases hii
      have w30 : (Xi S 904 70) = 10 := by simpa using w19
      exfalso; omega
    | 11, hii =>
      cases hii
      have w31 : (Xi S 904 70) = 11 := by simpa using w19
      exfalso; omega
    | 12, hii =>
      cases hii
      have w32 : (Xi S 904 70) = 12 := by simpa using w19
      exfalso; omega
    | 13, hii =>
      cases hii
      have w33 : (Xi S 904 70) = 13 := by simpa using w19
      refine y_aload_n rfl rfl ?_
      have w36 : Xi U4 904 106 = Xi U1 904 106 := (show Xi U4 904 106 = Xi U3 904 106 from by rw [eU4]; exact Xi_ne (by omega)).trans ( (show Xi U3 904 106 = Xi U2 904 106 from by rw [eU3]; exact Xi_ne (by omega)).trans ((show Xi U2 904 106 = Xi U1 904 106 from by rw [eU2]; exact Xi_ne (by omega))))
      have w37 : Xi U4 904 108 = Xi U2 904 108 := (show Xi U4 904 108 = Xi U3 904 108 from by rw [eU4]; exact Xi_ne (by omega)).trans ((show Xi U3 904 108 = Xi U2 904 108 from by rw [eU3]; exact Xi_ne (by omega)))
      have w38 : Xi U4 904 15 = Xi S 904 15 := (show Xi U4 904 15 = Xi U3 904 15 from by rw [eU4]; exact Xi_ne (by omega)).trans ( (show Xi U3 904 15 = Xi U2 904 15 from by rw [eU3]; exact Xi_ne (by omega)).trans ( (show Xi U2 904 15 = Xi U1 904 15 from by rw [eU2]; exact Xi_ne (by omega)).trans ((show Xi U1 904 15 = Xi S 904 15 from by rw [eU1]; exact Xi_ne (by omega)))))
      have w39 : Xi U4 904 19 = Xi S 904 19 := (show Xi U4 904 19 = Xi U3 904 19 from by rw [eU4]; exact Xi_ne (by omega)).trans ( (show Xi U3 904 19 = Xi U2 904 19 from by rw [eU3]; exact Xi_ne (by omega)).trans ( (show Xi U2 904 19 = Xi U1 904 19 from by rw [eU2]; exact Xi_ne (by omega)).trans ((show Xi U1 904 19 = Xi S 904 19 from by rw [eU1]; exact Xi_ne (by omega)))))
      have w42 : Xi U4 904 71 = Xi S 904 71 := (show Xi U4 904 71 = Xi U3 904 71 from by rw [eU4]; exact Xi_ne (by omega)).trans ( (show Xi U3 904 71 = Xi U2 904 71 from by rw [eU3]; exact Xi_ne (by omega)).trans ( (show Xi U2 904 71 = Xi U1 904 71 from by rw [eU2]; exact Xi_ne (by omega)).trans ((show Xi U1 904 71 = Xi S 904 71 from by rw [eU1]; exact Xi_ne (by omega)))))
      have w43 : Xi U4 904 72 = Xi S 904 72 := (show Xi U4 904 72 = Xi U3 904 72 from by rw [eU4]; exact Xi_ne (by omega)).trans ( (show Xi U3 904 72 = Xi U2 904 72 from by rw [eU3]; exact Xi_ne (by omega)).trans ( (show Xi U2 904 72 = Xi U1 904 72 from by rw [eU2]; exact Xi_ne (by omega)).trans ((show Xi U1 904 72 = Xi S 904 72 from by rw [eU1]; exact Xi_ne (by omega)))))
      refine y_callV rfl rfl rfl (t_mo_objectsOrNew__p hHU4 (by first | assumption | exact (LSP_FR hFU4 rfl rfl (by assumption : LSP S))) (by first | assumption | omega) (by first | assumption | exact (RBD_FR hFU4 rfl (by assumption : RBD S))) (⟨by omega, by omega⟩) (by first | assumption | omega) (by first | assumption | omega) (fun k i a b => by rw [hFU4.x 904 71 rfl] at *; rw [hFU4.x 904 72 rfl] at b; rw [pR_sm (SMR_FR hFU4 rfl rfl), pR_sm (SMR_FR hFU4 rfl rfl)]; exact hpl k i a b) _) ?_
      rintro _ T5 ⟨hHT5, w48, rfl, o303⟩
      have hFT5 : FR md_mo_asked__13 S T5 := FR.tr hFU4 w48 rfl
      show Pl _ _ _ _ _ _ [] _ _
      have z303 : (NT3 U4).1 = 0 := by show Xi U4 904 106 = 0; omega
      have F303 := (by assumption : FR md_mo_objectsOrNew__p U4 T5)
      have G303 := hFU4
      refine y_aload_n rfl rfl ?_
      have w49 : Xi T5 904 15 = Xi S 904 15 := (show Xi T5 904 15 = Xi U4 904 15 from w48.x _ _ rfl).trans ( (show Xi U4 904 15 = Xi U3 904 15 from by rw [eU4]; exact Xi_ne (by omega)).trans ( (show Xi U3 904 15 = Xi U2 904 15 from by rw [eU3]; exact Xi_ne (by omega)).trans ( (show Xi U2 904 15 = Xi U1 904 15 from by rw [eU2]; exact Xi_ne (by omega)).trans ((show Xi U1 904 15 = Xi S 904 15 from by rw [eU1]; exact Xi_ne (by omega))))))
      have w56 : Xi T5 904 74 = Xi S 904 74 := (show Xi T5 904 74 = Xi U4 904 74 from w48.x _ _ rfl).trans ( (show Xi U4 904 74 = Xi U3 904 74 from by rw [eU4]; exact Xi_ne (by omega)).trans ( (show Xi U3 904 74 = Xi U2 904 74 from by rw [eU3]; exact Xi_ne (by omega)).trans ( (show Xi U2 904 74 = Xi U1 904 74 from by rw [eU2]; exact Xi_ne (by omega)).trans ((show Xi U1 904 74 = Xi S 904 74 from by rw [eU1]; exact Xi_ne (by omega))))))
      refine y_callV rfl rfl rfl (t_mo_askPlace__p hHT5 (by first | assumption | exact (LSP_FR hFT5 rfl rfl (by assumption : LSP S))) (by first | assumption | omega) (by first | assumption | exact (RBD_FR hFT5 rfl (by assumption : RBD S))) (by first | assumption | exact (ABV_FR hFT5 rfl (by assumption : ABV S))) (fun j => by rw [(hFT5.cx 918 rfl j).1]; exact hko.o j) (by first | assumption | omega) _) ?_
      rintro _ T6 ⟨hHT6, w59, rfl, o307⟩
      have hFT6 : FR md_mo_asked__13 S T6 := FR.tr hFT5 w59 rfl
      show Pl _ _ _ _ _ _ [] _ _
      have R307 : RO12 S T6 0 := by obtain ⟨nn, h⟩ := o303; exact RO12_am (AMR_FR G303 rfl rfl) G303 rfl rfl rfl rfl (ro13 h (RPA_am (SMR_FR F303 rfl rfl) F303 rfl rfl rfl o307) z303 (fun q k hk => by rw [G303.x 904 73 rfl] at q; rw [G303.x 904 72 rfl] at hk; rw [pR_sm (SMR_FR G303 rfl rfl), pR_sm (SMR_FR G303 rfl rfl), G303.x 904 71 rfl, G303.x 904 74 rfl]; exact hpp.o q k hk))
      refine y_goto rfl rfl ?_
      refine y_return rfl rfl ?_
      exact ⟨hHT6, hFT6, rfl, (R307)⟩
    | 14, hii =>
      cases hii
      have w70 : (Xi S 904 70) = 14 := by simpa using w19
      exfalso; omega
    | 15, hii =>
      cases hii
      have w71 : (Xi S 904 70) = 15 := by simpa using w19
      exfalso; omega
    | 16, hii =>
      cases hii
      have w72 : (Xi S 904 70) = 16 := by simpa using w19
      exfalso; omega
    | 17, hii =>
      cases hii
      have w73 : (Xi S 904 70) = 17 := by simpa using w19
      exfalso; omega
    | 18, hii =>
      cases hii
      have w74 : (Xi S 904 70) = 18 := by simpa using w19
      exfalso; omega
    | 19, hii =>
      cases hii
      have w75 : (Xi S 904 70) = 19 := by simpa using w19
      exfalso; omega
    | 20, hii =>
      cases hii
      have w76 : (Xi S 904 70) = 20 := by simpa using w19
      exfalso; omega
    | n + 21, hii => exact absurd hii (by simp)
end
section
def md_mo_asked__12 : List rec := [(904, 905, 64, 65), (904, 905, 104, 105), (904, 905, 105, 106), (904, 905, 106, 107), (904, 905, 108, 109), (904, 905, 109, 110), (904, 905, 110, 111), (904, 905, 112, 113), (904, 905, 113, 114), (904, 905, 115, 116), (904, 905, 116, 117), (904, 905, 117, 118), (904, 905, 125, 126), (904, 905, 128, 129), (904, 905, 129, 130), (904, 905, 130, 131), (904, 905, 142, 143), (904, 905, 144, 145), (904, 905, 146, 147), (904, 905, 147, 148), (904, 905, 150, 151), (904, 905, 151, 152), (904, 905, 153, 154), (904, 905, 154, 155), (904, 905, 156, 157), (904, 905, 157, 158), (904, 905, 158, 159), (904, 905, 160, 161), (966, 967, 0, 100000), (967, 968, 0, 100000), (968, 969, 0, 100000), (969, 970, 0, 100000), (970, 971, 0, 100000), (971, 972, 0, 100000), (972, 973, 0, 100000), (973, 974, 0, 100000), (974, 975, 0, 100000), (975, 976, 0, 100000), (976, 977, 0, 100000), (977, 978, 0, 100000), (978, 979, 0, 100000), (979, 980, 0, 100000), (980, 981, 0, 100000), (981, 982, 0, 100000), (982, 983, 0, 100000), (983, 984, 0, 100000), (984, 985, 0, 100000), (985, 986, 0, 100000), (986, 987, 0, 100000), (987, 988, 0, 100000), (988, 989, 0, 100000), (989, 990, 0, 100000), (990, 991, 0, 100000), (991, 992, 0, 100000), (992, 993, 0, 100000), (993, 994, 0, 100000), (994, 995, 0, 100000)]
abbrev Q_mo_asked__12 (S : sS) (first : Int) : pst := fun r S1 => RI S1 ∧ FR md_mo_asked__12 S S1 ∧ (r = none ∧ (RO12 S S1 1))
set_option maxRecDepth 100000 in
theorem t_mo_asked__12 {S : sS} (hH : RI S) (first : Int) (hfirst : 0 ≤ first ∧ first ≤ 5001) (hLS : LSP S) (h15 : 0 ≤ Xi S 904 15) (hRB : RBD S) (hLX : LXR S) (hB : ABV S) (hob : 0 ≤ Xi S 904 19 ∧ Xi S 904 19 ≤ 24) (hko : Hid (∀ j : Nat, -1 ≤ Xi S 918 j ∧ Xi S 918 j ≤ 15)) (hl : 0 ≤ Xi S 904 71 ∧ Xi S 904 71 ≤ 2600 ∧ 0 ≤ Xi S 904 72 ∧ Xi S 904 72 ≤ 2600) (hkk : Hid (∀ k : Nat, (k : Int) < Xi S 904 15 → Xi S 914 k ≤ 1 → Xi S 915 k ≤ 15)) (hp32 : 0 ≤ Xi S 904 32 ∧ Xi S 904 32 ≤ 12) (hr74 : -1 ≤ Xi S 904 74 ∧ Xi S 904 74 ≤ 2600) (hpl : PLL S (Xi S 904 71) (Xi S 904 72).toNat) (hs : Xi S 904 70 = 12) (hpp : Hid ((∀ k : Nat, k < (Xi S 904 72).toNat → pR S (Xi S 904 71 + k) < pR S (Xi S 904 78)) ∧ (Xi S 904 73 ≠ 0 → pR S (Xi S 904 78) < pR S (Xi S 904 74)))) (hfw : 0 ≤ fW S ∧ fW S ≤ 5100 ∧ 0 ≤ nW S ∧ nW S ≤ 5100) (h78 : 0 ≤ Xi S 904 78 ∧ Xi S 904 78 ≤ 2600) (d : Nat) : Mp lay0 (d + 13) m_mo_asked [.ref 904, iv first] S (Q_mo_asked__12 S first) := by
  refine Mp_R rfl rfl (fun fu => ?_)
  have hF : FR md_mo_asked__12 S S := FR.rf
  have w1 : -2147483648 ≤ Xi S 904 104 ∧ Xi S 904 104 ≤ 2147483647 := Xi_rgI
  have w2 : -2147483648 ≤ Xi S 904 105 ∧ Xi S 904 105 ≤ 2147483647 := Xi_rgI
  have w3 : -2147483648 ≤ Xi S 904 106 ∧ Xi S 904 106 ≤ 2147483647 := Xi_rgI
  have w4 : -2147483648 ≤ Xi S 904 108 ∧ Xi S 904 108 ≤ 2147483647 := Xi_rgI
  have w5 : -2147483648 ≤ Xi S 904 109 ∧ Xi S 904 109 ≤ 2147483647 := Xi_rgI
  have w6 : -2147483648 ≤ Xi S 904 15 ∧ Xi S 904 15 ≤ 2147483647 := Xi_rgI
  have w7 : -2147483648 ≤ Xi S 904 19 ∧ Xi S 904 19 ≤ 2147483647 := Xi_rgI
  have w8 : -2147483648 ≤ Xi S 904 32 ∧ Xi S 904 32 ≤ 2147483647 := Xi_rgI
  have w9 : -2147483648 ≤ Xi S 904 70 ∧ Xi S 904 70 ≤ 2147483647 := Xi_rgI
  have w10 : -2147483648 ≤ Xi S 904 71 ∧ Xi S 904 71 ≤ 2147483647 := Xi_rgI
  have w11 : -2147483648 ≤ Xi S 904 72 ∧ Xi S 904 72 ≤ 2147483647 := Xi_rgI
  have w12 : -2147483648 ≤ Xi S 904 73 ∧ Xi S 904 73 ≤ 2147483647 := Xi_rgI
  have w13 : -2147483648 ≤ Xi S 904 74 ∧ Xi S 904 74 ≤ 2147483647 := Xi_rgI
  have w14 : -2147483648 ≤ Xi S 904 78 ∧ Xi S 904 78 ≤ 2147483647 := Xi_rgI
  refine y_aload_n rfl rfl ?_
  refine y_iconst rfl ?_
  refine y_pfi rfl rfl rfl rfl ?_
  obtain ⟨U1, eU1⟩ : ∃ T : sS, T = uI S 904 106 (Int32.ofInt 0) := ⟨_, rfl⟩
  rw [← eU1]
  have hHU1 : RI U1 := by rw [eU1]; exact RI_w hH
  have hFU1 : FR md_mo_asked__12 S U1 := by rw [eU1]; exact FR.wI hF (mdf_i (r := (904, 905, 106, 107)) (List.mem_of_getElem? (i := 3) rfl) (inR_i (by omega) (by omega) (by omega) (by omega)))
  have w15 : Xi U1 904 106 = 0 := by rw [eU1]; exact Xi_same (by unfold rg; omega)
  refine y_aload_n rfl rfl ?_
  refine y_iconst rfl ?_
  refine y_pfi rfl rfl rfl rfl ?_
  obtain ⟨U2, eU2⟩ : ∃ T : sS, T = uI U1 904 108 (Int32.ofInt 0) := ⟨_, rfl⟩
  rw [← eU2]
  have hHU2 : RI U2 := by rw [eU2]; exact RI_w hHU1
  have hFU2 : FR md_mo_asked__12 S U2 := by rw [eU2]; exact FR.wI hFU1 (mdf_i (r := (904, 905, 108, 109)) (List.mem_of_getElem? (i := 4) rfl) (inR_i (by omega) (by omega) (by omega) (by omega)))
  have w16 : Xi U2 904 108 = 0 := by rw [eU2]; exact Xi_same (by unfold rg; omega)
  refine y_aload_n rfl rfl ?_
  refine y_iconst rfl ?_
  refine y_pfi rfl rfl rfl rfl ?_
  obtain ⟨U3, eU3⟩ : ∃ T : sS, T = uI U2 904 115 (Int32.ofInt (-1)) := ⟨_, rfl⟩
  rw [← eU3]
  have hHU3 : RI U3 := by rw [eU3]; exact RI_w hHU2
  have hFU3 : FR md_mo_asked__12 S U3 := by rw [eU3]; exact FR.wI hFU2 (mdf_i (r := (904, 905, 115, 116)) (List.mem_of_getElem? (i := 9) rfl) (inR_i (by omega) (by omega) (by omega) (by omega)))
  have w17 : Xi U3 904 115 = (-1) := by rw [eU3]; exact Xi_same (by unfold rg; omega)
  refine y_aload_n rfl rfl ?_
  refine y_iconst rfl ?_
  refine y_pfi rfl rfl rfl rfl ?_
  obtain ⟨U4, eU4⟩ : ∃ T : sS, T = uI U3 904 116 (Int32.ofInt (-1)) := ⟨_, rfl⟩
  rw [← eU4]
  have hHU4 : RI U4 := by rw [eU4]; exact RI_w hHU3
  have hFU4 : FR md_mo_asked__12 S U4 := by rw [eU4]; exact FR.wI hFU3 (mdf_i (r := (904, 905, 116, 117)) (List.mem_of_getElem? (i := 10) rfl) (inR_i (by omega) (by omega) (by omega) (by omega)))
  have w18 : Xi U4 904 116 = (-1) := by rw [eU4]; exact Xi_same (by unfold rg; omega)
  refine y_aload_n rfl rfl ?_
  refine y_gfi rfl rfl rfl rfl rfl ?_
  have w19 : (Xi U4 904 70) = (Xi S 904 70) := (show Xi U4 904 70 = Xi U3 904 70 from by rw [eU4]; exact Xi_ne (by omega)).trans ( (show Xi U3 904 70 = Xi U2 904 70 from by rw [eU3]; exact Xi_ne (by omega)).trans ( (show Xi U2 904 70 = Xi U1 904 70 from by rw [eU2]; exact Xi_ne (by omega)).trans ((show Xi U1 904 70 = Xi S 904 70 from by rw [eU1]; exact Xi_ne (by omega)))))
  rw [w19]
  refine y_tsw rfl rfl rfl rfl (by unfold rg; omega) (fun w20 => ?_) (fun ii tt hii w20 => ?_)
  · exfalso; omega
  · match ii, hii with
    | 0, hii =>
      cases hii
      have w21 : (Xi S 904 70) = 0 := by simpa using w20
      exfalso; omega
    | 1, hii =>
      cases hii
      have w22 : (Xi S 904 70) = 1 := by simpa using w20
      exfalso; omega
    | 2, hii =>
      cases hii
      have w23 : (Xi S 904 70) = 2 := by simpa using w20
      exfalso; omega
    | 3, hii =>
      cases hii
      have w24 : (Xi S 904 70) = 3 := by simpa using w20
      exfalso; omega
    | 4, hii =>
      cases hii
      have w25 : (Xi S 904 70) = 4 := by simpa using w20
      exfalso; omega
    | 5, hii =>
      cases hii
      have w26 : (Xi S 904 70) = 5 := by simpa using w20
      exfalso; omega
    | 6, hii =>
      cases hii
      have w27 : (Xi S 904 70) = 6 := by simpa using w20
      exfalso; omega
    | 7, hii =>
      cases hii
      have w28 : (Xi S 904 70) = 7 := by simpa using w20
      exfalso; omega
    | 8, hii =>
      cases hii
      have w29 : (Xi S 904 70) = 8 := by simpa using w20
      exfalso; omega
    | 9, hii =>
      cases hii
      have w30 : (Xi S 904 70) = 9 := by simpa using w20
      exfalso; omega
    | 10, hii =>
      cases hii
      have w31 : (Xi S 904 70) = 10 := by simpa using w20
      exfalso; omega
    | 11, hii =>
      cases hii
      have w32 : (Xi S 904 70) = 11 := by simpa using w20
      exfalso; omega
    | 12, hii =>
      cases hii
      have w33 : (Xi S 904 70) = 12 := by simpa using w20
      refine y_aload_n rfl rfl ?_
      have w34 : Xi U4 904 104 = Xi S 904 104 := (show Xi U4 904 104 = Xi U3 904 104 from by rw [eU4]; exact Xi_ne (by omega)).trans ( (show Xi U3 904 104 = Xi U2 904 104 from by rw [eU3]; exact Xi_ne (by omega)).trans ( (show Xi U2 904 104 = Xi U1 904 104 from by rw [eU2]; exact Xi_ne (by omega)).trans ((show Xi U1 904 104 = Xi S 904 104 from by rw [eU1]; exact Xi_ne (by omega)))))
      have w35 : Xi U4 904 105 = Xi S 904 105 := (show Xi U4 904 105 = Xi U3 904 105 from by rw [eU4]; exact Xi_ne (by omega)).trans ( (show Xi U3 904 105 = Xi U2 904 105 from by rw [eU3]; exact Xi_ne (by omega)).trans ( (show Xi U2 904 105 = Xi U1 904 105 from by rw [eU2]; exact Xi_ne (by omega)).trans ((show Xi U1 904 105 = Xi S 904 105 from by rw [eU1]; exact Xi_ne (by omega)))))
      have w36 : Xi U4 904 106 = Xi U1 904 106 := (show Xi U4 904 106 = Xi U3 904 106 from by rw [eU4]; exact Xi_ne (by omega)).trans ( (show Xi U3 904 106 = Xi U2 904 106 from by rw [eU3]; exact Xi_ne (by omega)).trans ((show Xi U2 904 106 = Xi U1 904 106 from by rw [eU2]; exact Xi_ne (by omega))))
      have w37 : Xi U4 904 108 = Xi U2 904 108 := (show Xi U4 904 108 = Xi U3 904 108 from by rw [eU4]; exact Xi_ne (by omega)).trans ((show Xi U3 904 108 = Xi U2 904 108 from by rw [eU3]; exact Xi_ne (by omega)))
      have w38 : Xi U4 904 109 = Xi S 904 109 := (show Xi U4 904 109 = Xi U3 904 109 from by rw [eU4]; exact Xi_ne (by omega)).trans ( (show Xi U3 904 109 = Xi U2 904 109 from by rw [eU3]; exact Xi_ne (by omega)).trans ( (show Xi U2 904 109 = Xi U1 904 109 from by rw [eU2]; exact Xi_ne (by omega)).trans ((show Xi U1 904 109 = Xi S 904 109 from by rw [eU1]; exact Xi_ne (by omega)))))
      have w39 : Xi U4 904 15 = Xi S 904 15 := (show Xi U4 904 15 = Xi U3 904 15 from by rw [eU4]; exact Xi_ne (by omega)).trans ( (show Xi U3 904 15 = Xi U2 904 15 from by rw [eU3]; exact Xi_ne (by omega)).trans ( (show Xi U2 904 15 = Xi U1 904 15 from by rw [eU2]; exact Xi_ne (by omega)).trans ((show Xi U1 904 15 = Xi S 904 15 from by rw [eU1]; exact Xi_ne (by omega)))))
      have w40 : Xi U4 904 19 = Xi S 904 19 := (show Xi U4 904 19 = Xi U3 904 19 from by rw [eU4]; exact Xi_ne (by omega)).trans ( (show Xi U3 904 19 = Xi U2 904 19 from by rw [eU3]; exact Xi_ne (by omega)).trans ( (show Xi U2 904 19 = Xi U1 904 19 from by rw [eU2]; exact Xi_ne (by omega)).trans ((show Xi U1 904 19 = Xi S 904 19 from by rw [eU1]; exact Xi_ne (by omega)))))
      have w41 : Xi U4 904 32 = Xi S 904 32 := (show Xi U4 904 32 = Xi U3 904 32 from by rw [eU4]; exact Xi_ne (by omega)).trans ( (show Xi U3 904 32 = Xi U2 904 32 from by rw [eU3]; exact Xi_ne (by omega)).trans ( (show Xi U2 904 32 = Xi U1 904 32 from by rw [eU2]; exact Xi_ne (by omega)).trans ((show Xi U1 904 32 = Xi S 904 32 from by rw [eU1]; exact Xi_ne (by omega)))))
      have w42 : Xi U4 904 70 = Xi S 904 70 := (show Xi U4 904 70 = Xi U3 904 70 from by rw [eU4]; exact Xi_ne (by omega)).trans ( (show Xi U3 904 70 = Xi U2 904 70 from by rw [eU3]; exact Xi_ne (by omega)).trans ( (show Xi U2 904 70 = Xi U1 904 70 from by rw [eU2]; exact Xi_ne (by omega)).trans ((show Xi U1 904 70 = Xi S 904 70 from by rw [eU1]; exact Xi_ne (by omega)))))
      have w43 : Xi U4 904 71 = Xi S 904 71 := (show Xi U4 904 71 = Xi U3 904 71 from by rw [eU4]; exact Xi_ne (by omega)).trans ( (show Xi U3 904 71 = Xi U2 904 71 from by rw [eU3]; exact Xi_ne (by omega)).trans ( (show Xi U2 904 71 = Xi U1 904 71 from by rw [eU2]; exact Xi_ne (by omega)).trans ((show Xi U1 904 71 = Xi S 904 71 from by rw [eU1]; exact Xi_ne (by omega)))))
      have w44 : Xi U4 904 72 = Xi S 904 72 := (show Xi U4 904 72 = Xi U3 904 72 from by rw [eU4]; exact Xi_ne (by omega)).trans ( (show Xi U3 904 72 = Xi U2 904 72 from by rw [eU3]; exact Xi_ne (by omega)).trans ( (show Xi U2 904 72 = Xi U1 904 72 from by rw [eU2]; exact Xi_ne (by omega)).trans ((show Xi U1 904 72 = Xi S 904 72 from by rw [eU1]; exact Xi_ne (by omega)))))
      have w45 : Xi U4 904 73 = Xi S 904 73 := (show Xi U4 904 73 = Xi U3 904 73 from by rw [eU4]; exact Xi_ne (by omega)).trans ( (show Xi U3 904 73 = Xi U2 904 73 from by rw [eU3]; exact Xi_ne (by omega)).trans ( (show Xi U2 904 73 = Xi U1 904 73 from by rw [eU2]; exact Xi_ne (by omega)).trans ((show Xi U1 904 73 = Xi S 904 73 from by rw [eU1]; exact Xi_ne (by omega)))))
      have w46 : Xi U4 904 74 = Xi S 904 74 := (show Xi U4 904 74 = Xi U3 904 74 from by rw [eU4]; exact Xi_ne (by omega)).trans ( (show Xi U3 904 74 = Xi U2 904 74 from by rw [eU3]; exact Xi_ne (by omega)).trans ( (show Xi U2 904 74 = Xi U1 904 74 from by rw [eU2]; exact Xi_ne (by omega)).trans ((show Xi U1 904 74 = Xi S 904 74 from by rw [eU1]; exact Xi_ne (by omega)))))
      have w47 : Xi U4 904 78 = Xi S 904 78 := (show Xi U4 904 78 = Xi U3 904 78 from by rw [eU4]; exact Xi_ne (by omega)).trans ( (show Xi U3 904 78 = Xi U2 904 78 from by rw [eU3]; exact Xi_ne (by omega)).trans ( (show Xi U2 904 78 = Xi U1 904 78 from by rw [eU2]; exact Xi_ne (by omega)).trans ((show Xi U1 904 78 = Xi S 904 78 from by rw [eU1]; exact Xi_ne (by omega)))))
      refine y_callV rfl rfl rfl (t_mo_objectsOrNew__p hHU4 (by first | assumption | exact (LSP_FR hFU4 rfl rfl (by assumption : LSP S))) (by first | assumption | omega) (by first | assumption | exact (RBD_FR hFU4 rfl (by assumption : RBD S))) (⟨by omega, by omega⟩) (by first | assumption | omega) (by first | assumption | omega) (fun k i a b => by rw [hFU4.x 904 71 rfl] at *; rw [hFU4.x 904 72 rfl] at b; rw [pR_sm (SMR_FR hFU4 rfl rfl), pR_sm (SMR_FR hFU4 rfl rfl)]; exact hpl k i a b) _) ?_
      rintro _ T5 ⟨hHT5, w49, rfl, o249⟩
      have hFT5 : FR md_mo_asked__12 S T5 := FR.tr hFU4 w49 rfl
      show Pl _ _ _ _ _ _ [] _ _
      have z249 : (NT3 U4).1 = 0 := by show Xi U4 904 106 = 0; omega
      have F249 := (by assumption : FR md_mo_objectsOrNew__p U4 T5)
      have G249 := hFU4
      have M249 : Hid (AMR U4 T5) := AMR_FR F249 rfl rfl
      refine y_aload_n rfl rfl ?_
      refine y_iconst rfl ?_
      refine y_pfi rfl rfl rfl rfl ?_
      obtain ⟨U6, eU6⟩ : ∃ T : sS, T = uI T5 904 109 (Int32.ofInt 0) := ⟨_, rfl⟩
      rw [← eU6]
      have hHU6 : RI U6 := by rw [eU6]; exact RI_w hHT5
      have hFU6 : FR md_mo_asked__12 S U6 := by rw [eU6]; exact FR.wI hFT5 (mdf_i (r := (904, 905, 109, 110)) (List.mem_of_getElem? (i := 5) rfl) (inR_i (by omega) (by omega) (by omega) (by omega)))
      have w50 : Xi U6 904 109 = 0 := by rw [eU6]; exact Xi_same (by unfold rg; omega)
      have ee254 := eU6
      have M254 : Hid (AMR T5 U6) := AMR_w AMR.rf eU6 (by omega)
      have z254 : Xi U6 904 109 = 0 := by rw [eU6]; exact Xi_same (by unfold rg; omega)
      have k254 : NT3 U6 = NT3 T5 := by unfold NT3; rw [eU6, Xi_ne (by omega), Xi_ne (by omega), Xi_ne (by omega)]
      refine y_aload_n rfl rfl ?_
      refine y_aload_n rfl rfl ?_
      refine y_gfr rfl rfl rfl rfl rfl (hHU6.r 904 67 950 rfl) ?_
      refine y_aload_n rfl rfl ?_
      refine y_gfi rfl rfl rfl rfl rfl ?_
      have w51 : (Xi U6 904 78) = (Xi S 904 78) := (show Xi U6 904 78 = Xi T5 904 78 from by rw [eU6]; exact Xi_ne (by omega)).trans ( (show Xi T5 904 78 = Xi U4 904 78 from w49.x _ _ rfl).trans ( (show Xi U4 904 78 = Xi U3 904 78 from by rw [eU4]; exact Xi_ne (by omega)).trans ( (show Xi U3 904 78 = Xi U2 904 78 from by rw [eU3]; exact Xi_ne (by omega)).trans ( (show Xi U2 904 78 = Xi U1 904 78 from by rw [eU2]; exact Xi_ne (by omega)).trans ((show Xi U1 904 78 = Xi S 904 78 from by rw [eU1]; exact Xi_ne (by omega)))))))
      rw [w51]
      refine y_ialoadP (n := 2600) rfl rfl (by unfold rg; omega) (fun w52 w53 => ?_)
      have w54 : -2147483648 ≤ (Xi U6 950 (((Xi S 904 78)).toNat)) ∧ (Xi U6 950 (((Xi S 904 78)).toNat)) ≤ 2147483647 := Xi_rgI
      have q266 : (Xi U6 950 (((Xi S 904 78)).toNat)) = fW S := by unfold fW; rw [(hFU6.cx 950 rfl _).1]
      refine y_aload_n rfl rfl ?_
      refine y_gfr rfl rfl rfl rfl rfl (hHU6.r 904 68 951 rfl) ?_
      refine y_aload_n rfl rfl ?_
      refine y_gfi rfl rfl rfl rfl rfl ?_
      have w55 : (Xi U6 904 78) = (Xi S 904 78) := (show Xi U6 904 78 = Xi T5 904 78 from by rw [eU6]; exact Xi_ne (by omega)).trans ( (show Xi T5 904 78 = Xi U4 904 78 from w49.x _ _ rfl).trans ( (show Xi U4 904 78 = Xi U3 904 78 from by rw [eU4]; exact Xi_ne (by omega)).trans ( (show Xi U3 904 78 = Xi U2 904 78 from by rw [eU3]; exact Xi_ne (by omega)).trans ( (show Xi U2 904 78 = Xi U1 904 78 from by rw [eU2]; exact Xi_ne (by omega)).trans ((show Xi U1 904 78 = Xi S 904 78 from by rw [eU1]; exact Xi_ne (by omega)))))))
      rw [w55]
      refine y_ialoadP (n := 2600) rfl rfl (by unfold rg; omega) (fun w56 w57 => ?_)
      have w58 : -2147483648 ≤ (Xi U6 951 (((Xi S 904 78)).toNat)) ∧ (Xi U6 951 (((Xi S 904 78)).toNat)) ≤ 2147483647 := Xi_rgI
      have q275 : (Xi U6 951 (((Xi S 904 78)).toNat)) = nW S := by unfold nW; rw [(hFU6.cx 951 rfl _).1]
      refine y_iconst rfl ?_
      refine y_iconst rfl ?_
      refine y_iconst rfl ?_
      have w59 : Xi U6 904 104 = Xi T5 904 104 := (show Xi U6 904 104 = Xi T5 904 104 from by rw [eU6]; exact Xi_ne (by omega))
      have w60 : Xi U6 904 105 = Xi T5 904 105 := (show Xi U6 904 105 = Xi T5 904 105 from by rw [eU6]; exact Xi_ne (by omega))
      have w61 : Xi U6 904 106 = Xi T5 904 106 := (show Xi U6 904 106 = Xi T5 904 106 from by rw [eU6]; exact Xi_ne (by omega))
      have w62 : Xi U6 904 108 = Xi T5 904 108 := (show Xi U6 904 108 = Xi T5 904 108 from by rw [eU6]; exact Xi_ne (by omega))
      have w63 : Xi U6 904 15 = Xi S 904 15 := (show Xi U6 904 15 = Xi T5 904 15 from by rw [eU6]; exact Xi_ne (by omega)).trans ( (show Xi T5 904 15 = Xi U4 904 15 from w49.x _ _ rfl).trans ( (show Xi U4 904 15 = Xi U3 904 15 from by rw [eU4]; exact Xi_ne (by omega)).trans ( (show Xi U3 904 15 = Xi U2 904 15 from by rw [eU3]; exact Xi_ne (by omega)).trans ( (show Xi U2 904 15 = Xi U1 904 15 from by rw [eU2]; exact Xi_ne (by omega)).trans ((show Xi U1 904 15 = Xi S 904 15 from by rw [eU1]; exact Xi_ne (by omega)))))))
      have w64 : Xi U6 904 19 = Xi S 904 19 := (show Xi U6 904 19 = Xi T5 904 19 from by rw [eU6]; exact Xi_ne (by omega)).trans ( (show Xi T5 904 19 = Xi U4 904 19 from w49.x _ _ rfl).trans ( (show Xi U4 904 19 = Xi U3 904 19 from by rw [eU4]; exact Xi_ne (by omega)).trans ( (show Xi U3 904 19 = Xi U2 904 19 from by rw [eU3]; exact Xi_ne (by omega)).trans ( (show Xi U2 904 19 = Xi U1 904 19 from by rw [eU2]; exact Xi_ne (by omega)).trans ((show Xi U1 904 19 = Xi S 904 19 from by rw [eU1]; exact Xi_ne (by omega)))))))
      have w65 : Xi U6 904 32 = Xi S 904 32 := (show Xi U6 904 32 = Xi T5 904 32 from by rw [eU6]; exact Xi_ne (by omega)).trans ( (show Xi T5 904 32 = Xi U4 904 32 from w49.x _ _ rfl).trans ( (show Xi U4 904 32 = Xi U3 904 32 from by rw [eU4]; exact Xi_ne (by omega)).trans ( (show Xi U3 904 32 = Xi U2 904 32 from by rw [eU3]; exact Xi_ne (by omega)).trans ( (show Xi U2 904 32 = Xi U1 904 32 from by rw [eU2]; exact Xi_ne (by omega)).trans ((show Xi U1 904 32 = Xi S 904 32 from by rw [eU1]; exact Xi_ne (by omega)))))))
      have w66 : Xi U6 904 70 = Xi S 904 70 := (show Xi U6 904 70 = Xi T5 904 70 from by rw [eU6]; exact Xi_ne (by omega)).trans ( (show Xi T5 904 70 = Xi U4 904 70 from w49.x _ _ rfl).trans ( (show Xi U4 904 70 = Xi U3 904 70 from by rw [eU4]; exact Xi_ne (by omega)).trans ( (show Xi U3 904 70 = Xi U2 904 70 from by rw [eU3]; exact Xi_ne (by omega)).trans ( (show Xi U2 904 70 = Xi U1 904 70 from by rw [eU2]; exact Xi_ne (by omega)).trans ((show Xi U1 904 70 = Xi S 904 70 from by rw [eU1]; exact Xi_ne (by omega)))))))
      have w67 : Xi U6 904 71 = Xi S 904 71 := (show Xi U6 904 71 = Xi T5 904 71 from by rw [eU6]; exact Xi_ne (by omega)).trans ( (show Xi T5 904 71 = Xi U4 904 71 from w49.x _ _ rfl).trans ( (show Xi U4 904 71 = Xi U3 904 71 from by rw [eU4]; exact Xi_ne (by omega)).trans ( (show Xi U3 904 71 = Xi U2 904 71 from by rw [eU3]; exact Xi_ne (by omega)).trans ( (show Xi U2 904 71 = Xi U1 904 71 from by rw [eU2]; exact Xi_ne (by omega)).trans ((show Xi U1 904 71 = Xi S 904 71 from by rw [eU1]; exact Xi_ne (by omega)))))))
      have w68 : Xi U6 904 72 = Xi S 904 72 := (show Xi U6 904 72 = Xi T5 904 72 from by rw [eU6]; exact Xi_ne (by omega)).trans ( (show Xi T5 904 72 = Xi U4 904 72 from w49.x _ _ rfl).trans ( (show Xi U4 904 72 = Xi U3 904 72 from by rw [eU4]; exact Xi_ne (by omega)).trans ( (show Xi U3 904 72 = Xi U2 904 72 from by rw [eU3]; exact Xi_ne (by omega)).trans ( (show Xi U2 904 72 = Xi U1 904 72 from by rw [eU2]; exact Xi_ne (by omega)).trans ((show Xi U1 904 72 = Xi S 904 72 from by rw [eU1]; exact Xi_ne (by omega)))))))
      have w69 : Xi U6 904 73 = Xi S 904 73 := (show Xi U6 904 73 = Xi T5 904 73 from by rw [eU6]; exact Xi_ne (by omega)).trans ( (show Xi T5 904 73 = Xi U4 904 73 from w49.x _ _ rfl).trans ( (show Xi U4 904 73 = Xi U3 904 73 from by rw [eU4]; exact Xi_ne (by omega)).trans ( (show Xi U3 904 73 = Xi U2 904 73 from by rw [eU3]; exact Xi_ne (by omega)).trans ( (show Xi U2 904 73 = Xi U1 904 73 from by rw [eU2]; exact Xi_ne (by omega)).trans ((show Xi U1 904 73 = Xi S 904 73 from by rw [eU1]; exact Xi_ne (by omega)))))))
      have w70 : Xi U6 904 74 = Xi S 904 74 := (show Xi U6 904 74 = Xi T5 904 74 from by rw [eU6]; exact Xi_ne (by omega)).trans ( (show Xi T5 904 74 = Xi U4 904 74 from w49.x _ _ rfl).trans ( (show Xi U4 904 74 = Xi U3 904 74 from by rw [eU4]; exact Xi_ne (by omega)).trans ( (show Xi U3 904 74 = Xi U2 904 74 from by rw [eU3]; exact Xi_ne (by omega)).trans ( (show Xi U2 904 74 = Xi U1 904 74 from by rw [eU2]; exact Xi_ne (by omega)).trans ((show Xi U1 904 74 = Xi S 904 74 from by rw [eU1]; exact Xi_ne (by omega)))))))
      have w71 : Xi U6 904 78 = Xi S 904 78 := (show Xi U6 904 78 = Xi T5 904 78 from by rw [eU6]; exact Xi_ne (by omega)).trans ( (show Xi T5 904 78 = Xi U4 904 78 from w49.x _ _ rfl).trans ( (show Xi U4 904 78 = Xi U3 904 78 from by rw [eU4]; exact Xi_ne (by omega)).trans ( (show Xi U3 904 78 = Xi U2 904 78 from by rw [eU3]; exact Xi_ne (by omega)).trans ( (show Xi U2 904 78 = Xi U1 904 78 from by rw [eU2]; exact Xi_ne (by omega)).trans ((show Xi U1 904 78 = Xi S 904 78 from by rw [eU1]; exact Xi_ne (by omega)))))))
      refine y_callV rfl rfl rfl (t_mo_describe__p hHU6 (Xi U6 950 (((Xi S 904 78)).toNat)) (Xi U6 951 (((Xi S 904 78)).toNat)) 0 0 (-1) ⟨by omega, by omega⟩ ⟨by omega, by omega⟩ ⟨by omega, by omega⟩ ⟨by omega, by omega⟩ ⟨by omega, by omega⟩ (by first | assumption | exact (LSP_FR hFU6 rfl rfl (by assumption : LSP S))) (by first | assumption | omega) (by first | assumption | exact (LXR_FR hFU6 rfl rfl (by assumption : LXR S))) (by first | assumption | exact (ABV_FR hFU6 rfl (by assumption : ABV S))) (by first | assumption | omega) (fun k hk h1 => by rw [hFU6.x 904 15 rfl] at hk; rw [(hFU6.cx 914 rfl k).1] at h1; rw [(hFU6.cx 915 rfl k).1]; exact hkk.o k hk h1) (by first | assumption | omega) _) ?_
      rintro _ T7 ⟨hHT7, w73, rfl, o279⟩
      have hFT7 : FR md_mo_asked__12 S T7 := FR.tr hFU6 w73 rfl
      show Pl _ _ _ _ _ _ [] _ _
      have F279 := (by assumption : FR md_mo_describe__p U6 T7)
      have O279 : Hid ((nW S ≤ 6 → KDS U6 T7 (fW S) (nW S) 0 0 (-1) 4) ∧ (6 < nW S → T7 = U6)) := by have t := o279; rw [q266, q275] at t; exact t
      clear o279
      have M279 : Hid (AMR S U6) := AMR_FR hFU6 rfl rfl
      have T279 : Hid ((6 < nW S → Xi T7 904 109 = 0) ∧ (nW S ≤ 6 → Xi T7 904 109 = dcT S (fW S) (nW S) 0 0 (-1) 4)) := ⟨fun q => by rw [O279.o.2 q]; exact z254, fun q => by have t := (O279.o.1 q).1; rw [z254, dcT_am M279.o] at t; omega⟩
      have n279 : NT3 T7 = NT3 U6 := by unfold NT3; rw [F279.x 904 106 rfl, F279.x 904 105 rfl, F279.x 904 104 rfl]
      have y279 : 0 ≤ Xi T7 904 109 := by by_cases q : nW S ≤ 6; (have a := T279.o.2 q; have b := dcT_nn (S := S) (f := fW S) (n := nW S) (pl := 0) (d := 0) (al := -1) (v := 4) hp32; omega); (have a := T279.o.1 (by omega); omega)
      have K279 : Hid (DR1 S → ∃ m : Int, (1 ≤ m ∧ m ≤ 3 ∧ m ≤ nW S) ∧ dcR S (fW S) (nW S) 0 0 (-1) m = 1 ∧ KRD S T7 (fW S) (nW S) 0 0 m) := fun d => by obtain ⟨m, m1, m2, m3, m4⟩ := (O279.o.1 d.1).2.2 z254 (by rw [dcT_am M279.o, d.2]; omega); rw [dcR_am M279.o] at m3; exact ⟨m, ⟨m1.1, by omega, m1.2.2⟩, dcT_1 d.2 (by omega) m1.2.2 m3 hp32, KRD_am M279.o m4⟩
      refine y_aload_n rfl rfl ?_
      refine y_aload_n rfl rfl ?_
      refine y_gfr rfl rfl rfl rfl rfl (hHT7.r 904 67 950 rfl) ?_
      refine y_aload_n rfl rfl ?_
      refine y_gfi rfl rfl rfl rfl rfl ?_
      have w74 : (Xi T7 904 78) = (Xi S 904 78) := (show Xi T7 904 78 = Xi U6 904 78 from w73.x _ _ rfl).trans ( (show Xi U6 904 78 = Xi T5 904 78 from by rw [eU6]; exact Xi_ne (by omega)).trans ( (show Xi T5 904 78 = Xi U4 904 78 from w49.x _ _ rfl).trans ( (show Xi U4 904 78 = Xi U3 904 78 from by rw [eU4]; exact Xi_ne (by omega)).trans ( (show Xi U3 904 78 = Xi U2 904 78 from by rw [eU3]; exact Xi_ne (by omega)).trans ( (show Xi U2 904 78 = Xi U1 904 78 from by rw [eU2]; exact Xi_ne (by omega)).trans ((show Xi U1 904 78 = Xi S 904 78 from by rw [eU1]; exact Xi_ne (by omega))))))))
      rw [w74]
      refine y_ialoadP (n := 2600) rfl rfl (by unfold rg; omega) (fun w75 w76 => ?_)
      have w77 : (Xi T7 950 (((Xi S 904 78)).toNat)) = (Xi U6 950 (((Xi S 904 78)).toNat)) := (show Xi T7 950 (((Xi S 904 78)).toNat) = Xi U6 950 (((Xi S 904 78)).toNat) from w73.x _ _ rfl)
      rw [w77]
      have w78 : Xi T7 904 104 = Xi T5 904 104 := (show Xi T7 904 104 = Xi U6 904 104 from w73.x _ _ rfl).trans ((show Xi U6 904 104 = Xi T5 904 104 from by rw [eU6]; exact Xi_ne (by omega)))
      have w79 : Xi T7 904 105 = Xi T5 904 105 := (show Xi T7 904 105 = Xi U6 904 105 from w73.x _ _ rfl).trans ((show Xi U6 904 105 = Xi T5 904 105 from by rw [eU6]; exact Xi_ne (by omega)))
      have w80 : Xi T7 904 106 = Xi T5 904 106 := (show Xi T7 904 106 = Xi U6 904 106 from w73.x _ _ rfl).trans ((show Xi U6 904 106 = Xi T5 904 106 from by rw [eU6]; exact Xi_ne (by omega)))
      have w81 : Xi T7 904 108 = Xi T5 904 108 := (show Xi T7 904 108 = Xi U6 904 108 from w73.x _ _ rfl).trans ((show Xi U6 904 108 = Xi T5 904 108 from by rw [eU6]; exact Xi_ne (by omega)))
      have w82 : Xi T7 904 15 = Xi S 904 15 := (show Xi T7 904 15 = Xi U6 904 15 from w73.x _ _ rfl).trans ( (show Xi U6 904 15 = Xi T5 904 15 from by rw [eU6]; exact Xi_ne (by omega)).trans ( (show Xi T5 904 15 = Xi U4 904 15 from w49.x _ _ rfl).trans ( (show Xi U4 904 15 = Xi U3 904 15 from by rw [eU4]; exact Xi_ne (by omega)).trans ( (show Xi U3 904 15 = Xi U2 904 15 from by rw [eU3]; exact Xi_ne (by omega)).trans ( (show Xi U2 904 15 = Xi U1 904 15 from by rw [eU2]; exact Xi_ne (by omega)).trans ((show Xi U1 904 15 = Xi S 904 15 from by rw [eU1]; exact Xi_ne (by omega))))))))
      have w83 : Xi T7 904 19 = Xi S 904 19 := (show Xi T7 904 19 = Xi U6 904 19 from w73.x _ _ rfl).trans ( (show Xi U6 904 19 = Xi T5 904 19 from by rw [eU6]; exact Xi_ne (by omega)).trans ( (show Xi T5 904 19 = Xi U4 904 19 from w49.x _ _ rfl).trans ( (show Xi U4 904 19 = Xi U3 904 19 from by rw [eU4]; exact Xi_ne (by omega)).trans ( (show Xi U3 904 19 = Xi U2 904 19 from by rw [eU3]; exact Xi_ne (by omega)).trans ( (show Xi U2 904 19 = Xi U1 904 19 from by rw [eU2]; exact Xi_ne (by omega)).trans ((show Xi U1 904 19 = Xi S 904 19 from by rw [eU1]; exact Xi_ne (by omega))))))))
      have w84 : Xi T7 904 32 = Xi S 904 32 := (show Xi T7 904 32 = Xi U6 904 32 from w73.x _ _ rfl).trans ( (show Xi U6 904 32 = Xi T5 904 32 from by rw [eU6]; exact Xi_ne (by omega)).trans ( (show Xi T5 904 32 = Xi U4 904 32 from w49.x _ _ rfl).trans ( (show Xi U4 904 32 = Xi U3 904 32 from by rw [eU4]; exact Xi_ne (by omega)).trans ( (show Xi U3 904 32 = Xi U2 904 32 from by rw [eU3]; exact Xi_ne (by omega)).trans ( (show Xi U2 904 32 = Xi U1 904 32 from by rw [eU2]; exact Xi_ne (by omega)).trans ((show Xi U1 904 32 = Xi S 904 32 from by rw [eU1]; exact Xi_ne (by omega))))))))
      have w85 : Xi T7 904 70 = Xi S 904 70 := (show Xi T7 904 70 = Xi U6 904 70 from w73.x _ _ rfl).trans ( (show Xi U6 904 70 = Xi T5 904 70 from by rw [eU6]; exact Xi_ne (by omega)).trans ( (show Xi T5 904 70 = Xi U4 904 70 from w49.x _ _ rfl).trans ( (show Xi U4 904 70 = Xi U3 904 70 from by rw [eU4]; exact Xi_ne (by omega)).trans ( (show Xi U3 904 70 = Xi U2 904 70 from by rw [eU3]; exact Xi_ne (by omega)).trans ( (show Xi U2 904 70 = Xi U1 904 70 from by rw [eU2]; exact Xi_ne (by omega)).trans ((show Xi U1 904 70 = Xi S 904 70 from by rw [eU1]; exact Xi_ne (by omega))))))))
      have w86 : Xi T7 904 71 = Xi S 904 71 := (show Xi T7 904 71 = Xi U6 904 71 from w73.x _ _ rfl).trans ( (show Xi U6 904 71 = Xi T5 904 71 from by rw [eU6]; exact Xi_ne (by omega)).trans ( (show Xi T5 904 71 = Xi U4 904 71 from w49.x _ _ rfl).trans ( (show Xi U4 904 71 = Xi U3 904 71 from by rw [eU4]; exact Xi_ne (by omega)).trans ( (show Xi U3 904 71 = Xi U2 904 71 from by rw [eU3]; exact Xi_ne (by omega)).trans ( (show Xi U2 904 71 = Xi U1 904 71 from by rw [eU2]; exact Xi_ne (by omega)).trans ((show Xi U1 904 71 = Xi S 904 71 from by rw [eU1]; exact Xi_ne (by omega))))))))
      have w87 : Xi T7 904 72 = Xi S 904 72 := (show Xi T7 904 72 = Xi U6 904 72 from w73.x _ _ rfl).trans ( (show Xi U6 904 72 = Xi T5 904 72 from by rw [eU6]; exact Xi_ne (by omega)).trans ( (show Xi T5 904 72 = Xi U4 904 72 from w49.x _ _ rfl).trans ( (show Xi U4 904 72 = Xi U3 904 72 from by rw [eU4]; exact Xi_ne (by omega)).trans ( (show Xi U3 904 72 = Xi U2 904 72 from by rw [eU3]; exact Xi_ne (by omega)).trans ( (show Xi U2 904 72 = Xi U1 904 72 from by rw [eU2]; exact Xi_ne (by omega)).trans ((show Xi U1 904 72 = Xi S 904 72 from by rw [eU1]; exact Xi_ne (by omega))))))))
      have w88 : Xi T7 904 73 = Xi S 904 73 := (show Xi T7 904 73 = Xi U6 904 73 from w73.x _ _ rfl).trans ( (show Xi U6 904 73 = Xi T5 904 73 from by rw [eU6]; exact Xi_ne (by omega)).trans ( (show Xi T5 904 73 = Xi U4 904 73 from w49.x _ _ rfl).trans ( (show Xi U4 904 73 = Xi U3 904 73 from by rw [eU4]; exact Xi_ne (by omega)).trans ( (show Xi U3 904 73 = Xi U2 904 73 from by rw [eU3]; exact Xi_ne (by omega)).trans ( (show Xi U2 904 73 = Xi U1 904 73 from by rw [eU2]; exact Xi_ne (by omega)).trans ((show Xi U1 904 73 = Xi S 904 73 from by rw [eU1]; exact Xi_ne (by omega))))))))
      have w89 : Xi T7 904 74 = Xi S 904 74 := (show Xi T7 904 74 = Xi U6 904 74 from w73.x _ _ rfl).trans ( (show Xi U6 904 74 = Xi T5 904 74 from by rw [eU6]; exact Xi_ne (by omega)).trans ( (show Xi T5 904 74 = Xi U4 904 74 from w49.x _ _ rfl).trans ( (show Xi U4 904 74 = Xi U3 904 74 from by rw [eU4]; exact Xi_ne (by omega)).trans ( (show Xi U3 904 74 = Xi U2 904 74 from by rw [eU3]; exact Xi_ne (by omega)).trans ( (show Xi U2 904 74 = Xi U1 904 74 from by rw [eU2]; exact Xi_ne (by omega)).trans ((show Xi U1 904 74 = Xi S 904 74 from by rw [eU1]; exact Xi_ne (by omega))))))))
      have w90 : Xi T7 904 78 = Xi S 904 78 := (show Xi T7 904 78 = Xi U6 904 78 from w73.x _ _ rfl).trans ( (show Xi U6 904 78 = Xi T5 904 78 from by rw [eU6]; exact Xi_ne (by omega)).trans ( (show Xi T5 904 78 = Xi U4 904 78 from w49.x _ _ rfl).trans ( (show Xi U4 904 78 = Xi U3 904 78 from by rw [eU4]; exact Xi_ne (by omega)).trans ( (show Xi U3 904 78 = Xi U2 904 78 from by rw [eU3]; exact Xi_ne (by omega)).trans ( (show Xi U2 904 78 = Xi U1 904 78 from by rw [eU2]; exact Xi_ne (by omega)).trans ((show Xi U1 904 78 = Xi S 904 78 from by rw [eU1]; exact Xi_ne (by omega))))))))
      refine y_callV rfl rfl rfl (t_mo_oneReading__p hHT7 (Xi U6 950 (((Xi S 904 78)).toNat)) ⟨by omega, by omega⟩ _) ?_
      rintro _ T8 ⟨hHT8, w92, rfl, nt292⟩
      have hFT8 : FR md_mo_asked__12 S T8 := FR.tr hFT7 w92 rfl
      show Pl _ _ _ _ _ _ [] _ _
      have F292 := (by assumption : FR md_mo_oneReading__p T7 T8)
      have n292 : Hid (NT3 T8 = if Xi T7 904 109 ≤ 0 then ntF (NT3 T5) 4 (pR S (Xi S 904 78)) else if 2 ≤ Xi T7 904 109 then ntF (NT3 T5) 7 (pR S (Xi S 904 78)) else NT3 T5) := by have t := nt292; rw [n279, k254, (hFT7.cx 908 rfl _).1] at t; first | (rw [q266] at t; exact t) | (rw [(hFT7.cx 950 rfl _).1] at t; exact t)
      refine y_aload_n rfl rfl ?_
      have w93 : Xi T8 904 108 = Xi T5 904 108 := (show Xi T8 904 108 = Xi T7 904 108 from w92.x _ _ rfl).trans ( (show Xi T7 904 108 = Xi U6 904 108 from w73.x _ _ rfl).trans ((show Xi U6 904 108 = Xi T5 904 108 from by rw [eU6]; exact Xi_ne (by omega))))
      have w94 : Xi T8 904 109 = Xi T7 904 109 := (show Xi T8 904 109 = Xi T7 904 109 from w92.x _ _ rfl)
      have w95 : Xi T8 904 15 = Xi S 904 15 := (show Xi T8 904 15 = Xi T7 904 15 from w92.x _ _ rfl).trans ( (show Xi T7 904 15 = Xi U6 904 15 from w73.x _ _ rfl).trans ( (show Xi U6 904 15 = Xi T5 904 15 from by rw [eU6]; exact Xi_ne (by omega)).trans ( (show Xi T5 904 15 = Xi U4 904 15 from w49.x _ _ rfl).trans ( (show Xi U4 904 15 = Xi U3 904 15 from by rw [eU4]; exact Xi_ne (by omega)).trans ( (show Xi U3 904 15 = Xi U2 904 15 from by rw [eU3]; exact Xi_ne (by omega)).trans ( (show Xi U2 904 15 = Xi U1 904 15 from by rw [eU2]; exact Xi_ne (by omega)).trans ((show Xi U1 904 15 = Xi S 904 15 from by rw [eU1]; exact Xi_ne (by omega)))))))))
      have w96 : Xi T8 904 19 = Xi S 904 19 := (show Xi T8 904 19 = Xi T7 904 19 from w92.x _ _ rfl).trans ( (show Xi T7 904 19 = Xi U6 904 19 from w73.x _ _ rfl).trans ( (show Xi U6 904 19 = Xi T5 904 19 from by rw [eU6]; exact Xi_ne (by omega)).trans ( (show Xi T5 904 19 = Xi U4 904 19 from w49.x _ _ rfl).trans ( (show Xi U4 904 19 = Xi U3 904 19 from by rw [eU4]; exact Xi_ne (by omega)).trans ( (show Xi U3 904 19 = Xi U2 904 19 from by rw [eU3]; exact Xi_ne (by omega)).trans ( (show Xi U2 904 19 = Xi U1 904 19 from by rw [eU2]; exact Xi_ne (by omega)).trans ((show Xi U1 904 19 = Xi S 904 19 from by rw [eU1]; exact Xi_ne (by omega)))))))))
      have w97 : Xi T8 904 32 = Xi S 904 32 := (show Xi T8 904 32 = Xi T7 904 32 from w92.x _ _ rfl).trans ( (show Xi T7 904 32 = Xi U6 904 32 from w73.x _ _ rfl).trans ( (show Xi U6 904 32 = Xi T5 904 32 from by rw [eU6]; exact Xi_ne (by omega)).trans ( (show Xi T5 904 32 = Xi U4 904 32 from w49.x _ _ rfl).trans ( (show Xi U4 904 32 = Xi U3 904 32 from by rw [eU4]; exact Xi_ne (by omega)).trans ( (show Xi U3 904 32 = Xi U2 904 32 from by rw [eU3]; exact Xi_ne (by omega)).trans ( (show Xi U2 904 32 = Xi U1 904 32 from by rw [eU2]; exact Xi_ne (by omega)).trans ((show Xi U1 904 32 = Xi S 904 32 from by rw [eU1]; exact Xi_ne (by omega)))))))))
      have w98 : Xi T8 904 70 = Xi S 904 70 := (show Xi T8 904 70 = Xi T7 904 70 from w92.x _ _ rfl).trans ( (show Xi T7 904 70 = Xi U6 904 70 from w73.x _ _ rfl).trans ( (show Xi U6 904 70 = Xi T5 904 70 from by rw [eU6]; exact Xi_ne (by omega)).trans ( (show Xi T5 904 70 = Xi U4 904 70 from w49.x _ _ rfl).trans ( (show Xi U4 904 70 = Xi U3 904 70 from by rw [eU4]; exact Xi_ne (by omega)).trans ( (show Xi U3 904 70 = Xi U2 904 70 from by rw [eU3]; exact Xi_ne (by omega)).trans ( (show Xi U2 904 70 = Xi U1 904 70 from by rw [eU2]; exact Xi_ne (by omega)).trans ((show Xi U1 904 70 = Xi S 904 70 from by rw [eU1]; exact Xi_ne (by omega)))))))))
      have w99 : Xi T8 904 71 = Xi S 904 71 := (show Xi T8 904 71 = Xi T7 904 71 from w92.x _ _ rfl).trans ( (show Xi T7 904 71 = Xi U6 904 71 from w73.x _ _ rfl).trans ( (show Xi U6 904 71 = Xi T5 904 71 from by rw [eU6]; exact Xi_ne (by omega)).trans ( (show Xi T5 904 71 = Xi U4 904 71 from w49.x _ _ rfl).trans ( (show Xi U4 904 71 = Xi U3 904 71 from by rw [eU4]; exact Xi_ne (by omega)).trans ( (show Xi U3 904 71 = Xi U2 904 71 from by rw [eU3]; exact Xi_ne (by omega)).trans ( (show Xi U2 904 71 = Xi U1 904 71 from by rw [eU2]; exact Xi_ne (by omega)).trans ((show Xi U1 904 71 = Xi S 904 71 from by rw [eU1]; exact Xi_ne (by omega)))))))))
      have w100 : Xi T8 904 72 = Xi S 904 72 := (show Xi T8 904 72 = Xi T7 904 72 from w92.x _ _ rfl).trans ( (show Xi T7 904 72 = Xi U6 904 72 from w73.x _ _ rfl).trans ( (show Xi U6 904 72 = Xi T5 904 72 from by rw [eU6]; exact Xi_ne (by omega)).trans ( (show Xi T5 904 72 = Xi U4 904 72 from w49.x _ _ rfl).trans ( (show Xi U4 904 72 = Xi U3 904 72 from by rw [eU4]; exact Xi_ne (by omega)).trans ( (show Xi U3 904 72 = Xi U2 904 72 from by rw [eU3]; exact Xi_ne (by omega)).trans ( (show Xi U2 904 72 = Xi U1 904 72 from by rw [eU2]; exact Xi_ne (by omega)).trans ((show Xi U1 904 72 = Xi S 904 72 from by rw [eU1]; exact Xi_ne (by omega)))))))))
      have w101 : Xi T8 904 73 = Xi S 904 73 := (show Xi T8 904 73 = Xi T7 904 73 from w92.x _ _ rfl).trans ( (show Xi T7 904 73 = Xi U6 904 73 from w73.x _ _ rfl).trans ( (show Xi U6 904 73 = Xi T5 904 73 from by rw [eU6]; exact Xi_ne (by omega)).trans ( (show Xi T5 904 73 = Xi U4 904 73 from w49.x _ _ rfl).trans ( (show Xi U4 904 73 = Xi U3 904 73 from by rw [eU4]; exact Xi_ne (by omega)).trans ( (show Xi U3 904 73 = Xi U2 904 73 from by rw [eU3]; exact Xi_ne (by omega)).trans ( (show Xi U2 904 73 = Xi U1 904 73 from by rw [eU2]; exact Xi_ne (by omega)).trans ((show Xi U1 904 73 = Xi S 904 73 from by rw [eU1]; exact Xi_ne (by omega)))))))))
      have w102 : Xi T8 904 74 = Xi S 904 74 := (show Xi T8 904 74 = Xi T7 904 74 from w92.x _ _ rfl).trans ( (show Xi T7 904 74 = Xi U6 904 74 from w73.x _ _ rfl).trans ( (show Xi U6 904 74 = Xi T5 904 74 from by rw [eU6]; exact Xi_ne (by omega)).trans ( (show Xi T5 904 74 = Xi U4 904 74 from w49.x _ _ rfl).trans ( (show Xi U4 904 74 = Xi U3 904 74 from by rw [eU4]; exact Xi_ne (by omega)).trans ( (show Xi U3 904 74 = Xi U2 904 74 from by rw [eU3]; exact Xi_ne (by omega)).trans ( (show Xi U2 904 74 = Xi U1 904 74 from by rw [eU2]; exact Xi_ne (by omega)).trans ((show Xi U1 904 74 = Xi S 904 74 from by rw [eU1]; exact Xi_ne (by omega)))))))))
      have w103 : Xi T8 904 78 = Xi S 904 78 := (show Xi T8 904 78 = Xi T7 904 78 from w92.x _ _ rfl).trans ( (show Xi T7 904 78 = Xi U6 904 78 from w73.x _ _ rfl).trans ( (show Xi U6 904 78 = Xi T5 904 78 from by rw [eU6]; exact Xi_ne (by omega)).trans ( (show Xi T5 904 78 = Xi U4 904 78 from w49.x _ _ rfl).trans ( (show Xi U4 904 78 = Xi U3 904 78 from by rw [eU4]; exact Xi_ne (by omega)).trans ( (show Xi U3 904 78 = Xi U2 904 78 from by rw [eU3]; exact Xi_ne (by omega)).trans ( (show Xi U2 904 78 = Xi U1 904 78 from by rw [eU2]; exact Xi_ne (by omega)).trans ((show Xi U1 904 78 = Xi S 904 78 from by rw [eU1]; exact Xi_ne (by omega)))))))))
      refine y_callV rfl rfl rfl (t_mo_askPlace__p hHT8 (by first | assumption | exact (LSP_FR hFT8 rfl rfl (by assumption : LSP S))) (by first | assumption | omega) (by first | assumption | exact (RBD_FR hFT8 rfl (by assumption : RBD S))) (by first | assumption | exact (ABV_FR hFT8 rfl (by assumption : ABV S))) (fun j => by rw [(hFT8.cx 918 rfl j).1]; exact hko.o j) (by first | assumption | omega) _) ?_
      rintro _ T9 ⟨hHT9, w105, rfl, o296⟩
      have hFT9 : FR md_mo_asked__12 S T9 := FR.tr hFT8 w105 rfl
      show Pl _ _ _ _ _ _ [] _ _
      have F296 := (by assumption : FR md_mo_askPlace__p T8 T9)
      have R296 : RO12 S T9 1 := by obtain ⟨nn, h⟩ := o249; exact ro12 (C := T8) (roi_sm (SMR_FR G249 rfl rfl) (G249.x 904 71 rfl) (G249.x 904 72 rfl) (G249.x 904 19 rfl) h z249) n292.o T279.o.1 T279.o.2 y279 (RPA_am (SMR_FR hFT8 rfl rfl) hFT8 rfl rfl rfl o296) z249 hpp.o.1 hpp.o.2 (fun d => by obtain ⟨m, a, b, c⟩ := K279.o d; exact ⟨m, a, b, krd_k c (by rw [F296.x 904 110 rfl, F292.x 904 110 rfl]) (by rw [F296.x 904 112 rfl, F292.x 904 112 rfl]) (fun j => by rw [(F296.cx 967 rfl j).1, (F292.cx 967 rfl j).1])⟩)
      refine y_goto rfl rfl ?_
      refine y_return rfl rfl ?_
      exact ⟨hHT9, hFT9, rfl, (R296)⟩
    | 13, hii =>
      cases hii
      have w117 : (Xi S 904 70) = 13 := by simpa using w20
      exfalso; omega
    | 14, hii =>
      cases hii
      have w118 : (Xi S 904 70) = 14 := by simpa using w20
      exfalso; omega
    | 15, hii =>
      cases hii
      have w119 : (Xi S 904 70) = 15 := by simpa using w20
      exfalso; omega
    | 16, hii =>
      cases hii
      have w120 : (Xi S 904 70) = 16 := by simpa using w20
      exfalso; omega
    | 17, hii =>
      cases hii
      have w121 : (Xi S 904 70) = 17 := by simpa using w20
      exfalso; omega
    | 18, hii =>
      cases hii
      have w122 : (Xi S 904 70) = 18 := by simpa using w20
      exfalso; omega
    | 19, hii =>
      cases hii
      have w123 : (Xi S 904 70) = 19 := by simpa using w20
      exfalso; omega
    | 20, hii =>
      cases hii
      have w124 : (Xi S 904 70) = 20 := by simpa using w20
      exfalso; omega
    | n + 21, hii => exact absurd hii (by simp)
end
