section
/-! 9: the reference asks and does -/
def wOKR (S : sS) (t r tp : Int) : Prop := (Xi S 907 t.toNat = 4 ∧ tp = 0) ∨ (Xi S 907 t.toNat = 5 ∧ tp = 1) ∨ (Xi S 907 t.toNat ≠ 4 ∧ Xi S 907 t.toNat ≠ 5 ∧ rnR S r 6 ≠ -1 ∧ Xi S 927 (rnR S r 6).toNat = tp)
noncomputable def wvR (S : sS) (t r : Int) : Int := if Xi S 907 t.toNat = 4 then Xj S 910 t.toNat else if Xi S 907 t.toNat = 5 then Xi S 908 t.toNat + 1 else rnR S r 6
def wlR (S : sS) (t : Int) : Int := if Xi S 907 t.toNat = 5 then Xi S 909 t.toNat else 0
def WMR (S S1 : sS) (t r tp q : Int) : Prop := (wOKR S t r tp → NT3 S1 = NT3 S) ∧ (¬ wOKR S t r tp → NT3 S1 = ntF (NT3 S) 4 (Xi S 908 t.toNat)) ∧ Xi S1 973 q.toNat = wvR S t r ∧ Xi S1 974 q.toNat = wlR S t
theorem wmr_4 {S S1 : sS} {t r tp q g : Int} (h : Xi S 907 t.toNat = 4) (hg : (tp = 0 ∧ g = 1) ∨ (tp ≠ 0 ∧ g = 0)) (n : NT3 S1 = if g = 0 then ntF (NT3 S) 4 (Xi S 908 t.toNat) else NT3 S) (a : Xi S1 973 q.toNat = Xj S 910 t.toNat) (b : Xi S1 974 q.toNat = 0) : WMR S S1 t r tp q := by
  refine ⟨fun k => ?_, fun k => ?_, by unfold wvR; rw [if_pos h]; exact a, by unfold wlR; rw [if_neg (by omega)]; exact b⟩
  · rw [if_neg (by unfold wOKR at k; omega)] at n; exact n
  · rw [if_pos (by rcases hg with w | w; exact absurd (Or.inl ⟨h, w.1⟩) k; exact w.2)] at n; exact n
theorem wmr_5 {S S1 : sS} {t r tp q g : Int} (h : Xi S 907 t.toNat = 5) (hg : (tp = 1 ∧ g = 1) ∨ (tp ≠ 1 ∧ g = 0)) (n : NT3 S1 = if g = 0 then ntF (NT3 S) 4 (Xi S 908 t.toNat) else NT3 S) (a : Xi S1 973 q.toNat = Xi S 908 t.toNat + 1) (b : Xi S1 974 q.toNat = Xi S 909 t.toNat) : WMR S S1 t r tp q := by
  refine ⟨fun k => ?_, fun k => ?_, by unfold wvR; rw [if_neg (by omega), if_pos h]; exact a, by unfold wlR; rw [if_pos h]; exact b⟩
  · rw [if_neg (by unfold wOKR at k; omega)] at n; exact n
  · rw [if_pos (by rcases hg with w | w; exact absurd (Or.inr (Or.inl ⟨h, w.1⟩)) k; exact w.2)] at n; exact n
theorem wmr_6 {S S1 : sS} {t r tp q g : Int} (h : Xi S 907 t.toNat ≠ 4) (h2 : Xi S 907 t.toNat ≠ 5) (hg : ((rnR S r 6 ≠ -1 ∧ Xi S 927 (rnR S r 6).toNat = tp) ∧ g = 1) ∨ (¬ (rnR S r 6 ≠ -1 ∧ Xi S 927 (rnR S r 6).toNat = tp) ∧ g = 0)) (n : NT3 S1 = if g = 0 then ntF (NT3 S) 4 (Xi S 908 t.toNat) else NT3 S) (a : Xi S1 973 q.toNat = rnR S r 6) (b : Xi S1 974 q.toNat = 0) : WMR S S1 t r tp q := by
  refine ⟨fun k => ?_, fun k => ?_, by unfold wvR; rw [if_neg h, if_neg h2]; exact a, by unfold wlR; rw [if_neg h2]; exact b⟩
  · rw [if_neg (by rcases k with k | k | k; omega; omega; (rcases hg with w | w; (have := w.2; omega); exact absurd k.2.2 w.1))] at n; exact n
  · rw [if_pos (by rcases hg with w | w; exact absurd (Or.inr (Or.inr ⟨h, h2, w.1⟩)) k; exact w.2)] at n; exact n
/-- the kind of what is told -/
noncomputable def kp9 (S : sS) : Int := if rnR S 1 4 ≠ -1 then Xi S 918 (rnR S 1 4).toNat else rnR S 1 0
def okp9 (S : sS) : Prop := rnR S 0 7 ≠ -1 ∧ (kp9 S = -1 ∨ hsR S (kp9 S) (rnR S 0 7) ≠ 0)
def RPY (S S1 : sS) : Prop :=
  (¬ okp9 S → NTB (NT3 S1) 4 (pR S 0)) ∧ (okp9 S → kp9 S = -1 → NTB (NT3 S1) 4 (pR S 1)) ∧
  (okp9 S → kp9 S ≠ -1 → ¬ wOKR S (Xi S 904 78) 2 (Xi S 928 (rnR S 0 7).toNat) → NTB (NT3 S1) 4 (Xi S 908 (Xi S 904 78).toNat)) ∧
  (okp9 S → kp9 S ≠ -1 → wOKR S (Xi S 904 78) 2 (Xi S 928 (rnR S 0 7).toNat) → (NT3 S1).1 = 0 ∧ Xi S1 973 (Xi S 904 117).toNat = wvR S (Xi S 904 78) 2 ∧ Xi S1 974 (Xi S 904 117).toNat = wlR S (Xi S 904 78))
theorem ntF_0 {x : Int × Int × Int} {f p : Int} (h : x.1 = 0) : NTB (ntF x f p) f p := by unfold ntF; rw [if_pos (Or.inl h)]; exact ⟨rfl, rfl⟩
theorem ntF_b {x : Int × Int × Int} {f p : Int} (h : p < x.2.1) : NTB (ntF x f p) f p := by unfold ntF; rw [if_pos (Or.inr (Or.inl h))]; exact ⟨rfl, rfl⟩
theorem ntF_k {x : Int × Int × Int} {f p : Int} (h : x.1 ≠ 0) (h2 : x.2.1 < p) : ntF x f p = x := by unfold ntF; rw [if_neg (by omega)]
theorem rpy_n {S : sS} {x0 x1 x2 x3 : Int × Int × Int} {g1 g2 : Int} (h0 : x0.1 = 0) (n1 : x1 = if g1 = 0 then ntF x0 4 (pR S 1) else x0) (n2 : x2 = if g2 = 0 then ntF x1 4 (pR S 0) else x1) (w1 : kp9 S ≠ -1 → g1 = 1) (w2 : kp9 S = -1 → g1 = 0) (v1 : okp9 S → g2 = 1) (v2 : ¬ okp9 S → g2 = 0) (hp : pR S 0 < pR S 1) (hq : pR S 1 < Xi S 908 (Xi S 904 78).toNat) (k : x3 = x2 ∨ x3 = ntF x2 4 (Xi S 908 (Xi S 904 78).toNat)) : (¬ okp9 S → NTB x3 4 (pR S 0)) ∧ (okp9 S → kp9 S = -1 → NTB x3 4 (pR S 1)) ∧ (okp9 S → kp9 S ≠ -1 → x2 = x0) := by
  have key : ∀ p : Int, p < Xi S 908 (Xi S 904 78).toNat → NTB x2 4 p → NTB x3 4 p := fun p hl b => by
    rcases k with e | e
    · rw [e]; exact b
    · rw [e, ntF_k (by rw [b.1]; decide) (by rw [b.2]; exact hl)]; exact b
  refine ⟨fun q => key _ (by omega) ?_, fun q w => key _ hq ?_, fun q w => ?_⟩
  · rw [n2, if_pos (v2 q)]
    by_cases y : kp9 S = -1
    · rw [n1, if_pos (w2 y)]
      exact ntF_b (by rw [(ntF_0 h0).2]; exact hp)
    · rw [n1, if_neg (by have := w1 y; omega)]; exact ntF_0 h0
  · rw [n2, if_neg (by have := v1 q; omega), n1, if_pos (w2 w)]; exact ntF_0 h0
  · rw [n2, if_neg (by have := v1 q; omega), n1, if_neg (by have := w1 w; omega)]
theorem wok_fr {S P : sS} {l : List rec} {t r tp : Int} (F : FR l S P) (e : kdis l [(907, 908), (927, 928)] = true) (m : SMR S P) : wOKR P t r tp ↔ wOKR S t r tp := by
  have k := F.smk e
  unfold wOKR
  rw [k.x 907 rfl, k.x 927 rfl, rnR_sm m]
theorem wv_fr {S P : sS} {l : List rec} {t r : Int} (F : FR l S P) (e : kdis l [(907, 908), (927, 928)] = true) (m : SMR S P) : wvR P t r = wvR S t r := by
  have k := F.smk e
  unfold wvR
  rw [k.x 907 rfl, rnR_sm m, m.2.1 908 _ (by omega), m.2.2.1]
theorem wl_fr {S P : sS} {l : List rec} {t : Int} (F : FR l S P) (e : kdis l [(907, 908), (909, 910)] = true) : wlR P t = wlR S t := by
  have k := F.smk e
  unfold wlR
  rw [k.x 907 rfl, k.x 909 rfl]
def RP9 (S : sS) (x0 x2 : Int × Int × Int) : Prop := ∀ x3 : Int × Int × Int, (x3 = x2 ∨ x3 = ntF x2 4 (Xi S 908 (Xi S 904 78).toNat)) → (¬ okp9 S → NTB x3 4 (pR S 0)) ∧ (okp9 S → kp9 S = -1 → NTB x3 4 (pR S 1)) ∧ (okp9 S → kp9 S ≠ -1 → x2 = x0)
theorem rpy_e {S P S1 : sS} {x0 : Int × Int × Int} {l : List rec} {tp q : Int} (h0 : x0.1 = 0) (A : RP9 S x0 (NT3 P)) (F : FR l S P) (e1 : kdis l [(907, 908), (927, 928)] = true) (e2 : kdis l [(907, 908), (909, 910)] = true) (m : SMR S P) (o : WMR P S1 (Xi S 904 78) 2 tp q) (et : tp = Xi S 928 (rnR S 0 7).toNat) (eq : q = Xi S 904 117) : RPY S S1 := by
  subst et; subst eq
  unfold WMR at o
  rw [wok_fr F e1 m, wv_fr F e1 m, wl_fr F e2, m.2.1 908 _ (by omega)] at o
  obtain ⟨o1, o2, o3, o4⟩ := o
  have kk : NT3 S1 = NT3 P ∨ NT3 S1 = ntF (NT3 P) 4 (Xi S 908 (Xi S 904 78).toNat) := by
    by_cases w : wOKR S (Xi S 904 78) 2 (Xi S 928 (rnR S 0 7).toNat)
    · exact Or.inl (o1 w)
    · exact Or.inr (o2 w)
  obtain ⟨a1, a2, a3⟩ := A _ kk
  refine ⟨a1, a2, fun y w n => ?_, fun y w n => ⟨?_, o3, o4⟩⟩
  · rw [o2 n, a3 y w]; exact ntF_0 h0
  · rw [o1 n, a3 y w]; exact h0
theorem rpy_0 {S S1 : sS} {x0 : Int × Int × Int} (A : RP9 S x0 (NT3 S1)) (n : ¬ okp9 S) : RPY S S1 := ⟨(A _ (Or.inl rfl)).1, fun q => absurd q n, fun q => absurd q n, fun q => absurd q n⟩
theorem RPY_fr {S P S1 : sS} {l : List rec} (F : FR l S P) (m : SMR S P) (e1 : kdis l [(907, 908), (927, 928)] = true) (e2 : kdis l [(907, 908), (909, 910)] = true) (e3 : kdis l [(917, 919), (928, 930)] = true) (a : Xi P 904 78 = Xi S 904 78) (b : Xi P 904 117 = Xi S 904 117) (h : RPY P S1) : RPY S S1 := by
  have k := F.smk e3
  have kp : kp9 P = kp9 S := by unfold kp9; rw [rnR_sm m, rnR_sm m, k.x 918 rfl]
  have ok : okp9 P ↔ okp9 S := by
    unfold okp9
    rw [kp, rnR_sm m, show hsR P (kp9 S) (rnR S 0 7) = hsR S (kp9 S) (rnR S 0 7) from hsN_k (fun j => k.x 917 rfl j) (fun j => k.x 929 rfl j) 17 _]
  unfold RPY at h ⊢
  rw [ok, kp, a, b, wok_fr F e1 m, wv_fr F e1 m, wl_fr F e2, rnR_sm m, pR_sm m, pR_sm m, m.2.1 908 _ (by omega), k.x 928 rfl] at h
  exact h
/-- 9: what the reference does -/
def RD9 (S S1 : sS) : Prop := ∃ (A : sS) (z : Int), (rnR S 1 4 ≠ -1 → TPR1 S A z 930 (rnR S 1 4) (rnR S 0 7) (Xi S 973 (Xi S 904 117).toNat) (Xi S 974 (Xi S 904 117).toNat)) ∧ (rnR S 1 4 = -1 → TPR1 S A z 933 (rnR S 1 0) (rnR S 0 7) (Xi S 973 (Xi S 904 117).toNat) (Xi S 974 (Xi S 904 117).toNat)) ∧ ((z = 1 ∧ S1 = A) ∨ (z = 0 ∧ NTB (NT3 S1) 5 (pR S 1)))

def md_mo_whatMeant__p : List rec := [(904, 905, 104, 105), (904, 905, 105, 106), (904, 905, 106, 107), (973, 974, 0, 100000), (974, 975, 0, 100000)]
abbrev Q_mo_whatMeant__p (S : sS) (t : Int) (rr : Int) (type : Int) (q : Int) : pst := fun r S1 => RI S1 ∧ FR md_mo_whatMeant__p S S1 ∧ (r = none ∧ (WMR S S1 t rr type q))
set_option maxRecDepth 100000 in
theorem t_mo_whatMeant__p {S : sS} (hH : RI S) (t : Int) (rr : Int) (type : Int) (q : Int) (ht : -2147483648 ≤ t ∧ t ≤ 2147483647) (hrr : -2147483648 ≤ rr ∧ rr ≤ 2147483647) (htype : -2147483648 ≤ type ∧ type ≤ 2147483647) (hq : -2147483648 ≤ q ∧ q ≤ 2147483647) (hLS : LSP S) (h15 : 0 ≤ Xi S 904 15) (hRB : RBD S) (hnum : Hid (Xi S 907 t.toNat = 4 → 0 ≤ Xj S 910 t.toNat ∧ Xj S 910 t.toNat ≤ 2147483647)) (hplc : Xi S 908 t.toNat ≤ 100000) (d : Nat) : Mp lay0 (d + 5) m_mo_whatMeant [.ref 904, iv t, iv rr, iv type, iv q] S (Q_mo_whatMeant__p S t rr type q) := by
  refine Mp_R rfl rfl (fun fu => ?_)
  have hF : FR md_mo_whatMeant__p S S := FR.rf
  have w1 : -2147483648 ≤ Xi S 904 15 ∧ Xi S 904 15 ≤ 2147483647 := Xi_rgI
  refine y_aload_n rfl rfl ?_
  refine y_gfr rfl rfl rfl rfl rfl (hH.r 904 4 907 rfl) ?_
  refine y_iload_n rfl rfl ?_
  refine y_ialoadP (n := 5002) rfl rfl (by unfold rg; omega) (fun w2 w3 => ?_)
  have w4 : -2147483648 ≤ (Xi S 907 ((t).toNat)) ∧ (Xi S 907 ((t).toNat)) ≤ 2147483647 := Xi_rgI
  refine y_istore rfl rfl rfl ?_
  refine y_aload_n rfl rfl ?_
  refine y_gfr rfl rfl rfl rfl rfl (hH.r 904 122 973 rfl) ?_
  refine y_iload rfl rfl ?_
  refine y_iconst rfl ?_
  refine y_iastoreP (n := 2400) rfl rfl (by unfold rg; omega) (fun w5 w6 => ?_)
  obtain ⟨U1, eU1⟩ : ∃ T : sS, T = uI S 973 ((q).toNat) (Int32.ofInt 0) := ⟨_, rfl⟩
  rw [← eU1]
  have hHU1 : RI U1 := by rw [eU1]; exact RI_w hH
  have hFU1 : FR md_mo_whatMeant__p S U1 := by rw [eU1]; exact FR.wI hF (mdf_i (r := (973, 974, 0, 100000)) (List.mem_of_getElem? (i := 3) rfl) (inR_i (by omega) (by omega) (by omega) (by omega)))
  have w7 : Xi U1 973 ((q).toNat) = 0 := by rw [eU1]; exact Xi_same (by unfold rg; omega)
  have ee15 := eU1
  refine y_aload_n rfl rfl ?_
  refine y_gfr rfl rfl rfl rfl rfl (hHU1.r 904 123 974 rfl) ?_
  refine y_iload rfl rfl ?_
  refine y_iconst rfl ?_
  refine y_iastoreP (n := 2400) rfl rfl (by unfold rg; omega) (fun w8 w9 => ?_)
  obtain ⟨U2, eU2⟩ : ∃ T : sS, T = uI U1 974 ((q).toNat) (Int32.ofInt 0) := ⟨_, rfl⟩
  rw [← eU2]
  have hHU2 : RI U2 := by rw [eU2]; exact RI_w hHU1
  have hFU2 : FR md_mo_whatMeant__p S U2 := by rw [eU2]; exact FR.wI hFU1 (mdf_i (r := (974, 975, 0, 100000)) (List.mem_of_getElem? (i := 4) rfl) (inR_i (by omega) (by omega) (by omega) (by omega)))
  have w10 : Xi U2 974 ((q).toNat) = 0 := by rw [eU2]; exact Xi_same (by unfold rg; omega)
  have z23 : Xi U2 974 q.toNat = 0 := by rw [eU2]; exact Xi_same (by unfold rg; omega)
  have t23 : NT3 U2 = NT3 S := by rw [eU2, ee15]; unfold NT3; repeat rw [Xi_ne (by omega)]
  refine y_iload rfl rfl ?_
  refine y_iconst rfl ?_
  refine y_icmp_ne rfl rfl (by unfold rg; omega) (by unfold rg; omega) (fun w11 => ?_) (fun w12 => ?_)
  · refine y_iload rfl rfl ?_
    refine y_iconst rfl ?_
    refine y_icmp_ne rfl rfl (by unfold rg; omega) (by unfold rg; omega) (fun w13 => ?_) (fun w14 => ?_)
    · refine y_aload_n rfl rfl ?_
      refine y_iload_n rfl rfl ?_
      refine y_bipush rfl rfl ?_
      have w15 : Xi U2 904 15 = Xi S 904 15 := (show Xi U2 904 15 = Xi U1 904 15 from by rw [eU2]; exact Xi_ne (by omega)).trans ((show Xi U1 904 15 = Xi S 904 15 from by rw [eU1]; exact Xi_ne (by omega)))
      refine y_callV rfl rfl rfl (t_mo_meansRun__p hHU2 rr 6 ⟨by omega, by omega⟩ ⟨by omega, by omega⟩ (by first | assumption | exact (LSP_FR hFU2 rfl rfl (by assumption : LSP S))) (by first | assumption | omega) (by first | assumption | exact (RBD_FR hFU2 rfl (by assumption : RBD S))) _) ?_
      rintro _ _ ⟨rfl, z16, rfl, w16, f119⟩
      show Pl _ _ _ _ _ _ [iv z16] _ _
      have e119 : z16 = rnR S rr 6 := by have t1 := f119; rw [rnR_sm (SMR_FR hFU2 rfl rfl)] at t1; exact t1
      clear f119
      refine y_istore rfl rfl rfl ?_
      refine y_aload_n rfl rfl ?_
      refine y_iload rfl rfl ?_
      refine y_iconst rfl ?_
      refine y_icmp_eq rfl rfl (by unfold rg; omega) (by unfold rg; omega) (fun w17 => ?_) (fun w18 => ?_)
      · refine y_iconst rfl ?_
        refine y_iconst rfl ?_
        refine y_iload_n rfl rfl ?_
        refine y_callV rfl rfl rfl (t_mo_need__p hHU2 0 4 t ⟨by omega, by omega⟩ ⟨by omega, by omega⟩ ⟨by omega, by omega⟩ _) ?_
        rintro _ T3 ⟨hHT3, w20, rfl, nt149⟩
        have hFT3 : FR md_mo_whatMeant__p S T3 := FR.tr hFU2 w20 rfl
        show Pl _ _ _ _ _ _ [] _ _
        have n149 := nt149
        rw [t23, (hFU2.cx 908 rfl _).1] at n149
        have F149 := (by assumption : FR md_mo_need__p U2 T3)
        have y149 : Xi T3 974 q.toNat = 0 := (F149.x 974 _ rfl).trans z23
        refine y_aload_n rfl rfl ?_
        refine y_gfr rfl rfl rfl rfl rfl (hHT3.r 904 122 973 rfl) ?_
        refine y_iload rfl rfl ?_
        refine y_iload rfl rfl ?_
        refine y_iastoreP (n := 2400) rfl rfl (by unfold rg; omega) (fun w21 w22 => ?_)
        obtain ⟨U4, eU4⟩ : ∃ T : sS, T = uI T3 973 ((q).toNat) (Int32.ofInt z16) := ⟨_, rfl⟩
        rw [← eU4]
        have hHU4 : RI U4 := by rw [eU4]; exact RI_w hHT3
        have hFU4 : FR md_mo_whatMeant__p S U4 := by rw [eU4]; exact FR.wI hFT3 (mdf_i (r := (973, 974, 0, 100000)) (List.mem_of_getElem? (i := 3) rfl) (inR_i (by omega) (by omega) (by omega) (by omega)))
        have w23 : Xi U4 973 ((q).toNat) = z16 := by rw [eU4]; exact Xi_same (by unfold rg; omega)
        have k160 : NT3 U4 = NT3 T3 := by unfold NT3; rw [eU4]; repeat rw [Xi_ne (by omega)]
        have x160 : Xi U4 973 q.toNat = rnR S rr 6 := by rw [eU4, e119, Xi_same (by rw [← e119]; unfold rg; omega)]
        have y160 : Xi U4 974 q.toNat = 0 := by rw [eU4, Xi_ne (by omega)]; exact y149
        refine y_return rfl rfl ?_
        exact ⟨hHU4, hFU4, rfl, (by first | (have t1 := K58; first | exact wmr_4 (g := 1) (by omega) (by omega) (k58.trans n42) x58 y58 | exact wmr_4 (g := 0) (by omega) (by omega) (k58.trans n42) x58 y58) | (have t1 := K111; first | exact wmr_5 (g := 1) (by omega) (by omega) ((k111.trans k98).trans n81) y111 x111 | exact wmr_5 (g := 0) (by omega) (by omega) ((k111.trans k98).trans n81) y111 x111) | exact wmr_6 (g := 1) (by omega) (by omega) (Or.inl ⟨⟨by omega, by omega⟩, rfl⟩) (k160.trans n149) x160 y160 | exact wmr_6 (g := 0) (by omega) (by omega) (Or.inr ⟨fun w => by have w1 := w.1; have w2 := w.2; omega, rfl⟩) (k160.trans n149) x160 y160)⟩
      · refine y_aload_n rfl rfl ?_
        refine y_gfr rfl rfl rfl rfl rfl (hHU2.r 904 31 927 rfl) ?_
        refine y_iload rfl rfl ?_
        refine y_ialoadP (n := 64) rfl rfl (by unfold rg; omega) (fun w24 w25 => ?_)
        have w26 : -2147483648 ≤ (Xi U2 927 ((z16).toNat)) ∧ (Xi U2 927 ((z16).toNat)) ≤ 2147483647 := Xi_rgI
        have e137 : (Xi U2 927 ((z16).toNat)) = Xi S 927 (rnR S rr 6).toNat := by rw [(hFU2.cx 927 rfl _).1, e119]
        refine y_iload_n rfl rfl ?_
        refine y_icmp_ne rfl rfl (by unfold rg; omega) (by unfold rg; omega) (fun w27 => ?_) (fun w28 => ?_)
        · refine y_iconst rfl ?_
          refine y_iconst rfl ?_
          refine y_iload_n rfl rfl ?_
          refine y_callV rfl rfl rfl (t_mo_need__p hHU2 0 4 t ⟨by omega, by omega⟩ ⟨by omega, by omega⟩ ⟨by omega, by omega⟩ _) ?_
          rintro _ T5 ⟨hHT5, w30, rfl, nt149⟩
          have hFT5 : FR md_mo_whatMeant__p S T5 := FR.tr hFU2 w30 rfl
          show Pl _ _ _ _ _ _ [] _ _
          have n149 := nt149
          rw [t23, (hFU2.cx 908 rfl _).1] at n149
          have F149 := (by assumption : FR md_mo_need__p U2 T5)
          have y149 : Xi T5 974 q.toNat = 0 := (F149.x 974 _ rfl).trans z23
          refine y_aload_n rfl rfl ?_
          refine y_gfr rfl rfl rfl rfl rfl (hHT5.r 904 122 973 rfl) ?_
          refine y_iload rfl rfl ?_
          refine y_iload rfl rfl ?_
          refine y_iastoreP (n := 2400) rfl rfl (by unfold rg; omega) (fun w31 w32 => ?_)
          obtain ⟨U6, eU6⟩ : ∃ T : sS, T = uI T5 973 ((q).toNat) (Int32.ofInt z16) := ⟨_, rfl⟩
          rw [← eU6]
          have hHU6 : RI U6 := by rw [eU6]; exact RI_w hHT5
          have hFU6 : FR md_mo_whatMeant__p S U6 := by rw [eU6]; exact FR.wI hFT5 (mdf_i (r := (973, 974, 0, 100000)) (List.mem_of_getElem? (i := 3) rfl) (inR_i (by omega) (by omega) (by omega) (by omega)))
          have w33 : Xi U6 973 ((q).toNat) = z16 := by rw [eU6]; exact Xi_same (by unfold rg; omega)
          have k160 : NT3 U6 = NT3 T5 := by unfold NT3; rw [eU6]; repeat rw [Xi_ne (by omega)]
          have x160 : Xi U6 973 q.toNat = rnR S rr 6 := by rw [eU6, e119, Xi_same (by rw [← e119]; unfold rg; omega)]
          have y160 : Xi U6 974 q.toNat = 0 := by rw [eU6, Xi_ne (by omega)]; exact y149
          refine y_return rfl rfl ?_
          exact ⟨hHU6, hFU6, rfl, (by first | (have t1 := K58; first | exact wmr_4 (g := 1) (by omega) (by omega) (k58.trans n42) x58 y58 | exact wmr_4 (g := 0) (by omega) (by omega) (k58.trans n42) x58 y58) | (have t1 := K111; first | exact wmr_5 (g := 1) (by omega) (by omega) ((k111.trans k98).trans n81) y111 x111 | exact wmr_5 (g := 0) (by omega) (by omega) ((k111.trans k98).trans n81) y111 x111) | exact wmr_6 (g := 1) (by omega) (by omega) (Or.inl ⟨⟨by omega, by omega⟩, rfl⟩) (k160.trans n149) x160 y160 | exact wmr_6 (g := 0) (by omega) (by omega) (Or.inr ⟨fun w => by have w1 := w.1; have w2 := w.2; omega, rfl⟩) (k160.trans n149) x160 y160)⟩
        · refine y_iconst rfl ?_
          refine y_goto rfl rfl ?_
          refine y_iconst rfl ?_
          refine y_iload_n rfl rfl ?_
          refine y_callV rfl rfl rfl (t_mo_need__p hHU2 1 4 t ⟨by omega, by omega⟩ ⟨by omega, by omega⟩ ⟨by omega, by omega⟩ _) ?_
          rintro _ T7 ⟨hHT7, w35, rfl, nt149⟩
          have hFT7 : FR md_mo_whatMeant__p S T7 := FR.tr hFU2 w35 rfl
          show Pl _ _ _ _ _ _ [] _ _
          have n149 := nt149
          rw [t23, (hFU2.cx 908 rfl _).1] at n149
          have F149 := (by assumption : FR md_mo_need__p U2 T7)
          have y149 : Xi T7 974 q.toNat = 0 := (F149.x 974 _ rfl).trans z23
          refine y_aload_n rfl rfl ?_
          refine y_gfr rfl rfl rfl rfl rfl (hHT7.r 904 122 973 rfl) ?_
          refine y_iload rfl rfl ?_
          refine y_iload rfl rfl ?_
          refine y_iastoreP (n := 2400) rfl rfl (by unfold rg; omega) (fun w36 w37 => ?_)
          obtain ⟨U8, eU8⟩ : ∃ T : sS, T = uI T7 973 ((q).toNat) (Int32.ofInt z16) := ⟨_, rfl⟩
          rw [← eU8]
          have hHU8 : RI U8 := by rw [eU8]; exact RI_w hHT7
          have hFU8 : FR md_mo_whatMeant__p S U8 := by rw [eU8]; exact FR.wI hFT7 (mdf_i (r := (973, 974, 0, 100000)) (List.mem_of_getElem? (i := 3) rfl) (inR_i (by omega) (by omega) (by omega) (by omega)))
          have w38 : Xi U8 973 ((q).toNat) = z16 := by rw [eU8]; exact Xi_same (by unfold rg; omega)
          have k160 : NT3 U8 = NT3 T7 := by unfold NT3; rw [eU8]; repeat rw [Xi_ne (by omega)]
          have x160 : Xi U8 973 q.toNat = rnR S rr 6 := by rw [eU8, e119, Xi_same (by rw [← e119]; unfold rg; omega)]
          have y160 : Xi U8 974 q.toNat = 0 := by rw [eU8, Xi_ne (by omega)]; exact y149
          refine y_return rfl rfl ?_
          exact ⟨hHU8, hFU8, rfl, (by first | (have t1 := K58; first | exact wmr_4 (g := 1) (by omega) (by omega) (k58.trans n42) x58 y58 | exact wmr_4 (g := 0) (by omega) (by omega) (k58.trans n42) x58 y58) | (have t1 := K111; first | exact wmr_5 (g := 1) (by omega) (by omega) ((k111.trans k98).trans n81) y111 x111 | exact wmr_5 (g := 0) (by omega) (by omega) ((k111.trans k98).trans n81) y111 x111) | exact wmr_6 (g := 1) (by omega) (by omega) (Or.inl ⟨⟨by omega, by omega⟩, rfl⟩) (k160.trans n149) x160 y160 | exact wmr_6 (g := 0) (by omega) (by omega) (Or.inr ⟨fun w => by have w1 := w.1; have w2 := w.2; omega, rfl⟩) (k160.trans n149) x160 y160)⟩
    · refine y_aload_n rfl rfl ?_
      refine y_iload_n rfl rfl ?_
      refine y_iconst rfl ?_
      refine y_icmp_ne rfl rfl (by unfold rg; omega) (by unfold rg; omega) (fun w39 => ?_) (fun w40 => ?_)
      · refine y_iconst rfl ?_
        refine y_iconst rfl ?_
        refine y_iload_n rfl rfl ?_
        refine y_callV rfl rfl rfl (t_mo_need__p hHU2 0 4 t ⟨by omega, by omega⟩ ⟨by omega, by omega⟩ ⟨by omega, by omega⟩ _) ?_
        rintro _ T9 ⟨hHT9, w42, rfl, nt81⟩
        have hFT9 : FR md_mo_whatMeant__p S T9 := FR.tr hFU2 w42 rfl
        show Pl _ _ _ _ _ _ [] _ _
        have n81 := nt81
        rw [t23, (hFU2.cx 908 rfl _).1] at n81
        refine y_aload_n rfl rfl ?_
        refine y_gfr rfl rfl rfl rfl rfl (hHT9.r 904 122 973 rfl) ?_
        refine y_iload rfl rfl ?_
        refine y_aload_n rfl rfl ?_
        refine y_gfr rfl rfl rfl rfl rfl (hHT9.r 904 5 908 rfl) ?_
        refine y_iload_n rfl rfl ?_
        refine y_ialoadP (n := 5002) rfl rfl (by unfold rg; omega) (fun w43 w44 => ?_)
        have w45 : -2147483648 ≤ (Xi T9 908 ((t).toNat)) ∧ (Xi T9 908 ((t).toNat)) ≤ 2147483647 := Xi_rgI
        have e95 : (Xi T9 908 ((t).toNat)) = Xi S 908 t.toNat := (hFT9.cx 908 rfl _).1
        refine y_iconst rfl ?_
        refine y_iadd rfl ?_
        refine y_iastoreP (n := 2400) rfl rfl (by unfold rg; omega) (fun w46 w47 => ?_)
        obtain ⟨U10, eU10⟩ : ∃ T : sS, T = uI T9 973 ((q).toNat) (Int32.ofInt ((Xi T9 908 ((t).toNat)) + 1)) := ⟨_, rfl⟩
        rw [← eU10]
        have hHU10 : RI U10 := by rw [eU10]; exact RI_w hHT9
        have hFU10 : FR md_mo_whatMeant__p S U10 := by rw [eU10]; exact FR.wI hFT9 (mdf_i (r := (973, 974, 0, 100000)) (List.mem_of_getElem? (i := 3) rfl) (inR_i (by omega) (by omega) (by omega) (by omega)))
        have w48 : Xi U10 973 ((q).toNat) = ((Xi T9 908 ((t).toNat)) + 1) := by rw [eU10]; exact Xi_same (by unfold rg; omega)
        have k98 : NT3 U10 = NT3 T9 := by unfold NT3; rw [eU10]; repeat rw [Xi_ne (by omega)]
        have x98 : Xi U10 973 q.toNat = Xi S 908 t.toNat + 1 := by rw [eU10, e95, Xi_same (by unfold rg; omega)]
        refine y_aload_n rfl rfl ?_
        refine y_gfr rfl rfl rfl rfl rfl (hHU10.r 904 123 974 rfl) ?_
        refine y_iload rfl rfl ?_
        refine y_aload_n rfl rfl ?_
        refine y_gfr rfl rfl rfl rfl rfl (hHU10.r 904 6 909 rfl) ?_
        refine y_iload_n rfl rfl ?_
        refine y_ialoadP (n := 5002) rfl rfl (by unfold rg; omega) (fun w49 w50 => ?_)
        have w51 : -2147483648 ≤ (Xi U10 909 ((t).toNat)) ∧ (Xi U10 909 ((t).toNat)) ≤ 2147483647 := Xi_rgI
        have e110 : (Xi U10 909 ((t).toNat)) = Xi S 909 t.toNat := (hFU10.cx 909 rfl _).1
        refine y_iastoreP (n := 2400) rfl rfl (by unfold rg; omega) (fun w52 w53 => ?_)
        obtain ⟨U11, eU11⟩ : ∃ T : sS, T = uI U10 974 ((q).toNat) (Int32.ofInt (Xi U10 909 ((t).toNat))) := ⟨_, rfl⟩
        rw [← eU11]
        have hHU11 : RI U11 := by rw [eU11]; exact RI_w hHU10
        have hFU11 : FR md_mo_whatMeant__p S U11 := by rw [eU11]; exact FR.wI hFU10 (mdf_i (r := (974, 975, 0, 100000)) (List.mem_of_getElem? (i := 4) rfl) (inR_i (by omega) (by omega) (by omega) (by omega)))
        have w54 : Xi U11 974 ((q).toNat) = (Xi U10 909 ((t).toNat)) := by rw [eU11]; exact Xi_same (by unfold rg; omega)
        have K111 : True := trivial
        have k111 : NT3 U11 = NT3 U10 := by unfold NT3; rw [eU11]; repeat rw [Xi_ne (by omega)]
        have x111 : Xi U11 974 q.toNat = Xi S 909 t.toNat := by rw [eU11, e110, Xi_same (by have u : -2147483648 ≤ Xi S 909 t.toNat ∧ Xi S 909 t.toNat ≤ 2147483647 := Xi_rgI; unfold rg; omega)]
        have y111 : Xi U11 973 q.toNat = Xi S 908 t.toNat + 1 := by rw [eU11, Xi_ne (by omega)]; exact x98
        refine y_goto rfl rfl ?_
        refine y_return rfl rfl ?_
        exact ⟨hHU11, hFU11, rfl, (by first | (have t1 := K58; first | exact wmr_4 (g := 1) (by omega) (by omega) (k58.trans n42) x58 y58 | exact wmr_4 (g := 0) (by omega) (by omega) (k58.trans n42) x58 y58) | (have t1 := K111; first | exact wmr_5 (g := 1) (by omega) (by omega) ((k111.trans k98).trans n81) y111 x111 | exact wmr_5 (g := 0) (by omega) (by omega) ((k111.trans k98).trans n81) y111 x111) | exact wmr_6 (g := 1) (by omega) (by omega) (Or.inl ⟨⟨by omega, by omega⟩, rfl⟩) (k160.trans n149) x160 y160 | exact wmr_6 (g := 0) (by omega) (by omega) (Or.inr ⟨fun w => by have w1 := w.1; have w2 := w.2; omega, rfl⟩) (k160.trans n149) x160 y160)⟩
      · refine y_iconst rfl ?_
        refine y_goto rfl rfl ?_
        refine y_iconst rfl ?_
        refine y_iload_n rfl rfl ?_
        refine y_callV rfl rfl rfl (t_mo_need__p hHU2 1 4 t ⟨by omega, by omega⟩ ⟨by omega, by omega⟩ ⟨by omega, by omega⟩ _) ?_
        rintro _ T12 ⟨hHT12, w56, rfl, nt81⟩
        have hFT12 : FR md_mo_whatMeant__p S T12 := FR.tr hFU2 w56 rfl
        show Pl _ _ _ _ _ _ [] _ _
        have n81 := nt81
        rw [t23, (hFU2.cx 908 rfl _).1] at n81
        refine y_aload_n rfl rfl ?_
        refine y_gfr rfl rfl rfl rfl rfl (hHT12.r 904 122 973 rfl) ?_
        refine y_iload rfl rfl ?_
        refine y_aload_n rfl rfl ?_
        refine y_gfr rfl rfl rfl rfl rfl (hHT12.r 904 5 908 rfl) ?_
        refine y_iload_n rfl rfl ?_
        refine y_ialoadP (n := 5002) rfl rfl (by unfold rg; omega) (fun w57 w58 => ?_)
        have w59 : -2147483648 ≤ (Xi T12 908 ((t).toNat)) ∧ (Xi T12 908 ((t).toNat)) ≤ 2147483647 := Xi_rgI
        have e95 : (Xi T12 908 ((t).toNat)) = Xi S 908 t.toNat := (hFT12.cx 908 rfl _).1
        refine y_iconst rfl ?_
        refine y_iadd rfl ?_
        refine y_iastoreP (n := 2400) rfl rfl (by unfold rg; omega) (fun w60 w61 => ?_)
        obtain ⟨U13, eU13⟩ : ∃ T : sS, T = uI T12 973 ((q).toNat) (Int32.ofInt ((Xi T12 908 ((t).toNat)) + 1)) := ⟨_, rfl⟩
        rw [← eU13]
        have hHU13 : RI U13 := by rw [eU13]; exact RI_w hHT12
        have hFU13 : FR md_mo_whatMeant__p S U13 := by rw [eU13]; exact FR.wI hFT12 (mdf_i (r := (973, 974, 0, 100000)) (List.mem_of_getElem? (i := 3) rfl) (inR_i (by omega) (by omega) (by omega) (by omega)))
        have w62 : Xi U13 973 ((q).toNat) = ((Xi T12 908 ((t).toNat)) + 1) := by rw [eU13]; exact Xi_same (by unfold rg; omega)
        have k98 : NT3 U13 = NT3 T12 := by unfold NT3; rw [eU13]; repeat rw [Xi_ne (by omega)]
        have x98 : Xi U13 973 q.toNat = Xi S 908 t.toNat + 1 := by rw [eU13, e95, Xi_same (by unfold rg; omega)]
        refine y_aload_n rfl rfl ?_
        refine y_gfr rfl rfl rfl rfl rfl (hHU13.r 904 123 974 rfl) ?_
        refine y_iload rfl rfl ?_
        refine y_aload_n rfl rfl ?_
        refine y_gfr rfl rfl rfl rfl rfl (hHU13.r 904 6 909 rfl) ?_
        refine y_iload_n rfl rfl ?_
        refine y_ialoadP (n := 5002) rfl rfl (by unfold rg; omega) (fun w63 w64 => ?_)
        have w65 : -2147483648 ≤ (Xi U13 909 ((t).toNat)) ∧ (Xi U13 909 ((t).toNat)) ≤ 2147483647 := Xi_rgI
        have e110 : (Xi U13 909 ((t).toNat)) = Xi S 909 t.toNat := (hFU13.cx 909 rfl _).1
        refine y_iastoreP (n := 2400) rfl rfl (by unfold rg; omega) (fun w66 w67 => ?_)
        obtain ⟨U14, eU14⟩ : ∃ T : sS, T = uI U13 974 ((q).toNat) (Int32.ofInt (Xi U13 909 ((t).toNat))) := ⟨_, rfl⟩
        rw [← eU14]
        have hHU14 : RI U14 := by rw [eU14]; exact RI_w hHU13
        have hFU14 : FR md_mo_whatMeant__p S U14 := by rw [eU14]; exact FR.wI hFU13 (mdf_i (r := (974, 975, 0, 100000)) (List.mem_of_getElem? (i := 4) rfl) (inR_i (by omega) (by omega) (by omega) (by omega)))
        have w68 : Xi U14 974 ((q).toNat) = (Xi U13 909 ((t).toNat)) := by rw [eU14]; exact Xi_same (by unfold rg; omega)
        have K111 : True := trivial
        have k111 : NT3 U14 = NT3 U13 := by unfold NT3; rw [eU14]; repeat rw [Xi_ne (by omega)]
        have x111 : Xi U14 974 q.toNat = Xi S 909 t.toNat := by rw [eU14, e110, Xi_same (by have u : -2147483648 ≤ Xi S 909 t.toNat ∧ Xi S 909 t.toNat ≤ 2147483647 := Xi_rgI; unfold rg; omega)]
        have y111 : Xi U14 973 q.toNat = Xi S 908 t.toNat + 1 := by rw [eU14, Xi_ne (by omega)]; exact x98
        refine y_goto rfl rfl ?_
        refine y_return rfl rfl ?_
        exact ⟨hHU14, hFU14, rfl, (by first | (have t1 := K58; first | exact wmr_4 (g := 1) (by omega) (by omega) (k58.trans n42) x58 y58 | exact wmr_4 (g := 0) (by omega) (by omega) (k58.trans n42) x58 y58) | (have t1 := K111; first | exact wmr_5 (g := 1) (by omega) (by omega) ((k111.trans k98).trans n81) y111 x111 | exact wmr_5 (g := 0) (by omega) (by omega) ((k111.trans k98).trans n81) y111 x111) | exact wmr_6 (g := 1) (by omega) (by omega) (Or.inl ⟨⟨by omega, by omega⟩, rfl⟩) (k160.trans n149) x160 y160 | exact wmr_6 (g := 0) (by omega) (by omega) (Or.inr ⟨fun w => by have w1 := w.1; have w2 := w.2; omega, rfl⟩) (k160.trans n149) x160 y160)⟩
  · refine y_aload_n rfl rfl ?_
    refine y_iload_n rfl rfl ?_
    refine y_if_ne rfl rfl (by unfold rg; omega) (fun w69 => ?_) (fun w70 => ?_)
    · refine y_iconst rfl ?_
      refine y_iconst rfl ?_
      refine y_iload_n rfl rfl ?_
      refine y_callV rfl rfl rfl (t_mo_need__p hHU2 0 4 t ⟨by omega, by omega⟩ ⟨by omega, by omega⟩ ⟨by omega, by omega⟩ _) ?_
      rintro _ T15 ⟨hHT15, w72, rfl, nt42⟩
      have hFT15 : FR md_mo_whatMeant__p S T15 := FR.tr hFU2 w72 rfl
      show Pl _ _ _ _ _ _ [] _ _
      have n42 := nt42
      rw [t23, (hFU2.cx 908 rfl _).1] at n42
      have F42 := (by assumption : FR md_mo_need__p U2 T15)
      have y42 : Xi T15 974 q.toNat = 0 := (F42.x 974 _ rfl).trans z23
      refine y_aload_n rfl rfl ?_
      refine y_gfr rfl rfl rfl rfl rfl (hHT15.r 904 122 973 rfl) ?_
      refine y_iload rfl rfl ?_
      refine y_aload_n rfl rfl ?_
      refine y_gfr rfl rfl rfl rfl rfl (hHT15.r 904 7 910 rfl) ?_
      refine y_iload_n rfl rfl ?_
      refine y_laloadP (n := 5002) rfl rfl (by unfold rg; omega) (fun w73 w74 => ?_)
      have w75 : -9223372036854775808 ≤ (Xj T15 910 ((t).toNat)) ∧ (Xj T15 910 ((t).toNat)) < 9223372036854775808 := Xj_rg
      refine y_l2i rfl (fun c76 w76r w76 => ?_)
      unfold rg rgL at *
      have l57 : c76 = Xj S 910 t.toNat := by have b := hnum.o (by omega); have e := (hFT15.cx 910 rfl t.toNat).2; omega
      refine y_iastoreP (n := 2400) rfl rfl (by unfold rg; omega) (fun w77 w78 => ?_)
      obtain ⟨U16, eU16⟩ : ∃ T : sS, T = uI T15 973 ((q).toNat) (Int32.ofInt c76) := ⟨_, rfl⟩
      rw [← eU16]
      have hHU16 : RI U16 := by rw [eU16]; exact RI_w hHT15
      have hFU16 : FR md_mo_whatMeant__p S U16 := by rw [eU16]; exact FR.wI hFT15 (mdf_i (r := (973, 974, 0, 100000)) (List.mem_of_getElem? (i := 3) rfl) (inR_i (by omega) (by omega) (by omega) (by omega)))
      have w79 : Xi U16 973 ((q).toNat) = c76 := by rw [eU16]; exact Xi_same (by unfold rg; omega)
      have K58 : True := trivial
      have k58 : NT3 U16 = NT3 T15 := by unfold NT3; rw [eU16]; repeat rw [Xi_ne (by omega)]
      have x58 : Xi U16 973 q.toNat = Xj S 910 t.toNat := by rw [eU16, Xi_same (by unfold rg; omega)]; exact l57
      have y58 : Xi U16 974 q.toNat = 0 := by rw [eU16, Xi_ne (by omega)]; exact y42
      refine y_goto rfl rfl ?_
      refine y_return rfl rfl ?_
      exact ⟨hHU16, hFU16, rfl, (by first | (have t1 := K58; first | exact wmr_4 (g := 1) (by omega) (by omega) (k58.trans n42) x58 y58 | exact wmr_4 (g := 0) (by omega) (by omega) (k58.trans n42) x58 y58) | (have t1 := K111; first | exact wmr_5 (g := 1) (by omega) (by omega) ((k111.trans k98).trans n81) y111 x111 | exact wmr_5 (g := 0) (by omega) (by omega) ((k111.trans k98).trans n81) y111 x111) | exact wmr_6 (g := 1) (by omega) (by omega) (Or.inl ⟨⟨by omega, by omega⟩, rfl⟩) (k160.trans n149) x160 y160 | exact wmr_6 (g := 0) (by omega) (by omega) (Or.inr ⟨fun w => by have w1 := w.1; have w2 := w.2; omega, rfl⟩) (k160.trans n149) x160 y160)⟩
    · refine y_iconst rfl ?_
      refine y_goto rfl rfl ?_
      refine y_iconst rfl ?_
      refine y_iload_n rfl rfl ?_
      refine y_callV rfl rfl rfl (t_mo_need__p hHU2 1 4 t ⟨by omega, by omega⟩ ⟨by omega, by omega⟩ ⟨by omega, by omega⟩ _) ?_
      rintro _ T17 ⟨hHT17, w81, rfl, nt42⟩
      have hFT17 : FR md_mo_whatMeant__p S T17 := FR.tr hFU2 w81 rfl
      show Pl _ _ _ _ _ _ [] _ _
      have n42 := nt42
      rw [t23, (hFU2.cx 908 rfl _).1] at n42
      have F42 := (by assumption : FR md_mo_need__p U2 T17)
      have y42 : Xi T17 974 q.toNat = 0 := (F42.x 974 _ rfl).trans z23
      refine y_aload_n rfl rfl ?_
      refine y_gfr rfl rfl rfl rfl rfl (hHT17.r 904 122 973 rfl) ?_
      refine y_iload rfl rfl ?_
      refine y_aload_n rfl rfl ?_
      refine y_gfr rfl rfl rfl rfl rfl (hHT17.r 904 7 910 rfl) ?_
      refine y_iload_n rfl rfl ?_
      refine y_laloadP (n := 5002) rfl rfl (by unfold rg; omega) (fun w82 w83 => ?_)
      have w84 : -9223372036854775808 ≤ (Xj T17 910 ((t).toNat)) ∧ (Xj T17 910 ((t).toNat)) < 9223372036854775808 := Xj_rg
      refine y_l2i rfl (fun c85 w85r w85 => ?_)
      unfold rg rgL at *
      have l57 : c85 = Xj S 910 t.toNat := by have b := hnum.o (by omega); have e := (hFT17.cx 910 rfl t.toNat).2; omega
      refine y_iastoreP (n := 2400) rfl rfl (by unfold rg; omega) (fun w86 w87 => ?_)
      obtain ⟨U18, eU18⟩ : ∃ T : sS, T = uI T17 973 ((q).toNat) (Int32.ofInt c85) := ⟨_, rfl⟩
      rw [← eU18]
      have hHU18 : RI U18 := by rw [eU18]; exact RI_w hHT17
      have hFU18 : FR md_mo_whatMeant__p S U18 := by rw [eU18]; exact FR.wI hFT17 (mdf_i (r := (973, 974, 0, 100000)) (List.mem_of_getElem? (i := 3) rfl) (inR_i (by omega) (by omega) (by omega) (by omega)))
      have w88 : Xi U18 973 ((q).toNat) = c85 := by rw [eU18]; exact Xi_same (by unfold rg; omega)
      have K58 : True := trivial
      have k58 : NT3 U18 = NT3 T17 := by unfold NT3; rw [eU18]; repeat rw [Xi_ne (by omega)]
      have x58 : Xi U18 973 q.toNat = Xj S 910 t.toNat := by rw [eU18, Xi_same (by unfold rg; omega)]; exact l57
      have y58 : Xi U18 974 q.toNat = 0 := by rw [eU18, Xi_ne (by omega)]; exact y42
      refine y_goto rfl rfl ?_
      refine y_return rfl rfl ?_
      exact ⟨hHU18, hFU18, rfl, (by first | (have t1 := K58; first | exact wmr_4 (g := 1) (by omega) (by omega) (k58.trans n42) x58 y58 | exact wmr_4 (g := 0) (by omega) (by omega) (k58.trans n42) x58 y58) | (have t1 := K111; first | exact wmr_5 (g := 1) (by omega) (by omega) ((k111.trans k98).trans n81) y111 x111 | exact wmr_5 (g := 0) (by omega) (by omega) ((k111.trans k98).trans n81) y111 x111) | exact wmr_6 (g := 1) (by omega) (by omega) (Or.inl ⟨⟨by omega, by omega⟩, rfl⟩) (k160.trans n149) x160 y160 | exact wmr_6 (g := 0) (by omega) (by omega) (Or.inr ⟨fun w => by have w1 := w.1; have w2 := w.2; omega, rfl⟩) (k160.trans n149) x160 y160)⟩
def md_mo_askProperty__p : List rec := [(904, 905, 104, 105), (904, 905, 105, 106), (904, 905, 106, 107), (973, 974, 0, 100000), (974, 975, 0, 100000)]
abbrev Q_mo_askProperty__p (S : sS) : pst := fun r S1 => RI S1 ∧ FR md_mo_askProperty__p S S1 ∧ (r = none ∧ (RPY S S1))
set_option maxRecDepth 100000 in
theorem t_mo_askProperty__p {S : sS} (hH : RI S) (hLS : LSP S) (h15 : 0 ≤ Xi S 904 15) (hRB : RBD S) (hLX : LXR S) (hB : ABV S) (hko : Hid (∀ j : Nat, -1 ≤ Xi S 918 j ∧ Xi S 918 j ≤ 15)) (hz0 : Xi S 904 106 = 0) (h7 : rnR S 0 7 ≤ 11) (hk0 : rnR S 1 0 ≤ 15) (hp : pR S 0 < pR S 1) (hq : pR S 1 < Xi S 908 (Xi S 904 78).toNat) (hnum : Hid (Xi S 907 (Xi S 904 78).toNat = 4 → 0 ≤ Xj S 910 (Xi S 904 78).toNat ∧ Xj S 910 (Xi S 904 78).toNat ≤ 2147483647)) (hplc : Xi S 908 (Xi S 904 78).toNat ≤ 100000) (d : Nat) : Mp lay0 (d + 6) m_mo_askProperty [.ref 904] S (Q_mo_askProperty__p S) := by
  refine Mp_R rfl rfl (fun fu => ?_)
  have hF : FR md_mo_askProperty__p S S := FR.rf
  have w1 : -2147483648 ≤ Xi S 904 106 ∧ Xi S 904 106 ≤ 2147483647 := Xi_rgI
  have w2 : -2147483648 ≤ Xi S 904 15 ∧ Xi S 904 15 ≤ 2147483647 := Xi_rgI
  have w3 : -2147483648 ≤ Xi S 904 78 ∧ Xi S 904 78 ≤ 2147483647 := Xi_rgI
  refine y_aload_n rfl rfl ?_
  refine y_iconst rfl ?_
  refine y_iconst rfl ?_
  refine y_callV rfl rfl rfl (t_mo_meansRun__p hH 1 4 ⟨by omega, by omega⟩ ⟨by omega, by omega⟩ (by first | assumption | exact (LSP_FR hF rfl rfl (by assumption : LSP S))) (by first | assumption | omega) (by first | assumption | exact (RBD_FR hF rfl (by assumption : RBD S))) _) ?_
  rintro _ _ ⟨rfl, z4, rfl, w4, f3⟩
  show Pl _ _ _ _ _ _ [iv z4] _ _
  refine y_istore_n rfl rfl rfl ?_
  refine y_iload_n rfl rfl ?_
  refine y_iconst rfl ?_
  refine y_icmp_eq rfl rfl (by unfold rg; omega) (by unfold rg; omega) (fun w5 => ?_) (fun w6 => ?_)
  · refine y_aload_n rfl rfl ?_
    refine y_iconst rfl ?_
    refine y_iconst rfl ?_
    refine y_callV rfl rfl rfl (t_mo_meansRun__p hH 1 0 ⟨by omega, by omega⟩ ⟨by omega, by omega⟩ (by first | assumption | exact (LSP_FR hF rfl rfl (by assumption : LSP S))) (by first | assumption | omega) (by first | assumption | exact (RBD_FR hF rfl (by assumption : RBD S))) _) ?_
    rintro _ _ ⟨rfl, z7, rfl, w7, f24⟩
    show Pl _ _ _ _ _ _ [iv z7] _ _
    have b24 := rnR_ix (r := 1) (s := 0) hLX h15
    refine y_istore_n rfl rfl rfl ?_
    have k27 : z7 = kp9 S := by unfold kp9; first | (rw [if_pos (by rw [← f3]; omega), ← f3]) | (rw [if_neg (by rw [← f3]; omega)]; exact f24)
    refine y_aload_n rfl rfl ?_
    refine y_iconst rfl ?_
    refine y_bipush rfl rfl ?_
    refine y_callV rfl rfl rfl (t_mo_meansRun__p hH 0 7 ⟨by omega, by omega⟩ ⟨by omega, by omega⟩ (by first | assumption | exact (LSP_FR hF rfl rfl (by assumption : LSP S))) (by first | assumption | omega) (by first | assumption | exact (RBD_FR hF rfl (by assumption : RBD S))) _) ?_
    rintro _ _ ⟨rfl, z8, rfl, w8, f32⟩
    show Pl _ _ _ _ _ _ [iv z8] _ _
    have b32 := rnR_ix (r := 0) (s := 7) hLX h15
    refine y_istore_n rfl rfl rfl ?_
    refine y_aload_n rfl rfl ?_
    refine y_iload_n rfl rfl ?_
    refine y_iconst rfl ?_
    refine y_icmp_eq rfl rfl (by unfold rg; omega) (by unfold rg; omega) (fun w9 => ?_) (fun w10 => ?_)
    · refine y_iconst rfl ?_
      refine y_iconst rfl ?_
      refine y_aload_n rfl rfl ?_
      refine y_gfr rfl rfl rfl rfl rfl (hH.r 904 67 950 rfl) ?_
      refine y_iconst rfl ?_
      refine y_ialoadP (n := 2600) rfl rfl (by unfold rg; omega) (fun w11 w12 => ?_)
      have w13 : -2147483648 ≤ (Xi S 950 ((1 : Int).toNat)) ∧ (Xi S 950 ((1 : Int).toNat)) ≤ 2147483647 := Xi_rgI
      have w14 : (Xi S 950 ((1 : Int).toNat)) = Xi S 950 1 := rfl
      refine y_callV rfl rfl rfl (t_mo_need__p hH 0 4 (Xi S 950 ((1 : Int).toNat)) ⟨by omega, by omega⟩ ⟨by omega, by omega⟩ ⟨by omega, by omega⟩ _) ?_
      rintro _ T1 ⟨hHT1, w16, rfl, nt54⟩
      have hFT1 : FR md_mo_askProperty__p S T1 := FR.tr hF w16 rfl
      show Pl _ _ _ _ _ _ [] _ _
      have n54 := nt54
      rw [(hF.cx 908 rfl _).1, (hF.cx 950 rfl _).1] at n54
      refine y_iload_n rfl rfl ?_
      refine y_iconst rfl ?_
      refine y_icmp_eq rfl rfl (by unfold rg; omega) (by unfold rg; omega) (fun w17 => ?_) (fun w18 => ?_)
      · refine y_iconst rfl ?_
        have N80 : Hid (¬ okp9 S) := fun q => by have q1 := q.1; have q2 := q.2; first | omega | (rw [← e70] at q2; omega)
        refine y_istore rfl rfl rfl ?_
        refine y_aload_n rfl rfl ?_
        refine y_iload rfl rfl ?_
        refine y_iconst rfl ?_
        refine y_aload_n rfl rfl ?_
        refine y_gfr rfl rfl rfl rfl rfl (hHT1.r 904 67 950 rfl) ?_
        refine y_iconst rfl ?_
        refine y_ialoadP (n := 2600) rfl rfl (by unfold rg; omega) (fun w19 w20 => ?_)
        have w21 : -2147483648 ≤ (Xi T1 950 ((0 : Int).toNat)) ∧ (Xi T1 950 ((0 : Int).toNat)) ≤ 2147483647 := Xi_rgI
        have w22 : (Xi T1 950 ((0 : Int).toNat)) = Xi T1 950 0 := rfl
        refine y_callV rfl rfl rfl (t_mo_need__p hHT1 0 4 (Xi T1 950 ((0 : Int).toNat)) ⟨by omega, by omega⟩ ⟨by omega, by omega⟩ ⟨by omega, by omega⟩ _) ?_
        rintro _ T2 ⟨hHT2, w26, rfl, nt93⟩
        have hFT2 : FR md_mo_askProperty__p S T2 := FR.tr hFT1 w26 rfl
        show Pl _ _ _ _ _ _ [] _ _
        have n93 := nt93
        rw [(hFT1.cx 908 rfl _).1, (hFT1.cx 950 rfl _).1] at n93
        have A93 : Hid (RP9 S (NT3 S) (NT3 T2)) := fun x3 hx => rpy_n hz0 n54 n93 (fun q => by omega) (fun q => by omega) (fun q => by first | rfl | exact absurd q N80.o) (fun q => by first | rfl | exact absurd Y76.o q) hp hq hx
        refine y_iload_n rfl rfl ?_
        refine y_iconst rfl ?_
        refine y_icmp_eq rfl rfl (by unfold rg; omega) (by unfold rg; omega) (fun w27 => ?_) (fun w28 => ?_)
        · refine y_return rfl rfl ?_
          exact ⟨hHT2, hFT2, rfl, (by first | (have t := K117; exact R117) | exact rpy_0 A93.o N80.o)⟩
        · exfalso; omega
      · refine y_iload_n rfl rfl ?_
        refine y_iconst rfl ?_
        refine y_icmp_eq rfl rfl (by unfold rg; omega) (by unfold rg; omega) (fun w31 => ?_) (fun w32 => ?_)
        · refine y_iconst rfl ?_
          have Y76 : Hid (okp9 S) := ⟨by rw [← f32]; omega, by first | exact Or.inl (by omega) | exact Or.inr (by rw [← e70]; omega)⟩
          refine y_goto rfl rfl ?_
          refine y_istore rfl rfl rfl ?_
          refine y_aload_n rfl rfl ?_
          refine y_iload rfl rfl ?_
          refine y_iconst rfl ?_
          refine y_aload_n rfl rfl ?_
          refine y_gfr rfl rfl rfl rfl rfl (hHT1.r 904 67 950 rfl) ?_
          refine y_iconst rfl ?_
          refine y_ialoadP (n := 2600) rfl rfl (by unfold rg; omega) (fun w33 w34 => ?_)
          have w35 : -2147483648 ≤ (Xi T1 950 ((0 : Int).toNat)) ∧ (Xi T1 950 ((0 : Int).toNat)) ≤ 2147483647 := Xi_rgI
          have w36 : (Xi T1 950 ((0 : Int).toNat)) = Xi T1 950 0 := rfl
          refine y_callV rfl rfl rfl (t_mo_need__p hHT1 1 4 (Xi T1 950 ((0 : Int).toNat)) ⟨by omega, by omega⟩ ⟨by omega, by omega⟩ ⟨by omega, by omega⟩ _) ?_
          rintro _ T3 ⟨hHT3, w40, rfl, nt93⟩
          have hFT3 : FR md_mo_askProperty__p S T3 := FR.tr hFT1 w40 rfl
          show Pl _ _ _ _ _ _ [] _ _
          have n93 := nt93
          rw [(hFT1.cx 908 rfl _).1, (hFT1.cx 950 rfl _).1] at n93
          have A93 : Hid (RP9 S (NT3 S) (NT3 T3)) := fun x3 hx => rpy_n hz0 n54 n93 (fun q => by omega) (fun q => by omega) (fun q => by first | rfl | exact absurd q N80.o) (fun q => by first | rfl | exact absurd Y76.o q) hp hq hx
          refine y_iload_n rfl rfl ?_
          refine y_iconst rfl ?_
          refine y_icmp_eq rfl rfl (by unfold rg; omega) (by unfold rg; omega) (fun w41 => ?_) (fun w42 => ?_)
          · exfalso; omega
          · refine y_aload_n rfl rfl ?_
            refine y_aload_n rfl rfl ?_
            refine y_gfi rfl rfl rfl rfl rfl ?_
            have w43 : (Xi T3 904 78) = (Xi S 904 78) := (show Xi T3 904 78 = Xi T1 904 78 from w40.x _ _ rfl).trans ((show Xi T1 904 78 = Xi S 904 78 from w16.x _ _ rfl))
            rw [w43]
            refine y_iconst rfl ?_
            refine y_aload_n rfl rfl ?_
            refine y_gfr rfl rfl rfl rfl rfl (hHT3.r 904 33 928 rfl) ?_
            refine y_iload_n rfl rfl ?_
            refine y_ialoadP (n := 12) rfl rfl (by unfold rg; omega) (fun w44 w45 => ?_)
            have w46 : -2147483648 ≤ (Xi T3 928 ((z8).toNat)) ∧ (Xi T3 928 ((z8).toNat)) ≤ 2147483647 := Xi_rgI
            have e112 : (Xi T3 928 ((z8).toNat)) = Xi S 928 (rnR S 0 7).toNat := by rw [(hFT3.cx 928 rfl _).1, f32]
            refine y_aload_n rfl rfl ?_
            refine y_gfi rfl rfl rfl rfl rfl ?_
            have w47 : -2147483648 ≤ (Xi T3 904 117) ∧ (Xi T3 904 117) ≤ 2147483647 := Xi_rgI
            have w48 : Xi T3 904 15 = Xi S 904 15 := (show Xi T3 904 15 = Xi T1 904 15 from w40.x _ _ rfl).trans ((show Xi T1 904 15 = Xi S 904 15 from w16.x _ _ rfl))
            have w49 : Xi T3 904 78 = Xi S 904 78 := (show Xi T3 904 78 = Xi T1 904 78 from w40.x _ _ rfl).trans ((show Xi T1 904 78 = Xi S 904 78 from w16.x _ _ rfl))
            refine y_callV rfl rfl rfl (t_mo_whatMeant__p hHT3 (Xi S 904 78) 2 (Xi T3 928 ((z8).toNat)) (Xi T3 904 117) ⟨by omega, by omega⟩ ⟨by omega, by omega⟩ ⟨by omega, by omega⟩ ⟨by omega, by omega⟩ (by first | assumption | exact (LSP_FR hFT3 rfl rfl (by assumption : LSP S))) (by first | assumption | omega) (by first | assumption | exact (RBD_FR hFT3 rfl (by assumption : RBD S))) (by have t := hnum.o; intro w; rw [(hFT3.cx 907 rfl _).1] at w; rw [(hFT3.cx 910 rfl _).2]; exact t w) (by rw [(hFT3.cx 908 rfl _).1]; exact hplc) _) ?_
            rintro _ T4 ⟨hHT4, w51, rfl, o117⟩
            have hFT4 : FR md_mo_askProperty__p S T4 := FR.tr hFT3 w51 rfl
            show Pl _ _ _ _ _ _ [] _ _
            have K117 : True := trivial
            have R117 : RPY S T4 := rpy_e hz0 A93.o hFT3 rfl rfl (SMR_FR hFT3 rfl rfl) o117 e112 (hFT3.x 904 117 rfl)
            refine y_return rfl rfl ?_
            exact ⟨hHT4, hFT4, rfl, (by first | (have t := K117; exact R117) | exact rpy_0 A93.o N80.o)⟩
        · exfalso; omega
    · refine y_iconst rfl ?_
      refine y_goto rfl rfl ?_
      refine y_iconst rfl ?_
      refine y_aload_n rfl rfl ?_
      refine y_gfr rfl rfl rfl rfl rfl (hH.r 904 67 950 rfl) ?_
      refine y_iconst rfl ?_
      refine y_ialoadP (n := 2600) rfl rfl (by unfold rg; omega) (fun w54 w55 => ?_)
      have w56 : -2147483648 ≤ (Xi S 950 ((1 : Int).toNat)) ∧ (Xi S 950 ((1 : Int).toNat)) ≤ 2147483647 := Xi_rgI
      have w57 : (Xi S 950 ((1 : Int).toNat)) = Xi S 950 1 := rfl
      refine y_callV rfl rfl rfl (t_mo_need__p hH 1 4 (Xi S 950 ((1 : Int).toNat)) ⟨by omega, by omega⟩ ⟨by omega, by omega⟩ ⟨by omega, by omega⟩ _) ?_
      rintro _ T5 ⟨hHT5, w59, rfl, nt54⟩
      have hFT5 : FR md_mo_askProperty__p S T5 := FR.tr hF w59 rfl
      show Pl _ _ _ _ _ _ [] _ _
      have n54 := nt54
      rw [(hF.cx 908 rfl _).1, (hF.cx 950 rfl _).1] at n54
      refine y_iload_n rfl rfl ?_
      refine y_iconst rfl ?_
      refine y_icmp_eq rfl rfl (by unfold rg; omega) (by unfold rg; omega) (fun w60 => ?_) (fun w61 => ?_)
      · refine y_iconst rfl ?_
        have N80 : Hid (¬ okp9 S) := fun q => by have q1 := q.1; have q2 := q.2; first | omega | (rw [← e70] at q2; omega)
        refine y_istore rfl rfl rfl ?_
        refine y_aload_n rfl rfl ?_
        refine y_iload rfl rfl ?_
        refine y_iconst rfl ?_
        refine y_aload_n rfl rfl ?_
        refine y_gfr rfl rfl rfl rfl rfl (hHT5.r 904 67 950 rfl) ?_
        refine y_iconst rfl ?_
        refine y_ialoadP (n := 2600) rfl rfl (by unfold rg; omega) (fun w62 w63 => ?_)
        have w64 : -2147483648 ≤ (Xi T5 950 ((0 : Int).toNat)) ∧ (Xi T5 950 ((0 : Int).toNat)) ≤ 2147483647 := Xi_rgI
        have w65 : (Xi T5 950 ((0 : Int).toNat)) = Xi T5 950 0 := rfl
        refine y_callV rfl rfl rfl (t_mo_need__p hHT5 0 4 (Xi T5 950 ((0 : Int).toNat)) ⟨by omega, by omega⟩ ⟨by omega, by omega⟩ ⟨by omega, by omega⟩ _) ?_
        rintro _ T6 ⟨hHT6, w69, rfl, nt93⟩
        have hFT6 : FR md_mo_askProperty__p S T6 := FR.tr hFT5 w69 rfl
        show Pl _ _ _ _ _ _ [] _ _
        have n93 := nt93
        rw [(hFT5.cx 908 rfl _).1, (hFT5.cx 950 rfl _).1] at n93
        have A93 : Hid (RP9 S (NT3 S) (NT3 T6)) := fun x3 hx => rpy_n hz0 n54 n93 (fun q => by omega) (fun q => by omega) (fun q => by first | rfl | exact absurd q N80.o) (fun q => by first | rfl | exact absurd Y76.o q) hp hq hx
        refine y_iload_n rfl rfl ?_
        refine y_iconst rfl ?_
        refine y_icmp_eq rfl rfl (by unfold rg; omega) (by unfold rg; omega) (fun w70 => ?_) (fun w71 => ?_)
        · refine y_return rfl rfl ?_
          exact ⟨hHT6, hFT6, rfl, (by first | (have t := K117; exact R117) | exact rpy_0 A93.o N80.o)⟩
        · exfalso; omega
      · refine y_iload_n rfl rfl ?_
        refine y_iconst rfl ?_
        refine y_icmp_eq rfl rfl (by unfold rg; omega) (by unfold rg; omega) (fun w74 => ?_) (fun w75 => ?_)
        · exfalso; omega
        · refine y_aload_n rfl rfl ?_
          refine y_iload_n rfl rfl ?_
          refine y_iload_n rfl rfl ?_
          refine y_callV rfl rfl rfl (t_mo_has__p hHT5 z7 z8 ⟨by omega, by omega⟩ ⟨by omega, by omega⟩ (by first | assumption | exact (ABV_FR hFT5 rfl (by assumption : ABV S))) _) ?_
          rintro _ _ ⟨rfl, z78, rfl, w78, f70⟩
          show Pl _ _ _ _ _ _ [iv z78] _ _
          have e70 : z78 = hsR S (kp9 S) (rnR S 0 7) := by have t := f70; rw [k27, f32] at t; exact t.trans (hsN_k (fun j => (hFT5.cx 917 rfl j).1) (fun j => (hFT5.cx 929 rfl j).1) 17 _)
          refine y_if_eq rfl rfl (by unfold rg; omega) (fun w79 => ?_) (fun w80 => ?_)
          · refine y_iconst rfl ?_
            have N80 : Hid (¬ okp9 S) := fun q => by have q1 := q.1; have q2 := q.2; first | omega | (rw [← e70] at q2; omega)
            refine y_istore rfl rfl rfl ?_
            refine y_aload_n rfl rfl ?_
            refine y_iload rfl rfl ?_
            refine y_iconst rfl ?_
            refine y_aload_n rfl rfl ?_
            refine y_gfr rfl rfl rfl rfl rfl (hHT5.r 904 67 950 rfl) ?_
            refine y_iconst rfl ?_
            refine y_ialoadP (n := 2600) rfl rfl (by unfold rg; omega) (fun w81 w82 => ?_)
            have w83 : -2147483648 ≤ (Xi T5 950 ((0 : Int).toNat)) ∧ (Xi T5 950 ((0 : Int).toNat)) ≤ 2147483647 := Xi_rgI
            have w84 : (Xi T5 950 ((0 : Int).toNat)) = Xi T5 950 0 := rfl
            refine y_callV rfl rfl rfl (t_mo_need__p hHT5 0 4 (Xi T5 950 ((0 : Int).toNat)) ⟨by omega, by omega⟩ ⟨by omega, by omega⟩ ⟨by omega, by omega⟩ _) ?_
            rintro _ T7 ⟨hHT7, w88, rfl, nt93⟩
            have hFT7 : FR md_mo_askProperty__p S T7 := FR.tr hFT5 w88 rfl
            show Pl _ _ _ _ _ _ [] _ _
            have n93 := nt93
            rw [(hFT5.cx 908 rfl _).1, (hFT5.cx 950 rfl _).1] at n93
            have A93 : Hid (RP9 S (NT3 S) (NT3 T7)) := fun x3 hx => rpy_n hz0 n54 n93 (fun q => by omega) (fun q => by omega) (fun q => by first | rfl | exact absurd q N80.o) (fun q => by first | rfl | exact absurd Y76.o q) hp hq hx
            refine y_iload_n rfl rfl ?_
            refine y_iconst rfl ?_
            refine y_icmp_eq rfl rfl (by unfold rg; omega) (by unfold rg; omega) (fun w89 => ?_) (fun w90 => ?_)
            · exfalso; omega
            · refine y_aload_n rfl rfl ?_
              refine y_aload_n rfl rfl ?_
              refine y_gfi rfl rfl rfl rfl rfl ?_
              have w91 : (Xi T7 904 78) = (Xi S 904 78) := (show Xi T7 904 78 = Xi T5 904 78 from w88.x _ _ rfl).trans ((show Xi T5 904 78 = Xi S 904 78 from w59.x _ _ rfl))
              rw [w91]
              refine y_iconst rfl ?_
              refine y_aload_n rfl rfl ?_
              refine y_gfr rfl rfl rfl rfl rfl (hHT7.r 904 33 928 rfl) ?_
              refine y_iload_n rfl rfl ?_
              refine y_ialoadP (n := 12) rfl rfl (by unfold rg; omega) (fun w92 w93 => ?_)
              have w94 : -2147483648 ≤ (Xi T7 928 ((z8).toNat)) ∧ (Xi T7 928 ((z8).toNat)) ≤ 2147483647 := Xi_rgI
              have e112 : (Xi T7 928 ((z8).toNat)) = Xi S 928 (rnR S 0 7).toNat := by rw [(hFT7.cx 928 rfl _).1, f32]
              refine y_aload_n rfl rfl ?_
              refine y_gfi rfl rfl rfl rfl rfl ?_
              have w95 : -2147483648 ≤ (Xi T7 904 117) ∧ (Xi T7 904 117) ≤ 2147483647 := Xi_rgI
              have w96 : Xi T7 904 15 = Xi S 904 15 := (show Xi T7 904 15 = Xi T5 904 15 from w88.x _ _ rfl).trans ((show Xi T5 904 15 = Xi S 904 15 from w59.x _ _ rfl))
              have w97 : Xi T7 904 78 = Xi S 904 78 := (show Xi T7 904 78 = Xi T5 904 78 from w88.x _ _ rfl).trans ((show Xi T5 904 78 = Xi S 904 78 from w59.x _ _ rfl))
              refine y_callV rfl rfl rfl (t_mo_whatMeant__p hHT7 (Xi S 904 78) 2 (Xi T7 928 ((z8).toNat)) (Xi T7 904 117) ⟨by omega, by omega⟩ ⟨by omega, by omega⟩ ⟨by omega, by omega⟩ ⟨by omega, by omega⟩ (by first | assumption | exact (LSP_FR hFT7 rfl rfl (by assumption : LSP S))) (by first | assumption | omega) (by first | assumption | exact (RBD_FR hFT7 rfl (by assumption : RBD S))) (by have t := hnum.o; intro w; rw [(hFT7.cx 907 rfl _).1] at w; rw [(hFT7.cx 910 rfl _).2]; exact t w) (by rw [(hFT7.cx 908 rfl _).1]; exact hplc) _) ?_
              rintro _ T8 ⟨hHT8, w99, rfl, o117⟩
              have hFT8 : FR md_mo_askProperty__p S T8 := FR.tr hFT7 w99 rfl
              show Pl _ _ _ _ _ _ [] _ _
              have K117 : True := trivial
              have R117 : RPY S T8 := rpy_e hz0 A93.o hFT7 rfl rfl (SMR_FR hFT7 rfl rfl) o117 e112 (hFT7.x 904 117 rfl)
              refine y_return rfl rfl ?_
              exact ⟨hHT8, hFT8, rfl, (by first | (have t := K117; exact R117) | exact rpy_0 A93.o N80.o)⟩
          · refine y_iconst rfl ?_
            have Y76 : Hid (okp9 S) := ⟨by rw [← f32]; omega, by first | exact Or.inl (by omega) | exact Or.inr (by rw [← e70]; omega)⟩
            refine y_goto rfl rfl ?_
            refine y_istore rfl rfl rfl ?_
            refine y_aload_n rfl rfl ?_
            refine y_iload rfl rfl ?_
            refine y_iconst rfl ?_
            refine y_aload_n rfl rfl ?_
            refine y_gfr rfl rfl rfl rfl rfl (hHT5.r 904 67 950 rfl) ?_
            refine y_iconst rfl ?_
            refine y_ialoadP (n := 2600) rfl rfl (by unfold rg; omega) (fun w102 w103 => ?_)
            have w104 : -2147483648 ≤ (Xi T5 950 ((0 : Int).toNat)) ∧ (Xi T5 950 ((0 : Int).toNat)) ≤ 2147483647 := Xi_rgI
            have w105 : (Xi T5 950 ((0 : Int).toNat)) = Xi T5 950 0 := rfl
            refine y_callV rfl rfl rfl (t_mo_need__p hHT5 1 4 (Xi T5 950 ((0 : Int).toNat)) ⟨by omega, by omega⟩ ⟨by omega, by omega⟩ ⟨by omega, by omega⟩ _) ?_
            rintro _ T9 ⟨hHT9, w109, rfl, nt93⟩
            have hFT9 : FR md_mo_askProperty__p S T9 := FR.tr hFT5 w109 rfl
            show Pl _ _ _ _ _ _ [] _ _
            have n93 := nt93
            rw [(hFT5.cx 908 rfl _).1, (hFT5.cx 950 rfl _).1] at n93
            have A93 : Hid (RP9 S (NT3 S) (NT3 T9)) := fun x3 hx => rpy_n hz0 n54 n93 (fun q => by omega) (fun q => by omega) (fun q => by first | rfl | exact absurd q N80.o) (fun q => by first | rfl | exact absurd Y76.o q) hp hq hx
            refine y_iload_n rfl rfl ?_
            refine y_iconst rfl ?_
            refine y_icmp_eq rfl rfl (by unfold rg; omega) (by unfold rg; omega) (fun w110 => ?_) (fun w111 => ?_)
            · exfalso; omega
            · refine y_aload_n rfl rfl ?_
              refine y_aload_n rfl rfl ?_
              refine y_gfi rfl rfl rfl rfl rfl ?_
              have w112 : (Xi T9 904 78) = (Xi S 904 78) := (show Xi T9 904 78 = Xi T5 904 78 from w109.x _ _ rfl).trans ((show Xi T5 904 78 = Xi S 904 78 from w59.x _ _ rfl))
              rw [w112]
              refine y_iconst rfl ?_
              refine y_aload_n rfl rfl ?_
              refine y_gfr rfl rfl rfl rfl rfl (hHT9.r 904 33 928 rfl) ?_
              refine y_iload_n rfl rfl ?_
              refine y_ialoadP (n := 12) rfl rfl (by unfold rg; omega) (fun w113 w114 => ?_)
              have w115 : -2147483648 ≤ (Xi T9 928 ((z8).toNat)) ∧ (Xi T9 928 ((z8).toNat)) ≤ 2147483647 := Xi_rgI
              have e112 : (Xi T9 928 ((z8).toNat)) = Xi S 928 (rnR S 0 7).toNat := by rw [(hFT9.cx 928 rfl _).1, f32]
              refine y_aload_n rfl rfl ?_
              refine y_gfi rfl rfl rfl rfl rfl ?_
              have w116 : -2147483648 ≤ (Xi T9 904 117) ∧ (Xi T9 904 117) ≤ 2147483647 := Xi_rgI
              have w117 : Xi T9 904 15 = Xi S 904 15 := (show Xi T9 904 15 = Xi T5 904 15 from w109.x _ _ rfl).trans ((show Xi T5 904 15 = Xi S 904 15 from w59.x _ _ rfl))
              have w118 : Xi T9 904 78 = Xi S 904 78 := (show Xi T9 904 78 = Xi T5 904 78 from w109.x _ _ rfl).trans ((show Xi T5 904 78 = Xi S 904 78 from w59.x _ _ rfl))
              refine y_callV rfl rfl rfl (t_mo_whatMeant__p hHT9 (Xi S 904 78) 2 (Xi T9 928 ((z8).toNat)) (Xi T9 904 117) ⟨by omega, by omega⟩ ⟨by omega, by omega⟩ ⟨by omega, by omega⟩ ⟨by omega, by omega⟩ (by first | assumption | exact (LSP_FR hFT9 rfl rfl (by assumption : LSP S))) (by first | assumption | omega) (by first | assumption | exact (RBD_FR hFT9 rfl (by assumption : RBD S))) (by have t := hnum.o; intro w; rw [(hFT9.cx 907 rfl _).1] at w; rw [(hFT9.cx 910 rfl _).2]; exact t w) (by rw [(hFT9.cx 908 rfl _).1]; exact hplc) _) ?_
              rintro _ T10 ⟨hHT10, w120, rfl, o117⟩
              have hFT10 : FR md_mo_askProperty__p S T10 := FR.tr hFT9 w120 rfl
              show Pl _ _ _ _ _ _ [] _ _
              have K117 : True := trivial
              have R117 : RPY S T10 := rpy_e hz0 A93.o hFT9 rfl rfl (SMR_FR hFT9 rfl rfl) o117 e112 (hFT9.x 904 117 rfl)
              refine y_return rfl rfl ?_
              exact ⟨hHT10, hFT10, rfl, (by first | (have t := K117; exact R117) | exact rpy_0 A93.o N80.o)⟩
  · refine y_aload_n rfl rfl ?_
    refine y_gfr rfl rfl rfl rfl rfl (hH.r 904 20 918 rfl) ?_
    refine y_iload_n rfl rfl ?_
    refine y_ialoadP (n := 24) rfl rfl (by unfold rg; omega) (fun w123 w124 => ?_)
    have w125 : -2147483648 ≤ (Xi S 918 ((z4).toNat)) ∧ (Xi S 918 ((z4).toNat)) ≤ 2147483647 := Xi_rgI
    have k17 := hko.o (z4).toNat
    refine y_goto rfl rfl ?_
    refine y_istore_n rfl rfl rfl ?_
    have k27 : (Xi S 918 ((z4).toNat)) = kp9 S := by unfold kp9; first | (rw [if_pos (by rw [← f3]; omega), ← f3]) | (rw [if_neg (by rw [← f3]; omega)]; exact f24)
    refine y_aload_n rfl rfl ?_
    refine y_iconst rfl ?_
    refine y_bipush rfl rfl ?_
    refine y_callV rfl rfl rfl (t_mo_meansRun__p hH 0 7 ⟨by omega, by omega⟩ ⟨by omega, by omega⟩ (by first | assumption | exact (LSP_FR hF rfl rfl (by assumption : LSP S))) (by first | assumption | omega) (by first | assumption | exact (RBD_FR hF rfl (by assumption : RBD S))) _) ?_
    rintro _ _ ⟨rfl, z126, rfl, w126, f32⟩
    show Pl _ _ _ _ _ _ [iv z126] _ _
    have b32 := rnR_ix (r := 0) (s := 7) hLX h15
    refine y_istore_n rfl rfl rfl ?_
    refine y_aload_n rfl rfl ?_
    refine y_iload_n rfl rfl ?_
    refine y_iconst rfl ?_
    refine y_icmp_eq rfl rfl (by unfold rg; omega) (by unfold rg; omega) (fun w127 => ?_) (fun w128 => ?_)
    · refine y_iconst rfl ?_
      refine y_iconst rfl ?_
      refine y_aload_n rfl rfl ?_
      refine y_gfr rfl rfl rfl rfl rfl (hH.r 904 67 950 rfl) ?_
      refine y_iconst rfl ?_
      refine y_ialoadP (n := 2600) rfl rfl (by unfold rg; omega) (fun w129 w130 => ?_)
      have w131 : -2147483648 ≤ (Xi S 950 ((1 : Int).toNat)) ∧ (Xi S 950 ((1 : Int).toNat)) ≤ 2147483647 := Xi_rgI
      have w132 : (Xi S 950 ((1 : Int).toNat)) = Xi S 950 1 := rfl
      refine y_callV rfl rfl rfl (t_mo_need__p hH 0 4 (Xi S 950 ((1 : Int).toNat)) ⟨by omega, by omega⟩ ⟨by omega, by omega⟩ ⟨by omega, by omega⟩ _) ?_
      rintro _ T11 ⟨hHT11, w134, rfl, nt54⟩
      have hFT11 : FR md_mo_askProperty__p S T11 := FR.tr hF w134 rfl
      show Pl _ _ _ _ _ _ [] _ _
      have n54 := nt54
      rw [(hF.cx 908 rfl _).1, (hF.cx 950 rfl _).1] at n54
      refine y_iload_n rfl rfl ?_
      refine y_iconst rfl ?_
      refine y_icmp_eq rfl rfl (by unfold rg; omega) (by unfold rg; omega) (fun w135 => ?_) (fun w136 => ?_)
      · refine y_iconst rfl ?_
        have N80 : Hid (¬ okp9 S) := fun q => by have q1 := q.1; have q2 := q.2; first | omega | (rw [← e70] at q2; omega)
        refine y_istore rfl rfl rfl ?_
        refine y_aload_n rfl rfl ?_
        refine y_iload rfl rfl ?_
        refine y_iconst rfl ?_
        refine y_aload_n rfl rfl ?_
        refine y_gfr rfl rfl rfl rfl rfl (hHT11.r 904 67 950 rfl) ?_
        refine y_iconst rfl ?_
        refine y_ialoadP (n := 2600) rfl rfl (by unfold rg; omega) (fun w137 w138 => ?_)
        have w139 : -2147483648 ≤ (Xi T11 950 ((0 : Int).toNat)) ∧ (Xi T11 950 ((0 : Int).toNat)) ≤ 2147483647 := Xi_rgI
        have w140 : (Xi T11 950 ((0 : Int).toNat)) = Xi T11 950 0 := rfl
        refine y_callV rfl rfl rfl (t_mo_need__p hHT11 0 4 (Xi T11 950 ((0 : Int).toNat)) ⟨by omega, by omega⟩ ⟨by omega, by omega⟩ ⟨by omega, by omega⟩ _) ?_
        rintro _ T12 ⟨hHT12, w144, rfl, nt93⟩
        have hFT12 : FR md_mo_askProperty__p S T12 := FR.tr hFT11 w144 rfl
        show Pl _ _ _ _ _ _ [] _ _
        have n93 := nt93
        rw [(hFT11.cx 908 rfl _).1, (hFT11.cx 950 rfl _).1] at n93
        have A93 : Hid (RP9 S (NT3 S) (NT3 T12)) := fun x3 hx => rpy_n hz0 n54 n93 (fun q => by omega) (fun q => by omega) (fun q => by first | rfl | exact absurd q N80.o) (fun q => by first | rfl | exact absurd Y76.o q) hp hq hx
        refine y_iload_n rfl rfl ?_
        refine y_iconst rfl ?_
        refine y_icmp_eq rfl rfl (by unfold rg; omega) (by unfold rg; omega) (fun w145 => ?_) (fun w146 => ?_)
        · refine y_return rfl rfl ?_
          exact ⟨hHT12, hFT12, rfl, (by first | (have t := K117; exact R117) | exact rpy_0 A93.o N80.o)⟩
        · exfalso; omega
      · refine y_iload_n rfl rfl ?_
        refine y_iconst rfl ?_
        refine y_icmp_eq rfl rfl (by unfold rg; omega) (by unfold rg; omega) (fun w149 => ?_) (fun w150 => ?_)
        · refine y_iconst rfl ?_
          have Y76 : Hid (okp9 S) := ⟨by rw [← f32]; omega, by first | exact Or.inl (by omega) | exact Or.inr (by rw [← e70]; omega)⟩
          refine y_goto rfl rfl ?_
          refine y_istore rfl rfl rfl ?_
          refine y_aload_n rfl rfl ?_
          refine y_iload rfl rfl ?_
          refine y_iconst rfl ?_
          refine y_aload_n rfl rfl ?_
          refine y_gfr rfl rfl rfl rfl rfl (hHT11.r 904 67 950 rfl) ?_
          refine y_iconst rfl ?_
          refine y_ialoadP (n := 2600) rfl rfl (by unfold rg; omega) (fun w151 w152 => ?_)
          have w153 : -2147483648 ≤ (Xi T11 950 ((0 : Int).toNat)) ∧ (Xi T11 950 ((0 : Int).toNat)) ≤ 2147483647 := Xi_rgI
          have w154 : (Xi T11 950 ((0 : Int).toNat)) = Xi T11 950 0 := rfl
          refine y_callV rfl rfl rfl (t_mo_need__p hHT11 1 4 (Xi T11 950 ((0 : Int).toNat)) ⟨by omega, by omega⟩ ⟨by omega, by omega⟩ ⟨by omega, by omega⟩ _) ?_
          rintro _ T13 ⟨hHT13, w158, rfl, nt93⟩
          have hFT13 : FR md_mo_askProperty__p S T13 := FR.tr hFT11 w158 rfl
          show Pl _ _ _ _ _ _ [] _ _
          have n93 := nt93
          rw [(hFT11.cx 908 rfl _).1, (hFT11.cx 950 rfl _).1] at n93
          have A93 : Hid (RP9 S (NT3 S) (NT3 T13)) := fun x3 hx => rpy_n hz0 n54 n93 (fun q => by omega) (fun q => by omega) (fun q => by first | rfl | exact absurd q N80.o) (fun q => by first | rfl | exact absurd Y76.o q) hp hq hx
          refine y_iload_n rfl rfl ?_
          refine y_iconst rfl ?_
          refine y_icmp_eq rfl rfl (by unfold rg; omega) (by unfold rg; omega) (fun w159 => ?_) (fun w160 => ?_)
          · exfalso; omega
          · refine y_aload_n rfl rfl ?_
            refine y_aload_n rfl rfl ?_
            refine y_gfi rfl rfl rfl rfl rfl ?_
            have w161 : (Xi T13 904 78) = (Xi S 904 78) := (show Xi T13 904 78 = Xi T11 904 78 from w158.x _ _ rfl).trans ((show Xi T11 904 78 = Xi S 904 78 from w134.x _ _ rfl))
            rw [w161]
            refine y_iconst rfl ?_
            refine y_aload_n rfl rfl ?_
            refine y_gfr rfl rfl rfl rfl rfl (hHT13.r 904 33 928 rfl) ?_
            refine y_iload_n rfl rfl ?_
            refine y_ialoadP (n := 12) rfl rfl (by unfold rg; omega) (fun w162 w163 => ?_)
            have w164 : -2147483648 ≤ (Xi T13 928 ((z126).toNat)) ∧ (Xi T13 928 ((z126).toNat)) ≤ 2147483647 := Xi_rgI
            have e112 : (Xi T13 928 ((z126).toNat)) = Xi S 928 (rnR S 0 7).toNat := by rw [(hFT13.cx 928 rfl _).1, f32]
            refine y_aload_n rfl rfl ?_
            refine y_gfi rfl rfl rfl rfl rfl ?_
            have w165 : -2147483648 ≤ (Xi T13 904 117) ∧ (Xi T13 904 117) ≤ 2147483647 := Xi_rgI
            have w166 : Xi T13 904 15 = Xi S 904 15 := (show Xi T13 904 15 = Xi T11 904 15 from w158.x _ _ rfl).trans ((show Xi T11 904 15 = Xi S 904 15 from w134.x _ _ rfl))
            have w167 : Xi T13 904 78 = Xi S 904 78 := (show Xi T13 904 78 = Xi T11 904 78 from w158.x _ _ rfl).trans ((show Xi T11 904 78 = Xi S 904 78 from w134.x _ _ rfl))
            refine y_callV rfl rfl rfl (t_mo_whatMeant__p hHT13 (Xi S 904 78) 2 (Xi T13 928 ((z126).toNat)) (Xi T13 904 117) ⟨by omega, by omega⟩ ⟨by omega, by omega⟩ ⟨by omega, by omega⟩ ⟨by omega, by omega⟩ (by first | assumption | exact (LSP_FR hFT13 rfl rfl (by assumption : LSP S))) (by first | assumption | omega) (by first | assumption | exact (RBD_FR hFT13 rfl (by assumption : RBD S))) (by have t := hnum.o; intro w; rw [(hFT13.cx 907 rfl _).1] at w; rw [(hFT13.cx 910 rfl _).2]; exact t w) (by rw [(hFT13.cx 908 rfl _).1]; exact hplc) _) ?_
            rintro _ T14 ⟨hHT14, w169, rfl, o117⟩
            have hFT14 : FR md_mo_askProperty__p S T14 := FR.tr hFT13 w169 rfl
            show Pl _ _ _ _ _ _ [] _ _
            have K117 : True := trivial
            have R117 : RPY S T14 := rpy_e hz0 A93.o hFT13 rfl rfl (SMR_FR hFT13 rfl rfl) o117 e112 (hFT13.x 904 117 rfl)
            refine y_return rfl rfl ?_
            exact ⟨hHT14, hFT14, rfl, (by first | (have t := K117; exact R117) | exact rpy_0 A93.o N80.o)⟩
        · exfalso; omega
    · refine y_iconst rfl ?_
      refine y_goto rfl rfl ?_
      refine y_iconst rfl ?_
      refine y_aload_n rfl rfl ?_
      refine y_gfr rfl rfl rfl rfl rfl (hH.r 904 67 950 rfl) ?_
      refine y_iconst rfl ?_
      refine y_ialoadP (n := 2600) rfl rfl (by unfold rg; omega) (fun w172 w173 => ?_)
      have w174 : -2147483648 ≤ (Xi S 950 ((1 : Int).toNat)) ∧ (Xi S 950 ((1 : Int).toNat)) ≤ 2147483647 := Xi_rgI
      have w175 : (Xi S 950 ((1 : Int).toNat)) = Xi S 950 1 := rfl
      refine y_callV rfl rfl rfl (t_mo_need__p hH 1 4 (Xi S 950 ((1 : Int).toNat)) ⟨by omega, by omega⟩ ⟨by omega, by omega⟩ ⟨by omega, by omega⟩ _) ?_
      rintro _ T15 ⟨hHT15, w177, rfl, nt54⟩
      have hFT15 : FR md_mo_askProperty__p S T15 := FR.tr hF w177 rfl
      show Pl _ _ _ _ _ _ [] _ _
      have n54 := nt54
      rw [(hF.cx 908 rfl _).1, (hF.cx 950 rfl _).1] at n54
      refine y_iload_n rfl rfl ?_
      refine y_iconst rfl ?_
      refine y_icmp_eq rfl rfl (by unfold rg; omega) (by unfold rg; omega) (fun w178 => ?_) (fun w179 => ?_)
      · refine y_iconst rfl ?_
        have N80 : Hid (¬ okp9 S) := fun q => by have q1 := q.1; have q2 := q.2; first | omega | (rw [← e70] at q2; omega)
        refine y_istore rfl rfl rfl ?_
        refine y_aload_n rfl rfl ?_
        refine y_iload rfl rfl ?_
        refine y_iconst rfl ?_
        refine y_aload_n rfl rfl ?_
        refine y_gfr rfl rfl rfl rfl rfl (hHT15.r 904 67 950 rfl) ?_
        refine y_iconst rfl ?_
        refine y_ialoadP (n := 2600) rfl rfl (by unfold rg; omega) (fun w180 w181 => ?_)
        have w182 : -2147483648 ≤ (Xi T15 950 ((0 : Int).toNat)) ∧ (Xi T15 950 ((0 : Int).toNat)) ≤ 2147483647 := Xi_rgI
        have w183 : (Xi T15 950 ((0 : Int).toNat)) = Xi T15 950 0 := rfl
        refine y_callV rfl rfl rfl (t_mo_need__p hHT15 0 4 (Xi T15 950 ((0 : Int).toNat)) ⟨by omega, by omega⟩ ⟨by omega, by omega⟩ ⟨by omega, by omega⟩ _) ?_
        rintro _ T16 ⟨hHT16, w187, rfl, nt93⟩
        have hFT16 : FR md_mo_askProperty__p S T16 := FR.tr hFT15 w187 rfl
        show Pl _ _ _ _ _ _ [] _ _
        have n93 := nt93
        rw [(hFT15.cx 908 rfl _).1, (hFT15.cx 950 rfl _).1] at n93
        have A93 : Hid (RP9 S (NT3 S) (NT3 T16)) := fun x3 hx => rpy_n hz0 n54 n93 (fun q => by omega) (fun q => by omega) (fun q => by first | rfl | exact absurd q N80.o) (fun q => by first | rfl | exact absurd Y76.o q) hp hq hx
        refine y_iload_n rfl rfl ?_
        refine y_iconst rfl ?_
        refine y_icmp_eq rfl rfl (by unfold rg; omega) (by unfold rg; omega) (fun w188 => ?_) (fun w189 => ?_)
        · refine y_return rfl rfl ?_
          exact ⟨hHT16, hFT16, rfl, (by first | (have t := K117; exact R117) | exact rpy_0 A93.o N80.o)⟩
        · exfalso; omega
      · refine y_iload_n rfl rfl ?_
        refine y_iconst rfl ?_
        refine y_icmp_eq rfl rfl (by unfold rg; omega) (by unfold rg; omega) (fun w192 => ?_) (fun w193 => ?_)
        · exfalso; omega
        · refine y_aload_n rfl rfl ?_
          refine y_iload_n rfl rfl ?_
          refine y_iload_n rfl rfl ?_
          refine y_callV rfl rfl rfl (t_mo_has__p hHT15 (Xi S 918 ((z4).toNat)) z126 ⟨by omega, by omega⟩ ⟨by omega, by omega⟩ (by first | assumption | exact (ABV_FR hFT15 rfl (by assumption : ABV S))) _) ?_
          rintro _ _ ⟨rfl, z196, rfl, w196, f70⟩
          show Pl _ _ _ _ _ _ [iv z196] _ _
          have e70 : z196 = hsR S (kp9 S) (rnR S 0 7) := by have t := f70; rw [k27, f32] at t; exact t.trans (hsN_k (fun j => (hFT15.cx 917 rfl j).1) (fun j => (hFT15.cx 929 rfl j).1) 17 _)
          refine y_if_eq rfl rfl (by unfold rg; omega) (fun w197 => ?_) (fun w198 => ?_)
          · refine y_iconst rfl ?_
            have N80 : Hid (¬ okp9 S) := fun q => by have q1 := q.1; have q2 := q.2; first | omega | (rw [← e70] at q2; omega)
            refine y_istore rfl rfl rfl ?_
            refine y_aload_n rfl rfl ?_
            refine y_iload rfl rfl ?_
            refine y_iconst rfl ?_
            refine y_aload_n rfl rfl ?_
            refine y_gfr rfl rfl rfl rfl rfl (hHT15.r 904 67 950 rfl) ?_
            refine y_iconst rfl ?_
            refine y_ialoadP (n := 2600) rfl rfl (by unfold rg; omega) (fun w199 w200 => ?_)
            have w201 : -2147483648 ≤ (Xi T15 950 ((0 : Int).toNat)) ∧ (Xi T15 950 ((0 : Int).toNat)) ≤ 2147483647 := Xi_rgI
            have w202 : (Xi T15 950 ((0 : Int).toNat)) = Xi T15 950 0 := rfl
            refine y_callV rfl rfl rfl (t_mo_need__p hHT15 0 4 (Xi T15 950 ((0 : Int).toNat)) ⟨by omega, by omega⟩ ⟨by omega, by omega⟩ ⟨by omega, by omega⟩ _) ?_
            rintro _ T17 ⟨hHT17, w206, rfl, nt93⟩
            have hFT17 : FR md_mo_askProperty__p S T17 := FR.tr hFT15 w206 rfl
            show Pl _ _ _ _ _ _ [] _ _
            have n93 := nt93
            rw [(hFT15.cx 908 rfl _).1, (hFT15.cx 950 rfl _).1] at n93
            have A93 : Hid (RP9 S (NT3 S) (NT3 T17)) := fun x3 hx => rpy_n hz0 n54 n93 (fun q => by omega) (fun q => by omega) (fun q => by first | rfl | exact absurd q N80.o) (fun q => by first | rfl | exact absurd Y76.o q) hp hq hx
            refine y_iload_n rfl rfl ?_
            refine y_iconst rfl ?_
            refine y_icmp_eq rfl rfl (by unfold rg; omega) (by unfold rg; omega) (fun w207 => ?_) (fun w208 => ?_)
            · exfalso; omega
            · refine y_aload_n rfl rfl ?_
              refine y_aload_n rfl rfl ?_
              refine y_gfi rfl rfl rfl rfl rfl ?_
              have w209 : (Xi T17 904 78) = (Xi S 904 78) := (show Xi T17 904 78 = Xi T15 904 78 from w206.x _ _ rfl).trans ((show Xi T15 904 78 = Xi S 904 78 from w177.x _ _ rfl))
              rw [w209]
              refine y_iconst rfl ?_
              refine y_aload_n rfl rfl ?_
              refine y_gfr rfl rfl rfl rfl rfl (hHT17.r 904 33 928 rfl) ?_
              refine y_iload_n rfl rfl ?_
              refine y_ialoadP (n := 12) rfl rfl (by unfold rg; omega) (fun w210 w211 => ?_)
              have w212 : -2147483648 ≤ (Xi T17 928 ((z126).toNat)) ∧ (Xi T17 928 ((z126).toNat)) ≤ 2147483647 := Xi_rgI
              have e112 : (Xi T17 928 ((z126).toNat)) = Xi S 928 (rnR S 0 7).toNat := by rw [(hFT17.cx 928 rfl _).1, f32]
              refine y_aload_n rfl rfl ?_
              refine y_gfi rfl rfl rfl rfl rfl ?_
              have w213 : -2147483648 ≤ (Xi T17 904 117) ∧ (Xi T17 904 117) ≤ 2147483647 := Xi_rgI
              have w214 : Xi T17 904 15 = Xi S 904 15 := (show Xi T17 904 15 = Xi T15 904 15 from w206.x _ _ rfl).trans ((show Xi T15 904 15 = Xi S 904 15 from w177.x _ _ rfl))
              have w215 : Xi T17 904 78 = Xi S 904 78 := (show Xi T17 904 78 = Xi T15 904 78 from w206.x _ _ rfl).trans ((show Xi T15 904 78 = Xi S 904 78 from w177.x _ _ rfl))
              refine y_callV rfl rfl rfl (t_mo_whatMeant__p hHT17 (Xi S 904 78) 2 (Xi T17 928 ((z126).toNat)) (Xi T17 904 117) ⟨by omega, by omega⟩ ⟨by omega, by omega⟩ ⟨by omega, by omega⟩ ⟨by omega, by omega⟩ (by first | assumption | exact (LSP_FR hFT17 rfl rfl (by assumption : LSP S))) (by first | assumption | omega) (by first | assumption | exact (RBD_FR hFT17 rfl (by assumption : RBD S))) (by have t := hnum.o; intro w; rw [(hFT17.cx 907 rfl _).1] at w; rw [(hFT17.cx 910 rfl _).2]; exact t w) (by rw [(hFT17.cx 908 rfl _).1]; exact hplc) _) ?_
              rintro _ T18 ⟨hHT18, w217, rfl, o117⟩
              have hFT18 : FR md_mo_askProperty__p S T18 := FR.tr hFT17 w217 rfl
              show Pl _ _ _ _ _ _ [] _ _
              have K117 : True := trivial
              have R117 : RPY S T18 := rpy_e hz0 A93.o hFT17 rfl rfl (SMR_FR hFT17 rfl rfl) o117 e112 (hFT17.x 904 117 rfl)
              refine y_return rfl rfl ?_
              exact ⟨hHT18, hFT18, rfl, (by first | (have t := K117; exact R117) | exact rpy_0 A93.o N80.o)⟩
          · refine y_iconst rfl ?_
            have Y76 : Hid (okp9 S) := ⟨by rw [← f32]; omega, by first | exact Or.inl (by omega) | exact Or.inr (by rw [← e70]; omega)⟩
            refine y_goto rfl rfl ?_
            refine y_istore rfl rfl rfl ?_
            refine y_aload_n rfl rfl ?_
            refine y_iload rfl rfl ?_
            refine y_iconst rfl ?_
            refine y_aload_n rfl rfl ?_
            refine y_gfr rfl rfl rfl rfl rfl (hHT15.r 904 67 950 rfl) ?_
            refine y_iconst rfl ?_
            refine y_ialoadP (n := 2600) rfl rfl (by unfold rg; omega) (fun w220 w221 => ?_)
            have w222 : -2147483648 ≤ (Xi T15 950 ((0 : Int).toNat)) ∧ (Xi T15 950 ((0 : Int).toNat)) ≤ 2147483647 := Xi_rgI
            have w223 : (Xi T15 950 ((0 : Int).toNat)) = Xi T15 950 0 := rfl
            refine y_callV rfl rfl rfl (t_mo_need__p hHT15 1 4 (Xi T15 950 ((0 : Int).toNat)) ⟨by omega, by omega⟩ ⟨by omega, by omega⟩ ⟨by omega, by omega⟩ _) ?_
            rintro _ T19 ⟨hHT19, w227, rfl, nt93⟩
            have hFT19 : FR md_mo_askProperty__p S T19 := FR.tr hFT15 w227 rfl
            show Pl _ _ _ _ _ _ [] _ _
            have n93 := nt93
            rw [(hFT15.cx 908 rfl _).1, (hFT15.cx 950 rfl _).1] at n93
            have A93 : Hid (RP9 S (NT3 S) (NT3 T19)) := fun x3 hx => rpy_n hz0 n54 n93 (fun q => by omega) (fun q => by omega) (fun q => by first | rfl | exact absurd q N80.o) (fun q => by first | rfl | exact absurd Y76.o q) hp hq hx
            refine y_iload_n rfl rfl ?_
            refine y_iconst rfl ?_
            refine y_icmp_eq rfl rfl (by unfold rg; omega) (by unfold rg; omega) (fun w228 => ?_) (fun w229 => ?_)
            · exfalso; omega
            · refine y_aload_n rfl rfl ?_
              refine y_aload_n rfl rfl ?_
              refine y_gfi rfl rfl rfl rfl rfl ?_
              have w230 : (Xi T19 904 78) = (Xi S 904 78) := (show Xi T19 904 78 = Xi T15 904 78 from w227.x _ _ rfl).trans ((show Xi T15 904 78 = Xi S 904 78 from w177.x _ _ rfl))
              rw [w230]
              refine y_iconst rfl ?_
              refine y_aload_n rfl rfl ?_
              refine y_gfr rfl rfl rfl rfl rfl (hHT19.r 904 33 928 rfl) ?_
              refine y_iload_n rfl rfl ?_
              refine y_ialoadP (n := 12) rfl rfl (by unfold rg; omega) (fun w231 w232 => ?_)
              have w233 : -2147483648 ≤ (Xi T19 928 ((z126).toNat)) ∧ (Xi T19 928 ((z126).toNat)) ≤ 2147483647 := Xi_rgI
              have e112 : (Xi T19 928 ((z126).toNat)) = Xi S 928 (rnR S 0 7).toNat := by rw [(hFT19.cx 928 rfl _).1, f32]
              refine y_aload_n rfl rfl ?_
              refine y_gfi rfl rfl rfl rfl rfl ?_
              have w234 : -2147483648 ≤ (Xi T19 904 117) ∧ (Xi T19 904 117) ≤ 2147483647 := Xi_rgI
              have w235 : Xi T19 904 15 = Xi S 904 15 := (show Xi T19 904 15 = Xi T15 904 15 from w227.x _ _ rfl).trans ((show Xi T15 904 15 = Xi S 904 15 from w177.x _ _ rfl))
              have w236 : Xi T19 904 78 = Xi S 904 78 := (show Xi T19 904 78 = Xi T15 904 78 from w227.x _ _ rfl).trans ((show Xi T15 904 78 = Xi S 904 78 from w177.x _ _ rfl))
              refine y_callV rfl rfl rfl (t_mo_whatMeant__p hHT19 (Xi S 904 78) 2 (Xi T19 928 ((z126).toNat)) (Xi T19 904 117) ⟨by omega, by omega⟩ ⟨by omega, by omega⟩ ⟨by omega, by omega⟩ ⟨by omega, by omega⟩ (by first | assumption | exact (LSP_FR hFT19 rfl rfl (by assumption : LSP S))) (by first | assumption | omega) (by first | assumption | exact (RBD_FR hFT19 rfl (by assumption : RBD S))) (by have t := hnum.o; intro w; rw [(hFT19.cx 907 rfl _).1] at w; rw [(hFT19.cx 910 rfl _).2]; exact t w) (by rw [(hFT19.cx 908 rfl _).1]; exact hplc) _) ?_
              rintro _ T20 ⟨hHT20, w238, rfl, o117⟩
              have hFT20 : FR md_mo_askProperty__p S T20 := FR.tr hFT19 w238 rfl
              show Pl _ _ _ _ _ _ [] _ _
              have K117 : True := trivial
              have R117 : RPY S T20 := rpy_e hz0 A93.o hFT19 rfl rfl (SMR_FR hFT19 rfl rfl) o117 e112 (hFT19.x 904 117 rfl)
              refine y_return rfl rfl ?_
              exact ⟨hHT20, hFT20, rfl, (by first | (have t := K117; exact R117) | exact rpy_0 A93.o N80.o)⟩
def md_mo_asked__9 : List rec := [(904, 905, 64, 65), (904, 905, 104, 105), (904, 905, 105, 106), (904, 905, 106, 107), (904, 905, 108, 109), (904, 905, 109, 110), (904, 905, 110, 111), (904, 905, 112, 113), (904, 905, 113, 114), (904, 905, 115, 116), (904, 905, 116, 117), (904, 905, 117, 118), (904, 905, 125, 126), (904, 905, 128, 129), (904, 905, 129, 130), (904, 905, 130, 131), (904, 905, 142, 143), (904, 905, 144, 145), (904, 905, 146, 147), (904, 905, 147, 148), (904, 905, 150, 151), (904, 905, 151, 152), (904, 905, 153, 154), (904, 905, 154, 155), (904, 905, 156, 157), (904, 905, 157, 158), (904, 905, 158, 159), (904, 905, 160, 161), (966, 967, 0, 100000), (967, 968, 0, 100000), (968, 969, 0, 100000), (969, 970, 0, 100000), (970, 971, 0, 100000), (971, 972, 0, 100000), (972, 973, 0, 100000), (973, 974, 0, 100000), (974, 975, 0, 100000), (975, 976, 0, 100000), (976, 977, 0, 100000), (977, 978, 0, 100000), (978, 979, 0, 100000), (979, 980, 0, 100000), (980, 981, 0, 100000), (981, 982, 0, 100000), (982, 983, 0, 100000), (983, 984, 0, 100000), (984, 985, 0, 100000), (985, 986, 0, 100000), (986, 987, 0, 100000), (987, 988, 0, 100000), (988, 989, 0, 100000), (989, 990, 0, 100000), (990, 991, 0, 100000), (991, 992, 0, 100000), (992, 993, 0, 100000), (993, 994, 0, 100000), (994, 995, 0, 100000)]
abbrev Q_mo_asked__9 (S : sS) (first : Int) : pst := fun r S1 => RI S1 ∧ FR md_mo_asked__9 S S1 ∧ (r = none ∧ (RPY S S1))
set_option maxRecDepth 100000 in
theorem t_mo_asked__9 {S : sS} (hH : RI S) (first : Int) (hfirst : 0 ≤ first ∧ first ≤ 5001) (hLS : LSP S) (h15 : 0 ≤ Xi S 904 15) (hRB : RBD S) (hLX : LXR S) (hB : ABV S) (hko : Hid (∀ j : Nat, -1 ≤ Xi S 918 j ∧ Xi S 918 j ≤ 15)) (h7 : rnR S 0 7 ≤ 11) (hk0 : rnR S 1 0 ≤ 15) (hp : pR S 0 < pR S 1) (hq : pR S 1 < Xi S 908 (Xi S 904 78).toNat) (hnum : Hid (Xi S 907 (Xi S 904 78).toNat = 4 → 0 ≤ Xj S 910 (Xi S 904 78).toNat ∧ Xj S 910 (Xi S 904 78).toNat ≤ 2147483647)) (hplc : Xi S 908 (Xi S 904 78).toNat ≤ 100000) (hs : Xi S 904 70 = 9) (d : Nat) : Mp lay0 (d + 13) m_mo_asked [.ref 904, iv first] S (Q_mo_asked__9 S first) := by
  refine Mp_R rfl rfl (fun fu => ?_)
  have hF : FR md_mo_asked__9 S S := FR.rf
  have w1 : -2147483648 ≤ Xi S 904 104 ∧ Xi S 904 104 ≤ 2147483647 := Xi_rgI
  have w2 : -2147483648 ≤ Xi S 904 105 ∧ Xi S 904 105 ≤ 2147483647 := Xi_rgI
  have w3 : -2147483648 ≤ Xi S 904 106 ∧ Xi S 904 106 ≤ 2147483647 := Xi_rgI
  have w4 : -2147483648 ≤ Xi S 904 108 ∧ Xi S 904 108 ≤ 2147483647 := Xi_rgI
  have w5 : -2147483648 ≤ Xi S 904 117 ∧ Xi S 904 117 ≤ 2147483647 := Xi_rgI
  have w6 : -2147483648 ≤ Xi S 904 15 ∧ Xi S 904 15 ≤ 2147483647 := Xi_rgI
  have w7 : -2147483648 ≤ Xi S 904 70 ∧ Xi S 904 70 ≤ 2147483647 := Xi_rgI
  have w8 : -2147483648 ≤ Xi S 904 78 ∧ Xi S 904 78 ≤ 2147483647 := Xi_rgI
  refine y_aload_n rfl rfl ?_
  refine y_iconst rfl ?_
  refine y_pfi rfl rfl rfl rfl ?_
  obtain ⟨U1, eU1⟩ : ∃ T : sS, T = uI S 904 106 (Int32.ofInt 0) := ⟨_, rfl⟩
  rw [← eU1]
  have hHU1 : RI U1 := by rw [eU1]; exact RI_w hH
  have hFU1 : FR md_mo_asked__9 S U1 := by rw [eU1]; exact FR.wI hF (mdf_i (r := (904, 905, 106, 107)) (List.mem_of_getElem? (i := 3) rfl) (inR_i (by omega) (by omega) (by omega) (by omega)))
  have w9 : Xi U1 904 106 = 0 := by rw [eU1]; exact Xi_same (by unfold rg; omega)
  refine y_aload_n rfl rfl ?_
  refine y_iconst rfl ?_
  refine y_pfi rfl rfl rfl rfl ?_
  obtain ⟨U2, eU2⟩ : ∃ T : sS, T = uI U1 904 108 (Int32.ofInt 0) := ⟨_, rfl⟩
  rw [← eU2]
  have hHU2 : RI U2 := by rw [eU2]; exact RI_w hHU1
  have hFU2 : FR md_mo_asked__9 S U2 := by rw [eU2]; exact FR.wI hFU1 (mdf_i (r := (904, 905, 108, 109)) (List.mem_of_getElem? (i := 4) rfl) (inR_i (by omega) (by omega) (by omega) (by omega)))
  have w10 : Xi U2 904 108 = 0 := by rw [eU2]; exact Xi_same (by unfold rg; omega)
  refine y_aload_n rfl rfl ?_
  refine y_iconst rfl ?_
  refine y_pfi rfl rfl rfl rfl ?_
  obtain ⟨U3, eU3⟩ : ∃ T : sS, T = uI U2 904 115 (Int32.ofInt (-1)) := ⟨_, rfl⟩
  rw [← eU3]
  have hHU3 : RI U3 := by rw [eU3]; exact RI_w hHU2
  have hFU3 : FR md_mo_asked__9 S U3 := by rw [eU3]; exact FR.wI hFU2 (mdf_i (r := (904, 905, 115, 116)) (List.mem_of_getElem? (i := 9) rfl) (inR_i (by omega) (by omega) (by omega) (by omega)))
  have w11 : Xi U3 904 115 = (-1) := by rw [eU3]; exact Xi_same (by unfold rg; omega)
  refine y_aload_n rfl rfl ?_
  refine y_iconst rfl ?_
  refine y_pfi rfl rfl rfl rfl ?_
  obtain ⟨U4, eU4⟩ : ∃ T : sS, T = uI U3 904 116 (Int32.ofInt (-1)) := ⟨_, rfl⟩
  rw [← eU4]
  have hHU4 : RI U4 := by rw [eU4]; exact RI_w hHU3
  have hFU4 : FR md_mo_asked__9 S U4 := by rw [eU4]; exact FR.wI hFU3 (mdf_i (r := (904, 905, 116, 117)) (List.mem_of_getElem? (i := 10) rfl) (inR_i (by omega) (by omega) (by omega) (by omega)))
  have w12 : Xi U4 904 116 = (-1) := by rw [eU4]; exact Xi_same (by unfold rg; omega)
  refine y_aload_n rfl rfl ?_
  refine y_gfi rfl rfl rfl rfl rfl ?_
  have w13 : (Xi U4 904 70) = (Xi S 904 70) := (show Xi U4 904 70 = Xi U3 904 70 from by rw [eU4]; exact Xi_ne (by omega)).trans ( (show Xi U3 904 70 = Xi U2 904 70 from by rw [eU3]; exact Xi_ne (by omega)).trans ( (show Xi U2 904 70 = Xi U1 904 70 from by rw [eU2]; exact Xi_ne (by omega)).trans ((show Xi U1 904 70 = Xi S 904 70 from by rw [eU1]; exact Xi_ne (by omega)))))
  rw [w13]
  refine y_tsw rfl rfl rfl rfl (by unfold rg; omega) (fun w14 => ?_) (fun ii tt hii w14 => ?_)
  · exfalso; omega
  · match ii, hii with
    | 0, hii =>
      cases hii
      have w15 : (Xi S 904 70) = 0 := by simpa using w14
      exfalso; omega
    | 1, hii =>
      cases hii
      have w16 : (Xi S 904 70) = 1 := by simpa using w14
      exfalso; omega
    | 2, hii =>
      cases hii
      have w17 : (Xi S 904 70) = 2 := by simpa using w14
      exfalso; omega
    | 3, hii =>
      cases hii
      have w18 : (Xi S 904 70) = 3 := by simpa using w14
      exfalso; omega
    | 4, hii =>
      cases hii
      have w19 : (Xi S 904 70) = 4 := by simpa using w14
      exfalso; omega
    | 5, hii =>
      cases hii
      have w20 : (Xi S 904 70) = 5 := by simpa using w14
      exfalso; omega
    | 6, hii =>
      cases hii
      have w21 : (Xi S 904 70) = 6 := by simpa using w14
      exfalso; omega
    | 7, hii =>
      cases hii
      have w22 : (Xi S 904 70) = 7 := by simpa using w14
      exfalso; omega
    | 8, hii =>
      cases hii
      have w23 : (Xi S 904 70) = 8 := by simpa using w14
      exfalso; omega
    | 9, hii =>
      cases hii
      have w24 : (Xi S 904 70) = 9 := by simpa using w14
      refine y_aload_n rfl rfl ?_
      have w25 : Xi U4 904 104 = Xi S 904 104 := (show Xi U4 904 104 = Xi U3 904 104 from by rw [eU4]; exact Xi_ne (by omega)).trans ( (show Xi U3 904 104 = Xi U2 904 104 from by rw [eU3]; exact Xi_ne (by omega)).trans ( (show Xi U2 904 104 = Xi U1 904 104 from by rw [eU2]; exact Xi_ne (by omega)).trans ((show Xi U1 904 104 = Xi S 904 104 from by rw [eU1]; exact Xi_ne (by omega)))))
      have w26 : Xi U4 904 105 = Xi S 904 105 := (show Xi U4 904 105 = Xi U3 904 105 from by rw [eU4]; exact Xi_ne (by omega)).trans ( (show Xi U3 904 105 = Xi U2 904 105 from by rw [eU3]; exact Xi_ne (by omega)).trans ( (show Xi U2 904 105 = Xi U1 904 105 from by rw [eU2]; exact Xi_ne (by omega)).trans ((show Xi U1 904 105 = Xi S 904 105 from by rw [eU1]; exact Xi_ne (by omega)))))
      have w27 : Xi U4 904 106 = Xi U1 904 106 := (show Xi U4 904 106 = Xi U3 904 106 from by rw [eU4]; exact Xi_ne (by omega)).trans ( (show Xi U3 904 106 = Xi U2 904 106 from by rw [eU3]; exact Xi_ne (by omega)).trans ((show Xi U2 904 106 = Xi U1 904 106 from by rw [eU2]; exact Xi_ne (by omega))))
      have w28 : Xi U4 904 108 = Xi U2 904 108 := (show Xi U4 904 108 = Xi U3 904 108 from by rw [eU4]; exact Xi_ne (by omega)).trans ((show Xi U3 904 108 = Xi U2 904 108 from by rw [eU3]; exact Xi_ne (by omega)))
      have w29 : Xi U4 904 117 = Xi S 904 117 := (show Xi U4 904 117 = Xi U3 904 117 from by rw [eU4]; exact Xi_ne (by omega)).trans ( (show Xi U3 904 117 = Xi U2 904 117 from by rw [eU3]; exact Xi_ne (by omega)).trans ( (show Xi U2 904 117 = Xi U1 904 117 from by rw [eU2]; exact Xi_ne (by omega)).trans ((show Xi U1 904 117 = Xi S 904 117 from by rw [eU1]; exact Xi_ne (by omega)))))
      have w30 : Xi U4 904 15 = Xi S 904 15 := (show Xi U4 904 15 = Xi U3 904 15 from by rw [eU4]; exact Xi_ne (by omega)).trans ( (show Xi U3 904 15 = Xi U2 904 15 from by rw [eU3]; exact Xi_ne (by omega)).trans ( (show Xi U2 904 15 = Xi U1 904 15 from by rw [eU2]; exact Xi_ne (by omega)).trans ((show Xi U1 904 15 = Xi S 904 15 from by rw [eU1]; exact Xi_ne (by omega)))))
      have w31 : Xi U4 904 70 = Xi S 904 70 := (show Xi U4 904 70 = Xi U3 904 70 from by rw [eU4]; exact Xi_ne (by omega)).trans ( (show Xi U3 904 70 = Xi U2 904 70 from by rw [eU3]; exact Xi_ne (by omega)).trans ( (show Xi U2 904 70 = Xi U1 904 70 from by rw [eU2]; exact Xi_ne (by omega)).trans ((show Xi U1 904 70 = Xi S 904 70 from by rw [eU1]; exact Xi_ne (by omega)))))
      have w32 : Xi U4 904 78 = Xi S 904 78 := (show Xi U4 904 78 = Xi U3 904 78 from by rw [eU4]; exact Xi_ne (by omega)).trans ( (show Xi U3 904 78 = Xi U2 904 78 from by rw [eU3]; exact Xi_ne (by omega)).trans ( (show Xi U2 904 78 = Xi U1 904 78 from by rw [eU2]; exact Xi_ne (by omega)).trans ((show Xi U1 904 78 = Xi S 904 78 from by rw [eU1]; exact Xi_ne (by omega)))))
      refine y_callV rfl rfl rfl (t_mo_askProperty__p hHU4 (by first | assumption | exact (LSP_FR hFU4 rfl rfl (by assumption : LSP S))) (by first | assumption | omega) (by first | assumption | exact (RBD_FR hFU4 rfl (by assumption : RBD S))) (by first | assumption | exact (LXR_FR hFU4 rfl rfl (by assumption : LXR S))) (by first | assumption | exact (ABV_FR hFU4 rfl (by assumption : ABV S))) (fun j => by rw [(hFU4.cx 918 rfl j).1]; exact hko.o j) (by omega) (by rw [rnR_sm (SMR_FR hFU4 rfl rfl)]; exact h7) (by rw [rnR_sm (SMR_FR hFU4 rfl rfl)]; exact hk0) (by rw [pR_sm (SMR_FR hFU4 rfl rfl), pR_sm (SMR_FR hFU4 rfl rfl)]; exact hp) (by rw [pR_sm (SMR_FR hFU4 rfl rfl), hFU4.x 904 78 rfl, (hFU4.cx 908 rfl _).1]; exact hq) (by rw [hFU4.x 904 78 rfl, (hFU4.cx 907 rfl _).1, (hFU4.cx 910 rfl _).2]; exact hnum) (by rw [hFU4.x 904 78 rfl, (hFU4.cx 908 rfl _).1]; exact hplc) _) ?_
      rintro _ T5 ⟨hHT5, w34, rfl, o235⟩
      have hFT5 : FR md_mo_asked__9 S T5 := FR.tr hFU4 w34 rfl
      show Pl _ _ _ _ _ _ [] _ _
      have O235 : RPY S T5 := RPY_fr hFU4 (SMR_FR hFU4 rfl rfl) rfl rfl rfl (hFU4.x 904 78 rfl) (by omega) o235
      refine y_goto rfl rfl ?_
      refine y_return rfl rfl ?_
      exact ⟨hHT5, hFT5, rfl, (O235)⟩
    | 10, hii =>
      cases hii
      have w40 : (Xi S 904 70) = 10 := by simpa using w14
      exfalso; omega
    | 11, hii =>
      cases hii
      have w41 : (Xi S 904 70) = 11 := by simpa using w14
      exfalso; omega
    | 12, hii =>
      cases hii
      have w42 : (Xi S 904 70) = 12 := by simpa using w14
      exfalso; omega
    | 13, hii =>
      cases hii
      have w43 : (Xi S 904 70) = 13 := by simpa using w14
      exfalso; omega
    | 14, hii =>
      cases hii
      have w44 : (Xi S 904 70) = 14 := by simpa using w14
      exfalso; omega
    | 15, hii =>
      cases hii
      have w45 : (Xi S 904 70) = 15 := by simpa using w14
      exfalso; omega
    | 16, hii =>
      cases hii
      have w46 : (Xi S 904 70) = 16 := by simpa using w14
      exfalso; omega
    | 17, hii =>
      cases hii
      have w47 : (Xi S 904 70) = 17 := by simpa using w14
      exfalso; omega
    | 18, hii =>
      cases hii
      have w48 : (Xi S 904 70) = 18 := by simpa using w14
      exfalso; omega
    | 19, hii =>
      cases hii
      have w49 : (Xi S 904 70) = 19 := by simpa using w14
      exfalso; omega
    | 20, hii =>
      cases hii
      have w50 : (Xi S 904 70) = 20 := by simpa using w14
      exfalso; omega
    | n + 21, hii => exact absurd hii (by simp)
def md_mo_doProperty__p : List rec := [(904, 905, 105, 106), (904, 905, 106, 107), (930, 931, 0, 100000), (931, 932, 0, 100000), (932, 933, 0, 100000), (933, 934, 0, 100000), (934, 935, 0, 100000), (935, 936, 0, 100000)]
abbrev Q_mo_doProperty__p (S : sS) : pst := fun r S1 => RI S1 ∧ FR md_mo_doProperty__p S S1 ∧ (r = none ∧ (RD9 S S1))
set_option maxRecDepth 100000 in
theorem t_mo_doProperty__p {S : sS} (hH : RI S) (hLS : LSP S) (h15 : 0 ≤ Xi S 904 15) (hRB : RBD S) (hLX : LXR S) (hz0 : Xi S 904 106 = 0) (h7 : rnR S 0 7 ≠ -1) (h17 : rnR S 1 4 = -1 → rnR S 1 0 ≠ -1) (d : Nat) : Mp lay0 (d + 5) m_mo_doProperty [.ref 904] S (Q_mo_doProperty__p S) := by
  refine Mp_R rfl rfl (fun fu => ?_)
  have hF : FR md_mo_doProperty__p S S := FR.rf
  have w1 : -2147483648 ≤ Xi S 904 106 ∧ Xi S 904 106 ≤ 2147483647 := Xi_rgI
  have w2 : -2147483648 ≤ Xi S 904 117 ∧ Xi S 904 117 ≤ 2147483647 := Xi_rgI
  have w3 : -2147483648 ≤ Xi S 904 15 ∧ Xi S 904 15 ≤ 2147483647 := Xi_rgI
  refine y_aload_n rfl rfl ?_
  refine y_iconst rfl ?_
  refine y_iconst rfl ?_
  refine y_callV rfl rfl rfl (t_mo_meansRun__p hH 1 4 ⟨by omega, by omega⟩ ⟨by omega, by omega⟩ (by first | assumption | exact (LSP_FR hF rfl rfl (by assumption : LSP S))) (by first | assumption | omega) (by first | assumption | exact (RBD_FR hF rfl (by assumption : RBD S))) _) ?_
  rintro _ _ ⟨rfl, z4, rfl, w4, f3⟩
  show Pl _ _ _ _ _ _ [iv z4] _ _
  have b3 := rnR_ix (r := 1) (s := 4) hLX h15
  refine y_istore_n rfl rfl rfl ?_
  refine y_aload_n rfl rfl ?_
  refine y_iconst rfl ?_
  refine y_bipush rfl rfl ?_
  refine y_callV rfl rfl rfl (t_mo_meansRun__p hH 0 7 ⟨by omega, by omega⟩ ⟨by omega, by omega⟩ (by first | assumption | exact (LSP_FR hF rfl rfl (by assumption : LSP S))) (by first | assumption | omega) (by first | assumption | exact (RBD_FR hF rfl (by assumption : RBD S))) _) ?_
  rintro _ _ ⟨rfl, z5, rfl, w5, f11⟩
  show Pl _ _ _ _ _ _ [iv z5] _ _
  have b11 := rnR_ix (r := 0) (s := 7) hLX h15
  refine y_istore_n rfl rfl rfl ?_
  refine y_iload_n rfl rfl ?_
  refine y_iconst rfl ?_
  refine y_icmp_eq rfl rfl (by unfold rg; omega) (by unfold rg; omega) (fun w6 => ?_) (fun w7 => ?_)
  · refine y_aload_n rfl rfl ?_
    refine y_aload_n rfl rfl ?_
    refine y_iconst rfl ?_
    refine y_iconst rfl ?_
    refine y_callV rfl rfl rfl (t_mo_meansRun__p hH 1 0 ⟨by omega, by omega⟩ ⟨by omega, by omega⟩ (by first | assumption | exact (LSP_FR hF rfl rfl (by assumption : LSP S))) (by first | assumption | omega) (by first | assumption | exact (RBD_FR hF rfl (by assumption : RBD S))) _) ?_
    rintro _ _ ⟨rfl, z8, rfl, w8, f51⟩
    show Pl _ _ _ _ _ _ [iv z8, .ref 904] _ _
    have b51 := rnR_ix (r := 1) (s := 0) hLX h15
    refine y_iload_n rfl rfl ?_
    refine y_aload_n rfl rfl ?_
    refine y_gfr rfl rfl rfl rfl rfl (hH.r 904 122 973 rfl) ?_
    refine y_aload_n rfl rfl ?_
    refine y_gfi rfl rfl rfl rfl rfl ?_
    refine y_ialoadP (n := 2400) rfl rfl (by unfold rg; omega) (fun w9 w10 => ?_)
    have w11 : -2147483648 ≤ (Xi S 973 (((Xi S 904 117)).toNat)) ∧ (Xi S 973 (((Xi S 904 117)).toNat)) ≤ 2147483647 := Xi_rgI
    refine y_aload_n rfl rfl ?_
    refine y_gfr rfl rfl rfl rfl rfl (hH.r 904 123 974 rfl) ?_
    refine y_aload_n rfl rfl ?_
    refine y_gfi rfl rfl rfl rfl rfl ?_
    refine y_ialoadP (n := 2400) rfl rfl (by unfold rg; omega) (fun w12 w13 => ?_)
    have w14 : -2147483648 ≤ (Xi S 974 (((Xi S 904 117)).toNat)) ∧ (Xi S 974 (((Xi S 904 117)).toNat)) ≤ 2147483647 := Xi_rgI
    refine y_callV rfl rfl rfl (t_mo_tellKind__p hH z8 z5 (Xi S 973 (((Xi S 904 117)).toNat)) (Xi S 974 (((Xi S 904 117)).toNat)) ⟨by omega, by omega⟩ ⟨by omega, by omega⟩ ⟨by omega, by omega⟩ ⟨by omega, by omega⟩ _) ?_
    rintro _ T1 ⟨hHT1, w16, z15, rfl, w15, o73⟩
    have hFT1 : FR md_mo_doProperty__p S T1 := FR.tr hF w16 rfl
    show Pl _ _ _ _ _ _ [iv z15] _ _
    have O73 : TPR1 S T1 z15 933 (rnR S 1 0) (rnR S 0 7) (Xi S 973 (Xi S 904 117).toNat) (Xi S 974 (Xi S 904 117).toNat) := by have t := o73; rw [f51, f11] at t; exact t
    have z73 : Xi T1 904 106 = 0 := ((by assumption : FR md_mo_tellKind__p S T1).x 904 106 rfl).trans hz0
    refine y_istore_n rfl rfl rfl ?_
    refine y_iload_n rfl rfl ?_
    refine y_if_ne rfl rfl (by unfold rg; omega) (fun w17 => ?_) (fun w18 => ?_)
    · refine y_return rfl rfl ?_
      exact ⟨hHT1, hFT1, rfl, (by first | (have t := K41; exact ⟨_, _, fun _ => O41, fun q => absurd q (by omega), by first | exact Or.inl ⟨by omega, rfl⟩ | exact Or.inr ⟨by omega, Y89⟩⟩) | exact ⟨_, _, fun q => absurd (by omega) q, fun _ => O73, by first | exact Or.inl ⟨by omega, rfl⟩ | exact Or.inr ⟨by omega, Y89⟩⟩)⟩
    · refine y_aload_n rfl rfl ?_
      refine y_iconst rfl ?_
      refine y_aload_n rfl rfl ?_
      refine y_gfr rfl rfl rfl rfl rfl (hHT1.r 904 67 950 rfl) ?_
      refine y_iconst rfl ?_
      refine y_ialoadP (n := 2600) rfl rfl (by unfold rg; omega) (fun w22 w23 => ?_)
      have w24 : -2147483648 ≤ (Xi T1 950 ((1 : Int).toNat)) ∧ (Xi T1 950 ((1 : Int).toNat)) ≤ 2147483647 := Xi_rgI
      have w25 : (Xi T1 950 ((1 : Int).toNat)) = Xi T1 950 1 := rfl
      have w26 : Xi T1 904 106 = Xi S 904 106 := (show Xi T1 904 106 = Xi S 904 106 from w16.x _ _ rfl)
      refine y_callV rfl rfl rfl (t_mo_wrong__p hHT1 5 (Xi T1 950 ((1 : Int).toNat)) ⟨by omega, by omega⟩ ⟨by omega, by omega⟩ _) ?_
      rintro _ T2 ⟨hHT2, w31, rfl, w89, w29⟩
      have hFT2 : FR md_mo_doProperty__p S T2 := FR.tr hFT1 w31 rfl
      show Pl _ _ _ _ _ _ [] _ _
      have Y89 : NTB (NT3 T2) 5 (pR S 1) := by have t := w89 (by first | exact z41 | exact z73); rw [(hFT1.cx 908 rfl _).1, (hFT1.cx 950 rfl _).1] at t; exact t
      refine y_return rfl rfl ?_
      exact ⟨hHT2, hFT2, rfl, (by first | (have t := K41; exact ⟨_, _, fun _ => O41, fun q => absurd q (by omega), by first | exact Or.inl ⟨by omega, rfl⟩ | exact Or.inr ⟨by omega, Y89⟩⟩) | exact ⟨_, _, fun q => absurd (by omega) q, fun _ => O73, by first | exact Or.inl ⟨by omega, rfl⟩ | exact Or.inr ⟨by omega, Y89⟩⟩)⟩
  · refine y_aload_n rfl rfl ?_
    refine y_iload_n rfl rfl ?_
    refine y_iload_n rfl rfl ?_
    refine y_aload_n rfl rfl ?_
    refine y_gfr rfl rfl rfl rfl rfl (hH.r 904 122 973 rfl) ?_
    refine y_aload_n rfl rfl ?_
    refine y_gfi rfl rfl rfl rfl rfl ?_
    refine y_ialoadP (n := 2400) rfl rfl (by unfold rg; omega) (fun w34 w35 => ?_)
    have w36 : -2147483648 ≤ (Xi S 973 (((Xi S 904 117)).toNat)) ∧ (Xi S 973 (((Xi S 904 117)).toNat)) ≤ 2147483647 := Xi_rgI
    refine y_aload_n rfl rfl ?_
    refine y_gfr rfl rfl rfl rfl rfl (hH.r 904 123 974 rfl) ?_
    refine y_aload_n rfl rfl ?_
    refine y_gfi rfl rfl rfl rfl rfl ?_
    refine y_ialoadP (n := 2400) rfl rfl (by unfold rg; omega) (fun w37 w38 => ?_)
    have w39 : -2147483648 ≤ (Xi S 974 (((Xi S 904 117)).toNat)) ∧ (Xi S 974 (((Xi S 904 117)).toNat)) ≤ 2147483647 := Xi_rgI
    refine y_callV rfl rfl rfl (t_mo_tellObject__p hH z4 z5 (Xi S 973 (((Xi S 904 117)).toNat)) (Xi S 974 (((Xi S 904 117)).toNat)) ⟨by omega, by omega⟩ ⟨by omega, by omega⟩ ⟨by omega, by omega⟩ ⟨by omega, by omega⟩ _) ?_
    rintro _ T3 ⟨hHT3, w41, z40, rfl, w40, o41⟩
    have hFT3 : FR md_mo_doProperty__p S T3 := FR.tr hF w41 rfl
    show Pl _ _ _ _ _ _ [iv z40] _ _
    have K41 : True := trivial
    have O41 : TPR1 S T3 z40 930 (rnR S 1 4) (rnR S 0 7) (Xi S 973 (Xi S 904 117).toNat) (Xi S 974 (Xi S 904 117).toNat) := by have t := o41; rw [f3, f11] at t; exact t
    have z41 : Xi T3 904 106 = 0 := ((by assumption : FR md_mo_tellObject__p S T3).x 904 106 rfl).trans hz0
    refine y_goto rfl rfl ?_
    refine y_istore_n rfl rfl rfl ?_
    refine y_iload_n rfl rfl ?_
    refine y_if_ne rfl rfl (by unfold rg; omega) (fun w42 => ?_) (fun w43 => ?_)
    · refine y_return rfl rfl ?_
      exact ⟨hHT3, hFT3, rfl, (by first | (have t := K41; exact ⟨_, _, fun _ => O41, fun q => absurd q (by omega), by first | exact Or.inl ⟨by omega, rfl⟩ | exact Or.inr ⟨by omega, Y89⟩⟩) | exact ⟨_, _, fun q => absurd (by omega) q, fun _ => O73, by first | exact Or.inl ⟨by omega, rfl⟩ | exact Or.inr ⟨by omega, Y89⟩⟩)⟩
    · refine y_aload_n rfl rfl ?_
      refine y_iconst rfl ?_
      refine y_aload_n rfl rfl ?_
      refine y_gfr rfl rfl rfl rfl rfl (hHT3.r 904 67 950 rfl) ?_
      refine y_iconst rfl ?_
      refine y_ialoadP (n := 2600) rfl rfl (by unfold rg; omega) (fun w47 w48 => ?_)
      have w49 : -2147483648 ≤ (Xi T3 950 ((1 : Int).toNat)) ∧ (Xi T3 950 ((1 : Int).toNat)) ≤ 2147483647 := Xi_rgI
      have w50 : (Xi T3 950 ((1 : Int).toNat)) = Xi T3 950 1 := rfl
      have w51 : Xi T3 904 106 = Xi S 904 106 := (show Xi T3 904 106 = Xi S 904 106 from w41.x _ _ rfl)
      refine y_callV rfl rfl rfl (t_mo_wrong__p hHT3 5 (Xi T3 950 ((1 : Int).toNat)) ⟨by omega, by omega⟩ ⟨by omega, by omega⟩ _) ?_
      rintro _ T4 ⟨hHT4, w56, rfl, w89, w54⟩
      have hFT4 : FR md_mo_doProperty__p S T4 := FR.tr hFT3 w56 rfl
      show Pl _ _ _ _ _ _ [] _ _
      have Y89 : NTB (NT3 T4) 5 (pR S 1) := by have t := w89 (by first | exact z41 | exact z73); rw [(hFT3.cx 908 rfl _).1, (hFT3.cx 950 rfl _).1] at t; exact t
      refine y_return rfl rfl ?_
      exact ⟨hHT4, hFT4, rfl, (by first | (have t := K41; exact ⟨_, _, fun _ => O41, fun q => absurd q (by omega), by first | exact Or.inl ⟨by omega, rfl⟩ | exact Or.inr ⟨by omega, Y89⟩⟩) | exact ⟨_, _, fun q => absurd (by omega) q, fun _ => O73, by first | exact Or.inl ⟨by omega, rfl⟩ | exact Or.inr ⟨by omega, Y89⟩⟩)⟩
def md_mo_does__9 : List rec := [(904, 905, 15, 16), (904, 905, 16, 17), (904, 905, 18, 19), (904, 905, 19, 20), (904, 905, 23, 24), (904, 905, 30, 31), (904, 905, 32, 33), (904, 905, 41, 42), (904, 905, 47, 48), (904, 905, 49, 50), (904, 905, 51, 52), (904, 905, 55, 56), (904, 905, 60, 61), (904, 905, 64, 65), (904, 905, 73, 74), (904, 905, 105, 106), (904, 905, 106, 107), (904, 905, 113, 114), (904, 905, 117, 118), (912, 913, 0, 100000), (913, 914, 0, 100000), (914, 915, 0, 100000), (915, 916, 0, 100000), (916, 917, 0, 100000), (917, 918, 0, 100000), (918, 919, 0, 100000), (919, 920, 0, 100000), (920, 921, 0, 100000), (921, 922, 0, 100000), (922, 923, 0, 100000), (923, 924, 0, 100000), (924, 925, 0, 100000), (925, 926, 0, 100000), (926, 927, 0, 100000), (927, 928, 0, 100000), (928, 929, 0, 100000), (929, 930, 0, 100000), (930, 931, 0, 100000), (931, 932, 0, 100000), (932, 933, 0, 100000), (933, 934, 0, 100000), (934, 935, 0, 100000), (935, 936, 0, 100000), (936, 937, 0, 100000), (937, 938, 0, 100000), (938, 939, 0, 100000), (939, 940, 0, 100000), (940, 941, 0, 100000), (941, 942, 0, 100000), (942, 943, 0, 100000), (943, 944, 0, 100000), (944, 945, 0, 100000), (945, 946, 0, 100000), (946, 947, 0, 100000), (947, 948, 0, 100000), (948, 949, 0, 100000), (949, 950, 0, 100000)]
abbrev Q_mo_does__9 (S : sS) (first : Int) : pst := fun r S1 => RI S1 ∧ FR md_mo_does__9 S S1 ∧ (r = none ∧ (RD9 S S1))
set_option maxRecDepth 100000 in
theorem t_mo_does__9 {S : sS} (hH : RI S) (first : Int) (hfirst : 0 ≤ first ∧ first ≤ 5001) (hLS : LSP S) (h15 : 0 ≤ Xi S 904 15) (hRB : RBD S) (hLX : LXR S) (hz0 : Xi S 904 106 = 0) (h7 : rnR S 0 7 ≠ -1) (h17 : rnR S 1 4 = -1 → rnR S 1 0 ≠ -1) (hs : Xi S 904 70 = 9) (d : Nat) : Mp lay0 (d + 8) m_mo_does [.ref 904, iv first] S (Q_mo_does__9 S first) := by
  refine Mp_R rfl rfl (fun fu => ?_)
  have hF : FR md_mo_does__9 S S := FR.rf
  have w1 : -2147483648 ≤ Xi S 904 106 ∧ Xi S 904 106 ≤ 2147483647 := Xi_rgI
  have w2 : -2147483648 ≤ Xi S 904 117 ∧ Xi S 904 117 ≤ 2147483647 := Xi_rgI
  have w3 : -2147483648 ≤ Xi S 904 15 ∧ Xi S 904 15 ≤ 2147483647 := Xi_rgI
  have w4 : -2147483648 ≤ Xi S 904 70 ∧ Xi S 904 70 ≤ 2147483647 := Xi_rgI
  have C300 : ∀ (n300 : Nat) (_ : n300 ≤ fu) (T1 : sS) (_ : RI T1) (_ : FR md_mo_does__9 S T1) (v2 : Int), (-2147483648 ≤ v2 ∧ v2 ≤ 2147483647) → ((1 : Int) = 0) → Pl n300 lay0 (d + 7) m_mo_does 300 [(0, .ref 904), (2, iv v2)] [] T1 (Q_mo_does__9 S first) := by
    intro n300
    induction n300 with
    | zero => intros; exact Pl_0
    | succ n300 ih300 =>
      intro hm300 T1 hHT1 hFT1 v2 w5 w6
      have w7 : Xi T1 904 110 = Xi S 904 110 := hFT1.x _ _ rfl
      have w8 : Xi T1 904 112 = Xi S 904 112 := hFT1.x _ _ rfl
      have w9 : Xi T1 904 142 = Xi S 904 142 := hFT1.x _ _ rfl
      have w10 : Xi T1 904 69 = Xi S 904 69 := hFT1.x _ _ rfl
      have w11 : Xi T1 904 70 = Xi S 904 70 := hFT1.x _ _ rfl
      have w12 : Xi T1 904 71 = Xi S 904 71 := hFT1.x _ _ rfl
      have w13 : Xi T1 904 72 = Xi S 904 72 := hFT1.x _ _ rfl
      have w14 : Xi T1 904 74 = Xi S 904 74 := hFT1.x _ _ rfl
      have w15 : Xi T1 904 78 = Xi S 904 78 := hFT1.x _ _ rfl
      have w16 : Xi T1 904 94 = Xi S 904 94 := hFT1.x _ _ rfl
      have w17 : Xi T1 951 1 = Xi S 951 1 := hFT1.x _ _ rfl
      have w18 : Xi T1 951 2 = Xi S 951 2 := hFT1.x _ _ rfl
      have w19 : Xi T1 967 0 = Xi S 967 0 := hFT1.x _ _ rfl
      have w20 : -2147483648 ≤ Xi T1 904 106 ∧ Xi T1 904 106 ≤ 2147483647 := Xi_rgI
      have w21 : -2147483648 ≤ Xi T1 904 117 ∧ Xi T1 904 117 ≤ 2147483647 := Xi_rgI
      have w22 : -2147483648 ≤ Xi T1 904 15 ∧ Xi T1 904 15 ≤ 2147483647 := Xi_rgI
      have w23 : -2147483648 ≤ Xi T1 904 70 ∧ Xi T1 904 70 ≤ 2147483647 := Xi_rgI
      exfalso; omega
  refine y_aload_n rfl rfl ?_
  refine y_gfi rfl rfl rfl rfl rfl ?_
  refine y_tsw rfl rfl rfl rfl (by unfold rg; omega) (fun w24 => ?_) (fun ii tt hii w24 => ?_)
  · refine y_return rfl rfl ?_
    exact ⟨hH, hF, rfl, (by first | (have t := K285; exact o285) | (exfalso; omega))⟩
  · match ii, hii with
    | 0, hii =>
      cases hii
      have w25 : (Xi S 904 70) = 0 := by simpa using w24
      exfalso; omega
    | 1, hii =>
      cases hii
      have w26 : (Xi S 904 70) = 1 := by simpa using w24
      exfalso; omega
    | 2, hii =>
      cases hii
      have w27 : (Xi S 904 70) = 2 := by simpa using w24
      exfalso; omega
    | 3, hii =>
      cases hii
      have w28 : (Xi S 904 70) = 3 := by simpa using w24
      refine y_return rfl rfl ?_
      exact ⟨hH, hF, rfl, (by first | (have t := K285; exact o285) | (exfalso; omega))⟩
    | 4, hii =>
      cases hii
      have w29 : (Xi S 904 70) = 4 := by simpa using w24
      refine y_return rfl rfl ?_
      exact ⟨hH, hF, rfl, (by first | (have t := K285; exact o285) | (exfalso; omega))⟩
    | 5, hii =>
      cases hii
      have w30 : (Xi S 904 70) = 5 := by simpa using w24
      refine y_return rfl rfl ?_
      exact ⟨hH, hF, rfl, (by first | (have t := K285; exact o285) | (exfalso; omega))⟩
    | 6, hii =>
      cases hii
      have w31 : (Xi S 904 70) = 6 := by simpa using w24
      refine y_return rfl rfl ?_
      exact ⟨hH, hF, rfl, (by first | (have t := K285; exact o285) | (exfalso; omega))⟩
    | 7, hii =>
      cases hii
      have w32 : (Xi S 904 70) = 7 := by simpa using w24
      exfalso; omega
    | 8, hii =>
      cases hii
      have w33 : (Xi S 904 70) = 8 := by simpa using w24
      exfalso; omega
    | 9, hii =>
      cases hii
      have w34 : (Xi S 904 70) = 9 := by simpa using w24
      refine y_aload_n rfl rfl ?_
      refine y_callV rfl rfl rfl (t_mo_doProperty__p hH (by first | assumption | exact (by assumption : LSP S)) (by first | assumption | omega) (by first | assumption | exact (RBD_FR hF rfl (by assumption : RBD S))) (by first | assumption | exact (by assumption : LXR S)) (by first | assumption | omega) (by first | assumption | omega) (by first | assumption | omega) _) ?_
      rintro _ T2 ⟨hHT2, w36, rfl, o285⟩
      have hFT2 : FR md_mo_does__9 S T2 := FR.tr hF w36 rfl
      show Pl _ _ _ _ _ _ [] _ _
      have K285 : True := trivial
      refine y_goto rfl rfl ?_
      refine y_return rfl rfl ?_
      exact ⟨hHT2, hFT2, rfl, (by first | (have t := K285; exact o285) | (exfalso; omega))⟩
    | 10, hii =>
      cases hii
      have w40 : (Xi S 904 70) = 10 := by simpa using w24
      exfalso; omega
    | 11, hii =>
      cases hii
      have w41 : (Xi S 904 70) = 11 := by simpa using w24
      exfalso; omega
    | 12, hii =>
      cases hii
      have w42 : (Xi S 904 70) = 12 := by simpa using w24
      exfalso; omega
    | 13, hii =>
      cases hii
      have w43 : (Xi S 904 70) = 13 := by simpa using w24
      exfalso; omega
    | 14, hii =>
      cases hii
      have w44 : (Xi S 904 70) = 14 := by simpa using w24
      exfalso; omega
    | 15, hii =>
      cases hii
      have w45 : (Xi S 904 70) = 15 := by simpa using w24
      exfalso; omega
    | 16, hii =>
      cases hii
      have w46 : (Xi S 904 70) = 16 := by simpa using w24
      exfalso; omega
    | 17, hii =>
      cases hii
      have w47 : (Xi S 904 70) = 17 := by simpa using w24
      exfalso; omega
    | 18, hii =>
      cases hii
      have w48 : (Xi S 904 70) = 18 := by simpa using w24
      exfalso; omega
    | 19, hii =>
      cases hii
      have w49 : (Xi S 904 70) = 19 := by simpa using w24
      exfalso; omega
    | 20, hii =>
      cases hii
      have w50 : (Xi S 904 70) = 20 := by simpa using w24
      exfalso; omega
    | n + 21, hii => exact absurd hii (by simp)
end
section
/-! 15, 16: the class tells -/
theorem rlF_b {S : sS} {k a b v : Int} : -1 ≤ rlF S k a b v ∧ rlF S k a b v ≤ 11 := by
  unfold rlF
  split
  · omega
  · exact rln_rg 12 0 (-1) (by omega) (by omega) (by omega) (by omega)
/-- the object that a name of the LIST means -/
def oL (S : sS) (i : Nat) : Int := fnd S 2 (kr7 (ty7 S) i) (re7 (ty7 S) (kr7 (ty7 S) i))
def TOO (S S1 : sS) (z : Int) : Prop := (z = 1 → S1 = S ∧ ∀ i : Nat, i < nL S → oL S i ≠ -1) ∧ (z = 0 → ∃ i : Nat, i < nL S ∧ (∀ k : Nat, k < i → oL S k ≠ -1) ∧ oL S i = -1 ∧ FTO S S1 4 (kr7 (ty7 S) i))
/-- usually -/
def TUS (g : List rec) (S S1 : sS) (z a e w f : Int) : Prop :=
  (fnd S 0 a e = -1 → z = 0 ∧ FTO S S1 4 a) ∧
  (fnd S 0 a e ≠ -1 → sn2 S ≠ -1 → z = 0 ∧ FTO S S1 4 (sn2 S)) ∧
  (fnd S 0 a e ≠ -1 → sn2 S = -1 → raF S (fnd S 0 a e) w f 1 0 ≠ 1 → z = 0 ∧ FTO S S1 (if raF S (fnd S 0 a e) w f 1 0 = 0 then 4 else 7) w) ∧
  (fnd S 0 a e ≠ -1 → sn2 S = -1 → raF S (fnd S 0 a e) w f 1 0 = 1 → ∃ (A B : sS) (y : Int), FR g S A ∧ T1C A B y (24 + fnd S 0 a e) (mnV S w f % 256) (rlF S (fnd S 0 a e) w f 1) 1 ∧ (y = 1 → z = 1 ∧ S1 = B ∧ Xi S1 876 8 = 0) ∧ (y ≠ 1 → z = 0 ∧ FTO S S1 5 a))
theorem tus_1 {g : List rec} {S S1 : sS} {z a e w f : Int} (h : fnd S 0 a e = -1) (hz : z = 0) (t : FTO S S1 4 a) : TUS g S S1 z a e w f := ⟨fun _ => ⟨hz, t⟩, fun q => absurd h q, fun q => absurd h q, fun q => absurd h q⟩
theorem tus_2 {g : List rec} {S S1 : sS} {z a e w f : Int} (h : fnd S 0 a e ≠ -1) (k : sn2 S ≠ -1) (hz : z = 0) (t : FTO S S1 4 (sn2 S)) : TUS g S S1 z a e w f := ⟨fun q => absurd q h, fun _ _ => ⟨hz, t⟩, fun _ q => absurd q k, fun _ q => absurd q k⟩
theorem tus_3 {g : List rec} {S S1 : sS} {z a e w f c : Int} (h : fnd S 0 a e ≠ -1) (k : sn2 S = -1) (n : raF S (fnd S 0 a e) w f 1 0 ≠ 1) (hc : c = if raF S (fnd S 0 a e) w f 1 0 = 0 then 4 else 7) (hz : z = 0) (t : FTO S S1 c w) : TUS g S S1 z a e w f := ⟨fun q => absurd q h, fun _ q => absurd k q, fun _ _ _ => ⟨hz, by rw [← hc]; exact t⟩, fun _ _ q => absurd q n⟩
theorem tus_4 {g : List rec} {S S1 A B : sS} {z a e w f y : Int} (h : fnd S 0 a e ≠ -1) (k : sn2 S = -1) (n : raF S (fnd S 0 a e) w f 1 0 = 1) (F : FR g S A) (t : T1C A B y (24 + fnd S 0 a e) (mnV S w f % 256) (rlF S (fnd S 0 a e) w f 1) 1) (c1 : y = 1 → z = 1 ∧ S1 = B ∧ Xi S1 876 8 = 0) (c2 : y ≠ 1 → z = 0 ∧ FTO S S1 5 a) : TUS g S S1 z a e w f := ⟨fun q => absurd q h, fun _ q => absurd k q, fun _ _ q => absurd n q, fun _ _ _ => ⟨A, B, y, F, t, c1, c2⟩⟩
theorem mk15_f {S : sS} {a b : Int} (h : MK15 S) : fnd S 0 a b ≤ 15 := by
  unfold fnd
  split
  · next q => exact h a b q
  · omega

def md_re_takeOldObjects__p : List rec := [(876, 877, 8, 9), (876, 877, 9, 10)]
abbrev Q_re_takeOldObjects__p (S : sS) : pst := fun r S1 => RI S1 ∧ FR md_re_takeOldObjects__p S S1 ∧ (∃ z : Int, r = some (iv z) ∧ (0 ≤ z ∧ z ≤ 1) ∧ (TOO S S1 z))
set_option maxRecDepth 100000 in
theorem t_re_takeOldObjects__p {S : sS} (hH : RI S) (h13 : 0 ≤ Xi S 1 3 ∧ Xi S 1 3 ≤ 200) (hCE : CEN S) (hf : Xi S 876 8 = 0) (hr : Xi S 876 7 ≤ 5130) (ht : 0 ≤ Xi S 890 3 ∧ Xi S 890 3 ≤ 5125) (d : Nat) : Mp lay0 (d + 3) m_re_takeOldObjects [.ref 891] S (Q_re_takeOldObjects__p S) := by
  refine Mp_R rfl rfl (fun fu => ?_)
  have hF : FR md_re_takeOldObjects__p S S := FR.rf
  have w1 : -2147483648 ≤ Xi S 1 3 ∧ Xi S 1 3 ≤ 2147483647 := Xi_rgI
  have w2 : -2147483648 ≤ Xi S 876 7 ∧ Xi S 876 7 ≤ 2147483647 := Xi_rgI
  have w3 : -2147483648 ≤ Xi S 876 8 ∧ Xi S 876 8 ≤ 2147483647 := Xi_rgI
  have w4 : -2147483648 ≤ Xi S 890 3 ∧ Xi S 890 3 ≤ 2147483647 := Xi_rgI
  have C2 : ∀ (n2 : Nat) (_ : n2 ≤ fu) (v1 : Int), (0 ≤ v1 ∧ v1 ≤ 5125) → (0 ≤ v1 ∧ v1 ≤ Xi S 890 3) → (S = S) → (Hid (∀ k : Nat, k < cR (ty7 S) (v1).toNat → oL S k ≠ -1)) → Pl n2 lay0 (d + 2) m_re_takeOldObjects 2 [(0, .ref 891), (1, iv v1)] [] S (Q_re_takeOldObjects__p S) := by
    intro n2
    induction n2 with
    | zero => intros; exact Pl_0
    | succ n2 ih2 =>
      intro hm2 v1 w5 w6 e2 L2
      refine ys_iload_n rfl rfl ?_
      refine y_aload_n rfl rfl ?_
      refine y_gfr rfl rfl rfl rfl rfl (hH.r 891 1 890 rfl) ?_
      refine y_gfi rfl rfl rfl rfl rfl ?_
      refine y_icmp_ge rfl rfl (by unfold rg; omega) (by unfold rg; omega) (fun w7 => ?_) (fun w8 => ?_)
      · refine y_iconst rfl ?_
        refine y_ireturn rfl rfl ?_
        exact ⟨hH, hF, _, rfl, ⟨by omega, by omega⟩, (by first | (have t := K48; exact ⟨fun q => absurd q (by omega), fun _ => ⟨_, l48, L2.o, by omega, Y48⟩⟩) | exact ⟨fun _ => ⟨e2, fun i hi => L2.o i (by rw [show v1 = Xi S 890 3 by omega]; exact hi)⟩, fun q => absurd q (by omega)⟩)⟩
      · refine y_aload_n rfl rfl ?_
        refine y_iload_n rfl rfl ?_
        refine y_callV rfl rfl rfl (t_re_beginsName__p hH v1 ⟨by omega, by omega⟩ _) ?_
        rintro _ _ ⟨rfl, z9, rfl, w9, v15⟩
        show Pl _ _ _ _ _ _ [iv z9] _ _
        have V15 : Hid ((z9 = 1 → bg7 (ty7 S) v1 ∧ v1 < Xi S 890 3) ∧ (z9 = 0 → v1 < Xi S 890 3 → ¬ bg7 (ty7 S) v1)) := by have t := v15; rw [e2] at t; exact t
        clear v15
        refine y_if_eq rfl rfl (by unfold rg; omega) (fun w10 => ?_) (fun w11 => ?_)
        · refine y_iinc rfl rfl rfl rfl ?_
          have L52 : Hid (∀ k : Nat, k < cR (ty7 S) (v1 + 1).toNat → oL S k ≠ -1) := by first | (have t := K35; rw [cR_y (by omega) B21]; exact fun k hk => by by_cases w : k = cR (ty7 S) v1.toNat; (rw [w, ← o35]; omega); exact L2.o k (by omega)) | (rw [cR_n (by omega) (V15.o.2 (by omega) (by omega))]; exact L2.o)
          refine y_goto rfl rfl ?_
          exact Pl_weak (ih2 (by omega) ((v1 + 1)) (by omega) (by omega) (by first | exact e2 | rfl) (by first | exact L52 | exact fun k hk => absurd hk (Nat.not_lt_zero _))) (by omega) (And.intro rfl (And.intro rfl (True.intro)))
        · refine y_aload_n rfl rfl ?_
          have B21 : bg7 (ty7 S) v1 := (V15.o.1 (by omega)).1
          have k21 : kr7 (ty7 S) (cR (ty7 S) v1.toNat) = v1 := cR_b (ty_nf hr) (by omega) (by omega) (by omega) B21
          refine y_gfr rfl rfl rfl rfl rfl (hH.r 891 4 895 rfl) ?_
          refine y_iconst rfl ?_
          refine y_iload_n rfl rfl ?_
          refine y_aload_n rfl rfl ?_
          refine y_gfr rfl rfl rfl rfl rfl (hH.r 891 0 876 rfl) ?_
          refine y_iload_n rfl rfl ?_
          refine y_callV rfl rfl rfl (t_to_runEnd__p hH v1 ⟨by omega, by omega⟩ _) ?_
          rintro _ _ ⟨rfl, z14, rfl, w14, w12, w13⟩
          show Pl _ _ _ _ _ _ [iv z14, iv v1, iv 2, .ref 895] _ _
          have gq32 := w12
          clear w12
          refine y_callV rfl rfl rfl (t_me_find__p hH 2 v1 z14 ⟨by omega, by omega⟩ ⟨by omega, by omega⟩ ⟨by omega, by omega⟩ (by first | assumption | omega) (by first | assumption | exact (CEN_FR hF rfl rfl (by assumption : CEN S))) _) ?_
          rintro _ _ ⟨rfl, z15, rfl, w15, v35⟩
          show Pl _ _ _ _ _ _ [iv z15] _ _
          have K35 : True := trivial
          have o35 : z15 = oL S (cR (ty7 S) v1.toNat) := by have t := v35; rw [← gq32, e2] at t; unfold oL; rw [k21]; exact t
          clear v35
          refine y_iconst rfl ?_
          refine y_icmp_ne rfl rfl (by unfold rg; omega) (by unfold rg; omega) (fun w16 => ?_) (fun w17 => ?_)
          · refine y_iinc rfl rfl rfl rfl ?_
            have L52 : Hid (∀ k : Nat, k < cR (ty7 S) (v1 + 1).toNat → oL S k ≠ -1) := by first | (have t := K35; rw [cR_y (by omega) B21]; exact fun k hk => by by_cases w : k = cR (ty7 S) v1.toNat; (rw [w, ← o35]; omega); exact L2.o k (by omega)) | (rw [cR_n (by omega) (V15.o.2 (by omega) (by omega))]; exact L2.o)
            refine y_goto rfl rfl ?_
            exact Pl_weak (ih2 (by omega) ((v1 + 1)) (by omega) (by omega) (by first | exact e2 | rfl) (by first | exact L52 | exact fun k hk => absurd hk (Nat.not_lt_zero _))) (by omega) (And.intro rfl (And.intro rfl (True.intro)))
          · refine y_aload_n rfl rfl ?_
            refine y_gfr rfl rfl rfl rfl rfl (hH.r 891 0 876 rfl) ?_
            refine y_iconst rfl ?_
            refine y_iload_n rfl rfl ?_
            refine y_callV rfl rfl rfl (t_to_wrong__p hH 4 v1 ⟨by omega, by omega⟩ ⟨by omega, by omega⟩ _) ?_
            rintro _ T1 ⟨hHT1, w21, z20, rfl, w20, w18, f48, w19⟩
            have hFT1 : FR md_re_takeOldObjects__p S T1 := FR.tr hF w21 rfl
            show Pl _ _ _ _ _ _ [iv z20] _ _
            have K48 : True := trivial
            have l48 : cR (ty7 S) v1.toNat < nL S := cR_l (by omega) (by omega) B21
            have Y48 : FTO S T1 4 (kr7 (ty7 S) (cR (ty7 S) v1.toNat)) := by have t := f48 (by rw [e2]; exact hf); rw [e2] at t; rw [k21]; exact t
            refine y_ireturn rfl (retI_z (by omega)) ?_
            have w24 : Xi T1 890 3 = Xi S 890 3 := (show Xi T1 890 3 = Xi S 890 3 from w21.x _ _ rfl)
            exact ⟨hHT1, hFT1, _, rfl, ⟨by omega, by omega⟩, (by first | (have t := K48; exact ⟨fun q => absurd q (by omega), fun _ => ⟨_, l48, L2.o, by omega, Y48⟩⟩) | exact ⟨fun _ => ⟨e2, fun i hi => L2.o i (by rw [show v1 = Xi S 890 3 by omega]; exact hi)⟩, fun q => absurd q (by omega)⟩)⟩
  refine y_iconst rfl ?_
  refine y_istore_n rfl rfl rfl ?_
  exact Pl_weak (C2 fu (by omega) (0) (by omega) (by omega) (by first | exact e2 | rfl) (by first | exact L52 | exact fun k hk => absurd hk (Nat.not_lt_zero _))) (by omega) (And.intro rfl (And.intro rfl (True.intro)))
def md_re_tellUsually__p : List rec := [(25, 65, 0, 100000), (66, 106, 0, 100000), (107, 147, 0, 100000), (148, 188, 0, 100000), (876, 877, 8, 9), (876, 877, 9, 10), (895, 896, 8, 9), (895, 896, 9, 10)]
abbrev Q_re_tellUsually__p (S : sS) : pst := fun r S1 => RI S1 ∧ FR md_re_tellUsually__p S S1 ∧ (∃ z : Int, r = some (iv z) ∧ (0 ≤ z ∧ z ≤ 1) ∧ (TUS md_me_readAdjective__p S S1 z (bA (ty7 S) 0) (re7 (ty7 S) (bA (ty7 S) 0)) (Xi S 890 3 + 2) (re7 (ty7 S) (Xi S 890 3 + 2))))
set_option maxRecDepth 100000 in
theorem t_re_tellUsually__p {S : sS} (hH : RI S) (h13 : 0 ≤ Xi S 1 3 ∧ Xi S 1 3 ≤ 200) (hCE : CEN S) (hf : Xi S 876 8 = 0) (hr : Xi S 876 7 ≤ 5130) (ht : 0 ≤ Xi S 890 3 ∧ Xi S 890 3 ≤ 5125) (hX : TX S) (hfn : FN1 S) (hmk : Hid (MK15 S)) (d : Nat) : Mp lay0 (d + 4) m_re_tellUsually [.ref 891] S (Q_re_tellUsually__p S) := by
  refine Mp_R rfl rfl (fun fu => ?_)
  have hF : FR md_re_tellUsually__p S S := FR.rf
  have w1 : -2147483648 ≤ Xi S 1 3 ∧ Xi S 1 3 ≤ 2147483647 := Xi_rgI
  have w2 : -2147483648 ≤ Xi S 876 7 ∧ Xi S 876 7 ≤ 2147483647 := Xi_rgI
  have w3 : -2147483648 ≤ Xi S 876 8 ∧ Xi S 876 8 ≤ 2147483647 := Xi_rgI
  have w4 : -2147483648 ≤ Xi S 890 3 ∧ Xi S 890 3 ≤ 2147483647 := Xi_rgI
  have w5 : -2147483648 ≤ Xi S 895 8 ∧ Xi S 895 8 ≤ 2147483647 := Xi_rgI
  have w6 : -2147483648 ≤ Xi S 895 9 ∧ Xi S 895 9 ≤ 2147483647 := Xi_rgI
  refine y_aload_n rfl rfl ?_
  refine y_gfr rfl rfl rfl rfl rfl (hH.r 891 0 876 rfl) ?_
  refine y_iconst rfl ?_
  refine y_callV rfl rfl rfl (t_to_behindArt__p hH 0 ⟨by omega, by omega⟩ _) ?_
  rintro _ _ ⟨rfl, z9, rfl, w9, w7, w8⟩
  show Pl _ _ _ _ _ _ [iv z9] _ _
  have gq5 := w7
  clear w7
  refine y_istore_n rfl rfl rfl ?_
  refine y_aload_n rfl rfl ?_
  refine y_gfr rfl rfl rfl rfl rfl (hH.r 891 4 895 rfl) ?_
  refine y_iconst rfl ?_
  refine y_iload_n rfl rfl ?_
  refine y_aload_n rfl rfl ?_
  refine y_gfr rfl rfl rfl rfl rfl (hH.r 891 0 876 rfl) ?_
  refine y_iload_n rfl rfl ?_
  refine y_callV rfl rfl rfl (t_to_runEnd__p hH z9 ⟨by omega, by omega⟩ _) ?_
  rintro _ _ ⟨rfl, z12, rfl, w12, w10, w11⟩
  show Pl _ _ _ _ _ _ [iv z12, iv z9, iv 0, .ref 895] _ _
  have gq20 := w10
  clear w10
  refine y_callV rfl rfl rfl (t_me_find__p hH 0 z9 z12 ⟨by omega, by omega⟩ ⟨by omega, by omega⟩ ⟨by omega, by omega⟩ (by first | assumption | omega) (by first | assumption | exact (CEN_FR hF rfl rfl (by assumption : CEN S))) _) ?_
  rintro _ _ ⟨rfl, z13, rfl, w13, v23⟩
  show Pl _ _ _ _ _ _ [iv z13] _ _
  have k23 : z13 = fnd S 0 (bA (ty7 S) 0) (re7 (ty7 S) (bA (ty7 S) 0)) := by have t := v23; rw [← gq20, ← gq5] at t; exact t
  clear v23
  have b23 := fnd_rg (S := S) (s := 0) (a := (bA (ty7 S) 0)) (b := (re7 (ty7 S) (bA (ty7 S) 0))) hCE (by omega)
  refine y_istore_n rfl rfl rfl ?_
  refine y_aload_n rfl rfl ?_
  refine y_gfr rfl rfl rfl rfl rfl (hH.r 891 1 890 rfl) ?_
  refine y_gfi rfl rfl rfl rfl rfl ?_
  refine y_iconst rfl ?_
  refine y_iadd rfl ?_
  refine y_istore_n rfl rfl rfl ?_
  refine y_iload_n rfl rfl ?_
  refine y_iconst rfl ?_
  refine y_icmp_eq rfl rfl (by unfold rg; omega) (by unfold rg; omega) (fun w14 => ?_) (fun w15 => ?_)
  · refine y_aload_n rfl rfl ?_
    refine y_gfr rfl rfl rfl rfl rfl (hH.r 891 0 876 rfl) ?_
    refine y_iconst rfl ?_
    refine y_iload_n rfl rfl ?_
    refine y_iconst rfl ?_
    refine y_icmp_ne rfl rfl (by unfold rg; omega) (by unfold rg; omega) (fun w16 => ?_) (fun w17 => ?_)
    · exfalso; omega
    · refine y_iload_n rfl rfl ?_
      refine y_goto rfl rfl ?_
      refine y_callV rfl rfl rfl (t_to_wrong__p hH 4 z9 ⟨by omega, by omega⟩ ⟨by omega, by omega⟩ _) ?_
      rintro _ T1 ⟨hHT1, w21, z20, rfl, w20, w18, f68, w19⟩
      have hFT1 : FR md_re_tellUsually__p S T1 := FR.tr hF w21 rfl
      show Pl _ _ _ _ _ _ [iv z20] _ _
      have Y68 : FTO S T1 4 (if fnd S 0 (bA (ty7 S) 0) (re7 (ty7 S) (bA (ty7 S) 0)) = -1 then (bA (ty7 S) 0) else sn2 S) := by have t := f68 hf; first | (rw [if_neg (by omega), ← v65]; exact t) | (rw [if_pos (by omega), gq5]; exact t)
      refine y_ireturn rfl (retI_z (by omega)) ?_
      have w22 : Xi T1 1 3 = Xi S 1 3 := (show Xi T1 1 3 = Xi S 1 3 from w21.x _ _ rfl)
      have w23 : Xi T1 876 7 = Xi S 876 7 := (show Xi T1 876 7 = Xi S 876 7 from w21.x _ _ rfl)
      have w24 : Xi T1 890 3 = Xi S 890 3 := (show Xi T1 890 3 = Xi S 890 3 from w21.x _ _ rfl)
      have w25 : Xi T1 895 8 = Xi S 895 8 := (show Xi T1 895 8 = Xi S 895 8 from w21.x _ _ rfl)
      have w26 : Xi T1 895 9 = Xi S 895 9 := (show Xi T1 895 9 = Xi S 895 9 from w21.x _ _ rfl)
      exact ⟨hHT1, hFT1, _, rfl, ⟨by omega, by omega⟩, (by first | (have t := K151; exact tus_4 (by omega) s72 r119 F88 O139.o (fun q => absurd q (by omega)) (fun _ => ⟨by omega, Y151⟩)) | (have t := K139; exact tus_4 (by omega) s72 r119 F88 O139.o (fun _ => ⟨by omega, rfl, f139⟩) (fun q => absurd (by omega) q)) | (have t := K115; exact tus_3 (by omega) s72 r114 rfl (by omega) Y115) | (have t := K65; exact tus_2 (by omega) (by omega) (by omega) (by have u := Y68; rw [if_neg (by omega)] at u; exact u)) | exact tus_1 (by omega) (by omega) (by have u := Y68; rw [if_pos (by omega)] at u; exact u))⟩
  · refine y_aload_n rfl rfl ?_
    refine y_callV rfl rfl rfl (t_re_secondName__p hH (by first | assumption | omega) (by first | assumption | omega) (by first | assumption | omega) _) ?_
    rintro _ _ ⟨rfl, z27, rfl, w27, v43⟩
    show Pl _ _ _ _ _ _ [iv z27] _ _
    have K43 : True := trivial
    refine y_iconst rfl ?_
    refine y_icmp_eq rfl rfl (by unfold rg; omega) (by unfold rg; omega) (fun w28 => ?_) (fun w29 => ?_)
    · refine y_aload_n rfl rfl ?_
      have s72 : sn2 S = -1 := by omega
      have d72 := mk15_f (a := (bA (ty7 S) 0)) (b := (re7 (ty7 S) (bA (ty7 S) 0))) hmk.o
      refine y_gfr rfl rfl rfl rfl rfl (hH.r 891 4 895 rfl) ?_
      refine y_iload_n rfl rfl ?_
      refine y_iload_n rfl rfl ?_
      refine y_aload_n rfl rfl ?_
      refine y_gfr rfl rfl rfl rfl rfl (hH.r 891 0 876 rfl) ?_
      refine y_iload_n rfl rfl ?_
      refine y_callV rfl rfl rfl (t_to_runEnd__p hH ((Xi S 890 3) + 2) ⟨by omega, by omega⟩ _) ?_
      rintro _ _ ⟨rfl, z32, rfl, w32, w30, w31⟩
      show Pl _ _ _ _ _ _ [iv z32, iv ((Xi S 890 3) + 2), iv z13, .ref 895] _ _
      have gq83 := w30
      clear w30
      refine y_iconst rfl ?_
      refine y_iconst rfl ?_
      refine y_callV rfl rfl rfl (t_me_readAdjective__p hH z13 ((Xi S 890 3) + 2) z32 1 0 ⟨by omega, by omega⟩ ⟨by omega, by omega⟩ ⟨by omega, by omega⟩ ⟨by omega, by omega⟩ ⟨by omega, by omega⟩ (by first | assumption | omega) (by first | assumption | exact (CEN_FR hF rfl rfl (by assumption : CEN S))) _) ?_
      rintro _ T2 ⟨hHT2, w34, z33, rfl, w33, v88, m88, p88⟩
      have hFT2 : FR md_re_tellUsually__p S T2 := FR.tr hF w34 rfl
      show Pl _ _ _ _ _ _ [iv z33] _ _
      have F88 := (by assumption : FR md_me_readAdjective__p S T2)
      have e88 : z33 = raF S (fnd S 0 (bA (ty7 S) 0) (re7 (ty7 S) (bA (ty7 S) 0))) (Xi S 890 3 + 2) (re7 (ty7 S) (Xi S 890 3 + 2)) 1 0 := by have t := v88; rw [k23, ← gq83] at t; exact t
      have n88 : Xi T2 895 8 = mnV S (Xi S 890 3 + 2) (re7 (ty7 S) (Xi S 890 3 + 2)) % 256 := by have t := m88; rw [← gq83] at t; exact t
      have q88 : Xi T2 895 9 = rlF S (fnd S 0 (bA (ty7 S) 0) (re7 (ty7 S) (bA (ty7 S) 0))) (Xi S 890 3 + 2) (re7 (ty7 S) (Xi S 890 3 + 2)) 1 := by have t := p88; rw [k23, ← gq83] at t; exact t
      clear v88 m88 p88
      have rb88 := rlF_b (S := S) (k := fnd S 0 (bA (ty7 S) 0) (re7 (ty7 S) (bA (ty7 S) 0))) (a := (Xi S 890 3 + 2)) (b := (re7 (ty7 S) (Xi S 890 3 + 2))) (v := 1)
      have x88 : Xi T2 876 8 = 0 := (F88.x 876 8 rfl).trans hf
      have X88 : TX T2 := TX_FR F88 rfl hX
      refine y_istore rfl rfl rfl ?_
      refine y_iload rfl rfl ?_
      refine y_iconst rfl ?_
      refine y_icmp_eq rfl rfl (by unfold rg; omega) (by unfold rg; omega) (fun w35 => ?_) (fun w36 => ?_)
      · refine y_aload_n rfl rfl ?_
        have r119 : raF S (fnd S 0 (bA (ty7 S) 0) (re7 (ty7 S) (bA (ty7 S) 0))) (Xi S 890 3 + 2) (re7 (ty7 S) (Xi S 890 3 + 2)) 1 0 = 1 := by omega
        refine y_bipush rfl rfl ?_
        refine y_iload_n rfl rfl ?_
        refine y_iadd rfl ?_
        refine y_aload_n rfl rfl ?_
        refine y_gfr rfl rfl rfl rfl rfl (hHT2.r 891 4 895 rfl) ?_
        refine y_gfi rfl rfl rfl rfl rfl ?_
        have w37 : -2147483648 ≤ (Xi T2 895 8) ∧ (Xi T2 895 8) ≤ 2147483647 := Xi_rgI
        refine y_aload_n rfl rfl ?_
        refine y_gfr rfl rfl rfl rfl rfl (hHT2.r 891 4 895 rfl) ?_
        refine y_gfi rfl rfl rfl rfl rfl ?_
        have w38 : -2147483648 ≤ (Xi T2 895 9) ∧ (Xi T2 895 9) ≤ 2147483647 := Xi_rgI
        refine y_iconst rfl ?_
        have w41 : Xi T2 876 8 = Xi S 876 8 := (show Xi T2 876 8 = Xi S 876 8 from w34.x _ _ rfl)
        have w42 : Xi T2 890 3 = Xi S 890 3 := (show Xi T2 890 3 = Xi S 890 3 from w34.x _ _ rfl)
        refine y_callV rfl rfl rfl (t_re_tellOne__p hHT2 (24 + z13) (Xi T2 895 8) (Xi T2 895 9) 1 ⟨by omega, by omega⟩ ⟨by omega, by omega⟩ ⟨by omega, by omega⟩ ⟨by omega, by omega⟩ (by first | assumption | exact (TX_FR w34 rfl (by first | assumption | exact (by assumption : WI S).2.1 : TX S))) _) ?_
        rintro _ T3 ⟨hHT3, w45, z44, rfl, w44, o139, w43⟩
        have hFT3 : FR md_re_tellUsually__p S T3 := FR.tr hFT2 w45 rfl
        show Pl _ _ _ _ _ _ [iv z44] _ _
        have K139 : True := trivial
        have O139 : Hid (T1C T2 T3 z44 (24 + fnd S 0 (bA (ty7 S) 0) (re7 (ty7 S) (bA (ty7 S) 0))) (mnV S (Xi S 890 3 + 2) (re7 (ty7 S) (Xi S 890 3 + 2)) % 256) (rlF S (fnd S 0 (bA (ty7 S) 0) (re7 (ty7 S) (bA (ty7 S) 0))) (Xi S 890 3 + 2) (re7 (ty7 S) (Xi S 890 3 + 2)) 1) 1) := by have t := o139; rw [k23, n88, q88] at t; exact t
        clear o139
        have G139 := (by assumption : FR md_re_tellOne__p T2 T3)
        have f139 : Xi T3 876 8 = 0 := (G139.x 876 8 rfl).trans x88
        refine y_if_ne rfl rfl (by unfold rg; omega) (fun w46 => ?_) (fun w47 => ?_)
        · refine y_iconst rfl ?_
          refine y_goto rfl rfl ?_
          refine y_ireturn rfl rfl ?_
          have w48 : Xi T3 1 3 = Xi S 1 3 := (show Xi T3 1 3 = Xi T2 1 3 from w45.x _ _ rfl).trans ((show Xi T2 1 3 = Xi S 1 3 from w34.x _ _ rfl))
          have w49 : Xi T3 876 7 = Xi S 876 7 := (show Xi T3 876 7 = Xi T2 876 7 from w45.x _ _ rfl).trans ((show Xi T2 876 7 = Xi S 876 7 from w34.x _ _ rfl))
          have w50 : Xi T3 876 8 = Xi S 876 8 := (show Xi T3 876 8 = Xi T2 876 8 from w45.x _ _ rfl).trans ((show Xi T2 876 8 = Xi S 876 8 from w34.x _ _ rfl))
          have w51 : Xi T3 890 3 = Xi S 890 3 := (show Xi T3 890 3 = Xi T2 890 3 from w45.x _ _ rfl).trans ((show Xi T2 890 3 = Xi S 890 3 from w34.x _ _ rfl))
          have w52 : Xi T3 895 8 = Xi T2 895 8 := (show Xi T3 895 8 = Xi T2 895 8 from w45.x _ _ rfl)
          have w53 : Xi T3 895 9 = Xi T2 895 9 := (show Xi T3 895 9 = Xi T2 895 9 from w45.x _ _ rfl)
          exact ⟨hHT3, hFT3, _, rfl, ⟨by omega, by omega⟩, (by first | (have t := K151; exact tus_4 (by omega) s72 r119 F88 O139.o (fun q => absurd q (by omega)) (fun _ => ⟨by omega, Y151⟩)) | (have t := K139; exact tus_4 (by omega) s72 r119 F88 O139.o (fun _ => ⟨by omega, rfl, f139⟩) (fun q => absurd (by omega) q)) | (have t := K115; exact tus_3 (by omega) s72 r114 rfl (by omega) Y115) | (have t := K65; exact tus_2 (by omega) (by omega) (by omega) (by have u := Y68; rw [if_neg (by omega)] at u; exact u)) | exact tus_1 (by omega) (by omega) (by have u := Y68; rw [if_pos (by omega)] at u; exact u))⟩
        · refine y_aload_n rfl rfl ?_
          refine y_gfr rfl rfl rfl rfl rfl (hHT3.r 891 0 876 rfl) ?_
          refine y_iconst rfl ?_
          refine y_iload_n rfl rfl ?_
          have w56 : Xi T3 876 8 = Xi S 876 8 := (show Xi T3 876 8 = Xi T2 876 8 from w45.x _ _ rfl).trans ((show Xi T2 876 8 = Xi S 876 8 from w34.x _ _ rfl))
          have w57 : Xi T3 876 9 = Xi S 876 9 := (show Xi T3 876 9 = Xi T2 876 9 from w45.x _ _ rfl).trans ((show Xi T2 876 9 = Xi S 876 9 from w34.x _ _ rfl))
          refine y_callV rfl rfl rfl (t_to_wrong__p hHT3 5 z9 ⟨by omega, by omega⟩ ⟨by omega, by omega⟩ _) ?_
          rintro _ T4 ⟨hHT4, w64, z63, rfl, w63, w61, f151, w62⟩
          have hFT4 : FR md_re_tellUsually__p S T4 := FR.tr hFT3 w64 rfl
          show Pl _ _ _ _ _ _ [iv z63] _ _
          have K151 : True := trivial
          have Y151 : FTO S T4 5 (bA (ty7 S) 0) := by have t := f151 f139; rw [pc7_FR G139 rfl rfl rfl, pc7_FR F88 rfl rfl rfl, ← gq5] at t; exact t
          refine y_if_eq rfl rfl (by unfold rg; omega) (fun w65 => ?_) (fun w66 => ?_)
          · refine y_iconst rfl ?_
            refine y_ireturn rfl rfl ?_
            have w67 : Xi T4 1 3 = Xi S 1 3 := (show Xi T4 1 3 = Xi T3 1 3 from w64.x _ _ rfl).trans ( (show Xi T3 1 3 = Xi T2 1 3 from w45.x _ _ rfl).trans ((show Xi T2 1 3 = Xi S 1 3 from w34.x _ _ rfl)))
            have w68 : Xi T4 876 7 = Xi S 876 7 := (show Xi T4 876 7 = Xi T3 876 7 from w64.x _ _ rfl).trans ( (show Xi T3 876 7 = Xi T2 876 7 from w45.x _ _ rfl).trans ((show Xi T2 876 7 = Xi S 876 7 from w34.x _ _ rfl)))
            have w69 : Xi T4 890 3 = Xi S 890 3 := (show Xi T4 890 3 = Xi T3 890 3 from w64.x _ _ rfl).trans ( (show Xi T3 890 3 = Xi T2 890 3 from w45.x _ _ rfl).trans ((show Xi T2 890 3 = Xi S 890 3 from w34.x _ _ rfl)))
            have w70 : Xi T4 895 8 = Xi T2 895 8 := (show Xi T4 895 8 = Xi T3 895 8 from w64.x _ _ rfl).trans ((show Xi T3 895 8 = Xi T2 895 8 from w45.x _ _ rfl))
            have w71 : Xi T4 895 9 = Xi T2 895 9 := (show Xi T4 895 9 = Xi T3 895 9 from w64.x _ _ rfl).trans ((show Xi T3 895 9 = Xi T2 895 9 from w45.x _ _ rfl))
            exact ⟨hHT4, hFT4, _, rfl, ⟨by omega, by omega⟩, (by first | (have t := K151; exact tus_4 (by omega) s72 r119 F88 O139.o (fun q => absurd q (by omega)) (fun _ => ⟨by omega, Y151⟩)) | (have t := K139; exact tus_4 (by omega) s72 r119 F88 O139.o (fun _ => ⟨by omega, rfl, f139⟩) (fun q => absurd (by omega) q)) | (have t := K115; exact tus_3 (by omega) s72 r114 rfl (by omega) Y115) | (have t := K65; exact tus_2 (by omega) (by omega) (by omega) (by have u := Y68; rw [if_neg (by omega)] at u; exact u)) | exact tus_1 (by omega) (by omega) (by have u := Y68; rw [if_pos (by omega)] at u; exact u))⟩
          · refine y_iconst rfl ?_
            refine y_goto rfl rfl ?_
            refine y_ireturn rfl rfl ?_
            have w72 : Xi T4 1 3 = Xi S 1 3 := (show Xi T4 1 3 = Xi T3 1 3 from w64.x _ _ rfl).trans ( (show Xi T3 1 3 = Xi T2 1 3 from w45.x _ _ rfl).trans ((show Xi T2 1 3 = Xi S 1 3 from w34.x _ _ rfl)))
            have w73 : Xi T4 876 7 = Xi S 876 7 := (show Xi T4 876 7 = Xi T3 876 7 from w64.x _ _ rfl).trans ( (show Xi T3 876 7 = Xi T2 876 7 from w45.x _ _ rfl).trans ((show Xi T2 876 7 = Xi S 876 7 from w34.x _ _ rfl)))
            have w74 : Xi T4 890 3 = Xi S 890 3 := (show Xi T4 890 3 = Xi T3 890 3 from w64.x _ _ rfl).trans ( (show Xi T3 890 3 = Xi T2 890 3 from w45.x _ _ rfl).trans ((show Xi T2 890 3 = Xi S 890 3 from w34.x _ _ rfl)))
            have w75 : Xi T4 895 8 = Xi T2 895 8 := (show Xi T4 895 8 = Xi T3 895 8 from w64.x _ _ rfl).trans ((show Xi T3 895 8 = Xi T2 895 8 from w45.x _ _ rfl))
            have w76 : Xi T4 895 9 = Xi T2 895 9 := (show Xi T4 895 9 = Xi T3 895 9 from w64.x _ _ rfl).trans ((show Xi T3 895 9 = Xi T2 895 9 from w45.x _ _ rfl))
            exact ⟨hHT4, hFT4, _, rfl, ⟨by omega, by omega⟩, (by first | (have t := K151; exact tus_4 (by omega) s72 r119 F88 O139.o (fun q => absurd q (by omega)) (fun _ => ⟨by omega, Y151⟩)) | (have t := K139; exact tus_4 (by omega) s72 r119 F88 O139.o (fun _ => ⟨by omega, rfl, f139⟩) (fun q => absurd (by omega) q)) | (have t := K115; exact tus_3 (by omega) s72 r114 rfl (by omega) Y115) | (have t := K65; exact tus_2 (by omega) (by omega) (by omega) (by have u := Y68; rw [if_neg (by omega)] at u; exact u)) | exact tus_1 (by omega) (by omega) (by have u := Y68; rw [if_pos (by omega)] at u; exact u))⟩
      · refine y_aload_n rfl rfl ?_
        refine y_gfr rfl rfl rfl rfl rfl (hHT2.r 891 0 876 rfl) ?_
        refine y_iload rfl rfl ?_
        refine y_if_ne rfl rfl (by unfold rg; omega) (fun w77 => ?_) (fun w78 => ?_)
        · refine y_bipush rfl rfl ?_
          refine y_iload_n rfl rfl ?_
          have r114 : raF S (fnd S 0 (bA (ty7 S) 0) (re7 (ty7 S) (bA (ty7 S) 0))) (Xi S 890 3 + 2) (re7 (ty7 S) (Xi S 890 3 + 2)) 1 0 ≠ 1 := by omega
          have w79 : Xi T2 1 3 = Xi S 1 3 := (show Xi T2 1 3 = Xi S 1 3 from w34.x _ _ rfl)
          have w80 : Xi T2 876 7 = Xi S 876 7 := (show Xi T2 876 7 = Xi S 876 7 from w34.x _ _ rfl)
          have w81 : Xi T2 876 8 = Xi S 876 8 := (show Xi T2 876 8 = Xi S 876 8 from w34.x _ _ rfl)
          have w82 : Xi T2 876 9 = Xi S 876 9 := (show Xi T2 876 9 = Xi S 876 9 from w34.x _ _ rfl)
          have w83 : Xi T2 890 3 = Xi S 890 3 := (show Xi T2 890 3 = Xi S 890 3 from w34.x _ _ rfl)
          refine y_callV rfl rfl rfl (t_to_wrong__p hHT2 7 ((Xi S 890 3) + 2) ⟨by omega, by omega⟩ ⟨by omega, by omega⟩ _) ?_
          rintro _ T5 ⟨hHT5, w87, z86, rfl, w86, w84, f115, w85⟩
          have hFT5 : FR md_re_tellUsually__p S T5 := FR.tr hFT2 w87 rfl
          show Pl _ _ _ _ _ _ [iv z86] _ _
          have K115 : True := trivial
          have Y115 : FTO S T5 (if raF S (fnd S 0 (bA (ty7 S) 0) (re7 (ty7 S) (bA (ty7 S) 0))) (Xi S 890 3 + 2) (re7 (ty7 S) (Xi S 890 3 + 2)) 1 0 = 0 then 4 else 7) (Xi S 890 3 + 2) := by have t := f115 x88; rw [pc7_FR F88 rfl rfl rfl] at t; first | (rw [if_pos (by omega)]; exact t) | (rw [if_neg (by omega)]; exact t)
          refine y_ireturn rfl (retI_z (by omega)) ?_
          have w88 : Xi T5 1 3 = Xi S 1 3 := (show Xi T5 1 3 = Xi T2 1 3 from w87.x _ _ rfl).trans ((show Xi T2 1 3 = Xi S 1 3 from w34.x _ _ rfl))
          have w89 : Xi T5 876 7 = Xi S 876 7 := (show Xi T5 876 7 = Xi T2 876 7 from w87.x _ _ rfl).trans ((show Xi T2 876 7 = Xi S 876 7 from w34.x _ _ rfl))
          have w90 : Xi T5 890 3 = Xi S 890 3 := (show Xi T5 890 3 = Xi T2 890 3 from w87.x _ _ rfl).trans ((show Xi T2 890 3 = Xi S 890 3 from w34.x _ _ rfl))
          have w91 : Xi T5 895 8 = Xi T2 895 8 := (show Xi T5 895 8 = Xi T2 895 8 from w87.x _ _ rfl)
          have w92 : Xi T5 895 9 = Xi T2 895 9 := (show Xi T5 895 9 = Xi T2 895 9 from w87.x _ _ rfl)
          exact ⟨hHT5, hFT5, _, rfl, ⟨by omega, by omega⟩, (by first | (have t := K151; exact tus_4 (by omega) s72 r119 F88 O139.o (fun q => absurd q (by omega)) (fun _ => ⟨by omega, Y151⟩)) | (have t := K139; exact tus_4 (by omega) s72 r119 F88 O139.o (fun _ => ⟨by omega, rfl, f139⟩) (fun q => absurd (by omega) q)) | (have t := K115; exact tus_3 (by omega) s72 r114 rfl (by omega) Y115) | (have t := K65; exact tus_2 (by omega) (by omega) (by omega) (by have u := Y68; rw [if_neg (by omega)] at u; exact u)) | exact tus_1 (by omega) (by omega) (by have u := Y68; rw [if_pos (by omega)] at u; exact u))⟩
        · refine y_iconst rfl ?_
          refine y_goto rfl rfl ?_
          refine y_iload_n rfl rfl ?_
          have r114 : raF S (fnd S 0 (bA (ty7 S) 0) (re7 (ty7 S) (bA (ty7 S) 0))) (Xi S 890 3 + 2) (re7 (ty7 S) (Xi S 890 3 + 2)) 1 0 ≠ 1 := by omega
          have w93 : Xi T2 1 3 = Xi S 1 3 := (show Xi T2 1 3 = Xi S 1 3 from w34.x _ _ rfl)
          have w94 : Xi T2 876 7 = Xi S 876 7 := (show Xi T2 876 7 = Xi S 876 7 from w34.x _ _ rfl)
          have w95 : Xi T2 876 8 = Xi S 876 8 := (show Xi T2 876 8 = Xi S 876 8 from w34.x _ _ rfl)
          have w96 : Xi T2 876 9 = Xi S 876 9 := (show Xi T2 876 9 = Xi S 876 9 from w34.x _ _ rfl)
          have w97 : Xi T2 890 3 = Xi S 890 3 := (show Xi T2 890 3 = Xi S 890 3 from w34.x _ _ rfl)
          refine y_callV rfl rfl rfl (t_to_wrong__p hHT2 4 ((Xi S 890 3) + 2) ⟨by omega, by omega⟩ ⟨by omega, by omega⟩ _) ?_
          rintro _ T6 ⟨hHT6, w101, z100, rfl, w100, w98, f115, w99⟩
          have hFT6 : FR md_re_tellUsually__p S T6 := FR.tr hFT2 w101 rfl
          show Pl _ _ _ _ _ _ [iv z100] _ _
          have K115 : True := trivial
          have Y115 : FTO S T6 (if raF S (fnd S 0 (bA (ty7 S) 0) (re7 (ty7 S) (bA (ty7 S) 0))) (Xi S 890 3 + 2) (re7 (ty7 S) (Xi S 890 3 + 2)) 1 0 = 0 then 4 else 7) (Xi S 890 3 + 2) := by have t := f115 x88; rw [pc7_FR F88 rfl rfl rfl] at t; first | (rw [if_pos (by omega)]; exact t) | (rw [if_neg (by omega)]; exact t)
          refine y_ireturn rfl (retI_z (by omega)) ?_
          have w102 : Xi T6 1 3 = Xi S 1 3 := (show Xi T6 1 3 = Xi T2 1 3 from w101.x _ _ rfl).trans ((show Xi T2 1 3 = Xi S 1 3 from w34.x _ _ rfl))
          have w103 : Xi T6 876 7 = Xi S 876 7 := (show Xi T6 876 7 = Xi T2 876 7 from w101.x _ _ rfl).trans ((show Xi T2 876 7 = Xi S 876 7 from w34.x _ _ rfl))
          have w104 : Xi T6 890 3 = Xi S 890 3 := (show Xi T6 890 3 = Xi T2 890 3 from w101.x _ _ rfl).trans ((show Xi T2 890 3 = Xi S 890 3 from w34.x _ _ rfl))
          have w105 : Xi T6 895 8 = Xi T2 895 8 := (show Xi T6 895 8 = Xi T2 895 8 from w101.x _ _ rfl)
          have w106 : Xi T6 895 9 = Xi T2 895 9 := (show Xi T6 895 9 = Xi T2 895 9 from w101.x _ _ rfl)
          exact ⟨hHT6, hFT6, _, rfl, ⟨by omega, by omega⟩, (by first | (have t := K151; exact tus_4 (by omega) s72 r119 F88 O139.o (fun q => absurd q (by omega)) (fun _ => ⟨by omega, Y151⟩)) | (have t := K139; exact tus_4 (by omega) s72 r119 F88 O139.o (fun _ => ⟨by omega, rfl, f139⟩) (fun q => absurd (by omega) q)) | (have t := K115; exact tus_3 (by omega) s72 r114 rfl (by omega) Y115) | (have t := K65; exact tus_2 (by omega) (by omega) (by omega) (by have u := Y68; rw [if_neg (by omega)] at u; exact u)) | exact tus_1 (by omega) (by omega) (by have u := Y68; rw [if_pos (by omega)] at u; exact u))⟩
    · refine y_aload_n rfl rfl ?_
      refine y_gfr rfl rfl rfl rfl rfl (hH.r 891 0 876 rfl) ?_
      refine y_iconst rfl ?_
      refine y_iload_n rfl rfl ?_
      refine y_iconst rfl ?_
      refine y_icmp_ne rfl rfl (by unfold rg; omega) (by unfold rg; omega) (fun w107 => ?_) (fun w108 => ?_)
      · refine y_aload_n rfl rfl ?_
        refine y_callV rfl rfl rfl (t_re_secondName__p hH (by first | assumption | omega) (by first | assumption | omega) (by first | assumption | omega) _) ?_
        rintro _ _ ⟨rfl, z109, rfl, w109, v65⟩
        show Pl _ _ _ _ _ _ [iv z109, iv 4, .ref 876] _ _
        have K65 : True := trivial
        refine y_callV rfl rfl rfl (t_to_wrong__p hH 4 z109 ⟨by omega, by omega⟩ ⟨by omega, by omega⟩ _) ?_
        rintro _ T7 ⟨hHT7, w113, z112, rfl, w112, w110, f68, w111⟩
        have hFT7 : FR md_re_tellUsually__p S T7 := FR.tr hF w113 rfl
        show Pl _ _ _ _ _ _ [iv z112] _ _
        have Y68 : FTO S T7 4 (if fnd S 0 (bA (ty7 S) 0) (re7 (ty7 S) (bA (ty7 S) 0)) = -1 then (bA (ty7 S) 0) else sn2 S) := by have t := f68 hf; first | (rw [if_neg (by omega), ← v65]; exact t) | (rw [if_pos (by omega), gq5]; exact t)
        refine y_ireturn rfl (retI_z (by omega)) ?_
        have w114 : Xi T7 1 3 = Xi S 1 3 := (show Xi T7 1 3 = Xi S 1 3 from w113.x _ _ rfl)
        have w115 : Xi T7 876 7 = Xi S 876 7 := (show Xi T7 876 7 = Xi S 876 7 from w113.x _ _ rfl)
        have w116 : Xi T7 890 3 = Xi S 890 3 := (show Xi T7 890 3 = Xi S 890 3 from w113.x _ _ rfl)
        have w117 : Xi T7 895 8 = Xi S 895 8 := (show Xi T7 895 8 = Xi S 895 8 from w113.x _ _ rfl)
        have w118 : Xi T7 895 9 = Xi S 895 9 := (show Xi T7 895 9 = Xi S 895 9 from w113.x _ _ rfl)
        exact ⟨hHT7, hFT7, _, rfl, ⟨by omega, by omega⟩, (by first | (have t := K151; exact tus_4 (by omega) s72 r119 F88 O139.o (fun q => absurd q (by omega)) (fun _ => ⟨by omega, Y151⟩)) | (have t := K139; exact tus_4 (by omega) s72 r119 F88 O139.o (fun _ => ⟨by omega, rfl, f139⟩) (fun q => absurd (by omega) q)) | (have t := K115; exact tus_3 (by omega) s72 r114 rfl (by omega) Y115) | (have t := K65; exact tus_2 (by omega) (by omega) (by omega) (by have u := Y68; rw [if_neg (by omega)] at u; exact u)) | exact tus_1 (by omega) (by omega) (by have u := Y68; rw [if_pos (by omega)] at u; exact u))⟩
      · exfalso; omega
end
