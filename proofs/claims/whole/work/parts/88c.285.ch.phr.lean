section
/-! class and reference: a phrase means the same -/
theorem fr_u {S : sS} {k j : Nat} {v : Int32} : FR [(k, k + 1, j, j + 1)] S (uI S k j v) := FR.wI FR.rf (by simp [mdf, inR, Nat.blt_eq, Nat.ble_eq])
theorem kep_u {S : sS} {k j : Nat} {v : Int32} {ks fs : List (Nat × Nat)} (e : kepC [(k, k + 1, j, j + 1)] ks fs = true) : KEP ks fs S (uI S k j v) := fr_u.kep e
def cPk : List (Nat × Nat) := [(906, 911), (912, 946), (950, 966)]
def cPf : List (Nat × Nat) := [(904, 15), (904, 16), (904, 18), (904, 19), (904, 23), (904, 30), (904, 32), (904, 41), (904, 47), (904, 49), (904, 51), (904, 60), (904, 69), (904, 115), (904, 116)]
theorem env_p {W S X : sS} {f : Nat} (v : ENV W S f) (k : KEP cPk cPf S X) : ENV W X f := by
  have w := enw_k (env_w v) (KEP.rf : KEP cWk cWf W W) (k.le rfl (by decide) : KEP cXk cSf S X)
  have sl := v.2.2.2.1
  refine env_s w ?_
  unfold SLF at sl ⊢
  rw [k.f 904 115 (by decide), k.f 904 116 (by decide)]
  exact sl
theorem the_p {S X : sS} {p e x y : Int} (k : KEP cPk cPf S X) (h : THE (tkR S) S p e x y) : THE (tkR X) X p e x y := by
  have et : tkR X = tkR S := by funext i; unfold tkR; exact k.x 907 rfl _
  have u0 : ∀ j, Xi X 950 j = Xi S 950 j := k.x 950 rfl
  have u1 : ∀ j, Xi X 951 j = Xi S 951 j := k.x 951 rfl
  have ud : Xi X 904 69 = Xi S 904 69 := k.f 904 69 (by decide)
  rw [et]
  unfold THE TH3 RR at h ⊢
  simp only [u0, u1, ud]
  exact h
theorem agn_t {W A U : sS} (g : AGN W A) (k : KEP [(2, 20), (21, 22), (877, 880)] [(1, 3), (895, 3), (895, 4), (876, 7), (876, 5)] A U) : AGN W U := by
  obtain ⟨g1, g2, g3⟩ := g
  have e7 : Xi U 876 7 = Xi A 876 7 := k.f 876 7 (by decide)
  have e5 : Xi U 876 5 = Xi A 876 5 := k.f 876 5 (by decide)
  have t : ty7 U = ty7 A := by funext i; unfold ty7; rw [e7, k.x 877 rfl]
  have pc : ∀ i, pc7 U i = pc7 A i := fun i => by unfold pc7; rw [e7, e5, k.x 878 rfl]
  refine ⟨fun i h0 h1 => ?_, by rw [e7]; exact g2, KEP.tr g3 (k.le rfl (by decide))⟩
  rw [t, pc, k.j 879 rfl]
  exact g1 i h0 h1
/-- nothing within a phrase ends it -/
theorem ph_in {T : Int → Int} {V : sS} {c m : Nat} {p e : Int} (h : PHE T V c m p e) : p < e ∧ ∀ i : Int, p ≤ i → i < e → ¬ ETR (T i) 1 := by
  have k0 : ∀ {k : Int}, 100 ≤ k → ¬ ETR k 1 := fun h q => by unfold ETR at q; omega
  have k3 : ¬ ETR 3 1 := fun q => by unfold ETR at q; omega
  rcases h with ⟨h1, _, _, h2, h3⟩ | ⟨h1, _, h2⟩ | ⟨h1, _, r, h2, h3, h4⟩ | ⟨h1, q, r, h2, h3, h4, _, h5, h6⟩ | ⟨h1, _, r, h2, _, h3⟩ | ⟨h1, _, h2⟩
  · refine ⟨by omega, fun i i0 i1 => ?_⟩
    by_cases z : i = p
    · rw [z, h1]; exact k0 (by decide)
    · rw [show i = p + 1 by omega, h2]; intro q; unfold ETR at q; omega
  · obtain ⟨t1, t2⟩ := ts_in h2
    refine ⟨by omega, fun i i0 i1 => ?_⟩
    by_cases z : i = p
    · rw [z, h1]; exact k0 (by decide)
    · exact t2 i (by omega) i1
  · obtain ⟨t1, t2⟩ := the_in h2
    obtain ⟨t3, t4⟩ := the_in h4
    refine ⟨by omega, fun i i0 i1 => ?_⟩
    by_cases z : i = p
    · rw [z, h1]; exact k0 (by decide)
    by_cases z1 : i < r
    · exact (lse_n (t2 i (by omega) z1)).1
    by_cases z2 : i = r
    · rw [z2, h3]; exact k0 (by decide)
    · exact (lse_n (t4 i (by omega) i1)).1
  · obtain ⟨t1, t2⟩ := pre_in (now := 1) h2
    obtain ⟨t3, t4⟩ := the_in h3
    refine ⟨by omega, fun i i0 i1 => ?_⟩
    by_cases z : i = p
    · rw [z]; rcases h1 with h1 | h1 <;> (rw [h1.1]; exact k0 (by decide))
    by_cases z1 : i < q
    · exact (t2 i (by omega) z1).1
    by_cases z2 : i < r
    · exact (lse_n (t4 i (by omega) z2)).1
    by_cases z3 : i = r
    · rw [z3, h4]; exact k0 (by decide)
    · rw [show i = r + 1 by omega, h5]; intro q; unfold ETR at q; omega
  · have t1 := h2.1
    rcases h3 with ⟨_, _, h3⟩ | ⟨_, _, h3⟩
    · obtain ⟨t3, t4⟩ := the_in h3
      refine ⟨by omega, fun i i0 i1 => ?_⟩
      by_cases z : i = p
      · rw [z, h1]; exact k0 (by decide)
      by_cases z1 : i < r
      · rw [h2.2.1 i (by omega) z1]; exact k3
      · exact (lse_n (t4 i (by omega) i1)).1
    · refine ⟨by omega, fun i i0 i1 => ?_⟩
      by_cases z : i = p
      · rw [z, h1]; exact k0 (by decide)
      · rw [h2.2.1 i (by omega) (by omega)]; exact k3
  · refine ⟨by omega, fun i i0 i1 => ?_⟩
    rw [show i = p by omega, h1]; exact k0 (by decide)
/-- both find the same end of a phrase -/
theorem pe_r {W S V : sS} {f c m : Nat} {b e : Int} (sc : SCX W S f) (tb : ∀ i : Int, 0 ≤ ty7 W i ∧ ty7 W i ≤ 108) (h0 : 0 ≤ b) (hb : e < Xi W 876 7) (t : PHE (tkR S) V c m (f + b) (f + e)) (d : tkR S (f + e) = 59 ∨ tkR S (f + e) = 46) : b < e ∧ te8 (ty7 W) 1 b = e := by
  obtain ⟨p1, p2⟩ := ph_in t
  have n5 := sc.2
  refine ⟨by omega, ?_⟩
  have q : et7 1 (ty7 W e) := (etr_r sc tb ⟨by omega, hb⟩).1 (by unfold ETR; omega)
  exact te8_u q (e - b).toNat 5141 b (by omega) (by omega) (fun i i0 i1 z => p2 (f + i) (by omega) (by omega) ((etr_r sc tb ⟨by omega, by omega⟩).2 z))
/-- a phrase of the class (its clause's fields) is a phrase of the reference (its entries) -/
def PQF (U S : sS) (p q : Nat) (fm n w h t g m : Int) : Prop := Xi S 977 p = (q : Int) ∧
  ((Xi S 976 p = 1 ∧ TQF U S q 53 fm n w h t g m) ∨
   (Xi S 976 p = 0 ∧ fm = 7 ∧ Xi S 973 q = t ∧ Xi S 974 q = g) ∨
   (Xi S 976 p = 2 ∧ fm = 8 ∧ TMK 53 (Xi U 5 2) w (Xi S 971 q) ∧ TMK 53 (Xi U 5 2) m (Xi S 975 q)) ∨
   (((Xi S 976 p = 3 ∧ t = Xi S 973 q) ∨ (Xi S 976 p = 4 ∧ t = -Xi S 973 q)) ∧ fm = 9 ∧ TMK 53 (Xi U 5 2) w (Xi S 971 q) ∧ Xi S 972 q = h ∧ (0 ≤ h ∧ h < Xi U 5 5) ∧ Xi U 9 h.toNat = 0) ∨
   (Xi S 976 p = 5 ∧ fm = 10 ∧ Xi S 972 q = h ∧ (0 ≤ h ∧ h < Xi U 5 8) ∧ ((Xi S 970 q = 1 ∧ w = -1 ∧ Xi U 19 h.toNat = -1) ∨ (Xi S 970 q = 0 ∧ TMK 53 (Xi U 5 2) w (Xi S 971 q) ∧ 0 ≤ Xi U 19 h.toNat))) ∨
   (Xi S 976 p = 6 ∧ fm = 11))
/-- a phrase in both: good and the same, or the same fault -/
def PRS (W A B S S1 : sS) (cl : Nat) (q p b e z : Int) : Prop := NTG (pc7 W b) (NT3 S) (NT3 S1) ∧ (z = 1 → NT3 S1 = NT3 S ∧ Xi B 876 8 = 0 ∧ KCL A B cl ∧ ∃ fm n w h t g m : Int, CLM B cl fm n w h t g m ∧ PQF W S1 p.toNat q.toNat fm n w h t g m) ∧ (z = 0 → (NT3 S).1 = 0 → NTB (NT3 S1) (Xi B 876 8) (Xi B 876 9) ∧ Xi B 876 8 ≠ 0 ∧ ∃ r : Int, b ≤ r ∧ r < e ∧ Xi B 876 9 = pc7 W r)
theorem pha_x {S : sS} {i : Nat} {q p : Int} (hq : 0 ≤ q ∧ q ≤ 100000) (hk : 0 ≤ Xi S 963 i ∧ Xi S 963 i ≤ 6) : Xi (phA S i q p) 977 p.toNat = (q.toNat : Int) ∧ Xi (phA S i q p) 976 p.toNat = Xi S 963 i := by
  unfold phA
  rw [show ((i : Nat) : Int).toNat = i by omega]
  refine ⟨?_, ?_⟩
  · rw [Xi_same (by unfold rg; omega)]; omega
  · rw [Xi_ne (by omega), Xi_same (by unfold rg; omega)]
theorem pha_k {S : sS} {i q p : Int} : KEP cPk cPf S (phA S i q p) := KEP.tr (kep_u rfl) (kep_u rfl)
theorem pha_n {S : sS} {i q p : Int} : NT3 (phA S i q p) = NT3 S := by
  unfold NT3 phA
  rw [Xi_ne (by omega), Xi_ne (by omega), Xi_ne (by omega), Xi_ne (by omega), Xi_ne (by omega), Xi_ne (by omega)]
/-- NOW -/
theorem now_r {W A B S S1 : sS} {f c i cl : Nat} {b e q p z : Int} (v : ENV W S f) (sk : Xi W 895 3 = 53) (g : AGN W A) (h0 : 0 ≤ b) (hb : e < Xi W 876 7) (hq : 0 ≤ q ∧ q ≤ 100000) (k963 : Xi S 963 i = 1) (k964 : Xi S 964 i = c) (rd : TSTR (tkR S) S c (f + (b + 1)) (f + e) 1) (hz : z = 0 ∨ z = 1) (ph : TSO A B cl (b + 1) e 1 z) (pm : PM1 S S1 i q p) : PRS W A B S S1 cl q p b e z := by
  obtain ⟨tm, F⟩ := pm
  have ec : pTS S i = c := by unfold pTS; rw [show ((i : Nat) : Int).toNat = i by omega]; exact k964
  rw [ec] at tm
  have v0 : ENV W (phA S i q p) f := env_p v pha_k
  have rd0 : TSTR (tkR (phA S i q p)) (phA S i q p) c (f + (b + 1)) (f + e) 1 := tstr_q (pha_k.le rfl (by decide)) rd
  obtain ⟨x1, x2⟩ := pha_x (S := S) (i := i) (p := p) hq (by omega)
  have n0 : NT3 (phA S i q p) = NT3 S := pha_n
  have ab := (shp_r v (a := b + 1) (by omega) hb (Or.inr rfl) rd).2.2.1
  have e1 := tsg_r v0 (a := b + 1) (by omega) hb (Or.inr rfl) rd0 tm
  rw [n0] at e1
  obtain ⟨ny, nn⟩ := tst_n v g (a := b + 1) (by omega) hb (Or.inr rfl) rd
  obtain ⟨kc, py, pn⟩ := ph
  have s6 : ∀ j, Xi S1 906 j = Xi (phA S i q p) 906 j := (F.kep rfl : KEP [(906, 907), (976, 978)] [] _ _).x 906 rfl
  have s9 : ∀ k : Nat, k = 976 ∨ k = 977 → Xi S1 k p.toNat = Xi (phA S i q p) k p.toNat := fun k hk => by rcases hk with rfl | rfl <;> exact (F.kep rfl : KEP [(906, 907), (976, 978)] [] _ _).x _ rfl _
  refine ⟨ntg_le e1 (plo_le v h0 (by omega) (by omega)), fun z1 => ?_, fun z0 n1 => ?_⟩
  · obtain ⟨b8, fm, n, w, h, t, g', m, y, cm⟩ := py z1
    obtain ⟨t1, t2⟩ := tsy_r v0 (a := b + 1) (by omega) hb (Or.inr rfl) hq.1 rd0 tm s6 (ny _ _ _ _ _ _ _ y)
    rw [sk] at t2
    exact ⟨t1.trans n0, b8, kc, fm, n, w, h, t, g', m, cm, by rw [s9 977 (Or.inr rfl)]; exact x1, Or.inl ⟨by rw [s9 976 (Or.inl rfl), x2]; exact k963, t2⟩⟩
  · obtain ⟨cc, r, y, ft⟩ := pn z0
    obtain ⟨t1, t2, t3, t4⟩ := tsn_r v0 (a := b + 1) (by omega) hb (Or.inr rfl) rd0 tm (by rw [n0]; exact n1) (nn _ _ y)
    have er : pc7 A r = pc7 W r := (g.1 r (by omega) (by omega)).2.1
    rw [ft.1, ft.2, er]
    exact ⟨t1, t2, r, by omega, t4, rfl⟩
/-- STOP -/
theorem stop_r {W A S S1 : sS} {i cl : Nat} {b e q p : Int} (hq : 0 ≤ q ∧ q ≤ 100000) (k963 : Xi S 963 i = 6) (cm : CLM A cl 11 0 (-1) (-1) 0 0 (-1)) (a8 : Xi A 876 8 = 0) (pm : S1 = phA S i q p) : PRS W A A S S1 cl q p b e 1 := by
  obtain ⟨x1, x2⟩ := pha_x (S := S) (i := i) (p := p) hq (by omega)
  rw [pm]
  exact ⟨by rw [pha_n]; exact ntg_0, fun _ => ⟨pha_n, a8, KCL.rf, 11, 0, -1, -1, 0, 0, -1, cm, x1, Or.inr (Or.inr (Or.inr (Or.inr (Or.inr ⟨x2.trans k963, rfl⟩))))⟩, fun z => absurd z (by decide)⟩

theorem nt_u {S : sS} {k j : Nat} {v : Int32} (h : k ≠ 904) : NT3 (uI S k j v) = NT3 S := by
  unfold NT3
  rw [Xi_ne (by omega), Xi_ne (by omega), Xi_ne (by omega)]
theorem tmk_i {W : sS} {w t : Int} (sk : Xi W 895 3 = 53) (h : TMP W w t) : TMK 53 (Xi W 5 2) w t := by
  unfold TMP at h
  rw [sk] at h
  exact h
theorem tm_rg {W S : sS} {w t : Int} (v : RCT W S) (h : TMP W w t) : rg t := by
  have := v.2.2.1
  unfold rg
  rcases h with ⟨_, h⟩ | ⟨h1, h2⟩
  · rw [h]; split <;> omega
  · omega
/-- MOVE -/
theorem move_r {W A B S S1 : sS} {f c i cl : Nat} {b e q p z : Int} (v : ENV W S f) (sk : Xi W 895 3 = 53) (g : AGN W A) (h0 : 0 ≤ b) (hb : e < Xi W 876 7) (hq : 0 ≤ q ∧ q ≤ 100000) (k963 : Xi S 963 i = 2) (k964 : Xi S 964 i = c) (rd : ∃ r : Int, THE (tkR S) S (f + b + 1) r (Xi S 954 c) (Xi S 955 c) ∧ tkR S r = 111 ∧ THE (tkR S) S (r + 1) (f + e) (Xi S 959 c) (Xi S 960 c)) (hz : z = 0 ∨ z = 1) (ph : MVO A B cl (b + 1) e z) (pm : PM2 S S1 i q p) : PRS W A B S S1 cl q p b e z := by
  obtain ⟨r, t1, _, t2⟩ := rd
  have l1 := (the_in t1).1
  have l2 := (the_in t2).1
  obtain ⟨R, rfl⟩ : ∃ y : Int, r = f + y := ⟨r - f, by omega⟩
  rw [show (f : Int) + b + 1 = f + (b + 1) by omega] at t1
  rw [show (f : Int) + R + 1 = f + (R + 1) by omega] at t2
  have ec : pTS S i = c := by unfold pTS; rw [show ((i : Nat) : Int).toNat = i by omega]; exact k964
  have ecn : ((c : Nat) : Int).toNat = c := by omega
  obtain ⟨B', C, D, E, z1, w1, gg, m1, F1, eC, hg, hgi, nD, FD, m2, F2, eS⟩ := pm
  rw [ec, ecn] at m1 nD m2
  obtain ⟨x1, x2⟩ := pha_x (S := S) (i := i) (p := p) hq (by omega)
  have n0 : NT3 (phA S i q p) = NT3 S := pha_n
  generalize eP : phA S i q p = P0 at *
  have k0 : KEP cPk cPf S P0 := by rw [← eP]; exact pha_k
  have kB : KEP cPk cPf S B' := KEP.tr k0 (F1.kep rfl)
  have kC : KEP cPk cPf S C := by rw [eC]; exact KEP.tr kB (kep_u rfl)
  have kD : KEP cPk cPf S D := KEP.tr kC (FD.kep rfl)
  have th1 := thf_r (l := e) (env_p v k0) (a := b + 1) (by omega) (the_p k0 t1) (by omega) (by omega)
  have th2 := thf_r (l := e) (env_p v kD) (a := R + 1) (by omega) (the_p kD t2) (by omega) (by omega)
  obtain ⟨a1, _, a3, a4, a5, a6⟩ := th1
  obtain ⟨b1, _, b3, b4, b5, b6⟩ := th2
  obtain ⟨o1, o2, o3, o4⟩ := who_n (a := b + 1) (l := e) g (by omega) (by omega)
  obtain ⟨u1, u2, u3, u4⟩ := who_n (a := R + 1) (l := e) g (by omega) (by omega)
  have q8 : ∀ {X : sS}, KEP cPk cPf S X → ∀ j, Xi X 908 j = Xi S 908 j := fun k => k.x 908 rfl
  obtain ⟨z1e, nB⟩ := m1
  obtain ⟨w1e, nE⟩ := m2
  rw [q8 k0, ← show pc7 W (whrC W (b + 1)) = Xi S 908 (Xi S 954 c % 10000).toNat by rw [a4, q8 k0], n0] at nB
  have nC : NT3 C = NT3 B' := by rw [eC]; exact nt_u (by decide)
  rw [q8 kC, ← show pc7 W (whrC W (b + 1)) = Xi S 908 (Xi S 954 c % 10000).toNat by rw [a4, q8 k0], nC] at nD
  rw [q8 kD, ← show pc7 W (whrC W (R + 1)) = Xi S 908 (Xi S 959 c % 10000).toNat by rw [b4, q8 kD]] at nE
  have nS : NT3 S1 = NT3 E := by rw [eS]; exact nt_u (by decide)
  have p1 : pc7 W b ≤ pc7 W (whrC W (b + 1)) := plo_le v h0 (by omega) (by omega)
  have p2 : pc7 W (whrC W (b + 1)) < pc7 W (whrC W (R + 1)) := v.2.2.2.2.2.2 _ _ (by omega) (by omega) (by omega)
  have gB : NTG (pc7 W b) (NT3 S) (NT3 B') := by rw [nB]; exact ntg_if ntg_0 (ntg_1 p1)
  have gD : NTG (pc7 W b) (NT3 S) (NT3 D) := by rw [nD]; exact ntg_if (ntg_n gB p1) gB
  have gE : NTG (pc7 W (whrC W (R + 1))) (NT3 D) (NT3 E) := by rw [nE]; exact ntg_if ntg_0 (ntg_1 (Int.le_refl _))
  have hkC : RLW W C := (env_p v kC).1
  have ktC' : ∀ t, ktC C t = ktC P0 t := fun t => by
    have kk : KEP [(918, 919)] [(904, 115), (904, 116)] P0 C := by rw [eC]; exact KEP.tr (F1.kep rfl) (kep_u rfl)
    unfold ktC
    rw [kk.f 904 115 (by decide), kk.f 904 116 (by decide), kk.x 918 rfl]
  obtain ⟨kc, y1, y2, y3⟩ := ph
  rw [o2, isK_n g] at y1 y2 y3
  rw [o4, a1, u1] at y2 y3
  rw [u3] at y2
  rw [o3] at y1
  rw [o1] at y3
  -- the first thing: good in both, or a fault in both
  have first : (isK W (whkC W (b + 1) e) 0 = 0 → (NT3 S).1 = 0 → NTB (NT3 D) 4 (pc7 W (whrC W (b + 1)))) ∧ (isK W (whkC W (b + 1) e) 0 ≠ 0 → NT3 D = NT3 S ∧ TMP W (whoC W (b + 1) e) z1) := by
    by_cases w0 : whoC W (b + 1) e = -1
    · obtain ⟨m9, mk⟩ := a5 w0
      have z9 : z1 = -9 := by rw [z1e]; exact m9
      have g1 : gg = 1 := hgi.2 (Or.inl z9)
      rw [if_neg (by omega)] at nB
      rw [if_neg (by omega), nB] at nD
      refine ⟨fun _ n1 => by rw [nD]; exact ntb_1 n1, fun k => ?_⟩
      rw [mk] at k
      have := isK_v rfl k
      omega
    · obtain ⟨tp, tk, tl⟩ := a6 w0
      rw [← z1e] at tp tk
      have z9 := (tmp_9 tp).1
      have bl : isK W (whkC W (b + 1) e) 0 = blR C (ktC C z1) 0 := by
        rw [isK_bl hkC.2.2.2.1 tl.2, ktC', ← tk]
      rw [if_pos z9] at nB
      refine ⟨fun k n1 => ?_, fun k => ⟨?_, tp⟩⟩
      · have g0 : gg = 0 := by
          rcases hg with h | h
          · exact h
          · exfalso
            rcases hgi.1 h with h | h
            · exact z9 h
            · exact h (by rw [← bl]; exact k)
        rw [if_pos g0] at nD
        rw [nD]
        exact ntb_1 (by rw [nB]; exact n1)
      · have g1 : gg = 1 := hgi.2 (Or.inr (by rw [← bl]; exact k))
        rw [if_neg (by omega)] at nD
        rw [nD, nB]
  refine ⟨by rw [nS]; exact ntg_t gD (ntg_le gE (by omega)), fun zz => ?_, fun zz n1 => ?_⟩
  · have k : isK W (whkC W (b + 1) e) 0 ≠ 0 := fun k => by have := (y1 k).1; omega
    have w2 : whoC W (R + 1) e ≠ -1 := fun k2 => by have := (y2 k k2).1; omega
    obtain ⟨d1, d2⟩ := first.2 k
    obtain ⟨_, f8, cm⟩ := y3 k w2
    obtain ⟨tp, _, _⟩ := b6 w2
    rw [← w1e] at tp
    rw [if_pos (tmp_9 tp).1] at nE
    have rc := v.1.2.2.1
    have ez : Xi S1 971 q.toNat = z1 := by
      rw [eS, Xi_ne (by omega), (F2.kep rfl : KEP [(971, 972), (976, 978)] [] D E).x 971 rfl, (FD.kep rfl : KEP [(971, 972), (976, 978)] [] C D).x 971 rfl, eC]
      exact Xi_same (tm_rg rc d2)
    have ew : Xi S1 975 q.toNat = w1 := by rw [eS]; exact Xi_same (tm_rg rc tp)
    have e6 : ∀ k : Nat, k = 976 ∨ k = 977 → Xi S1 k p.toNat = Xi P0 k p.toNat := fun k hk => by
      rw [eS, Xi_ne (by omega)]
      rcases hk with rfl | rfl <;> rw [(F2.kep rfl : KEP [(971, 972), (976, 978)] [] D E).x _ rfl, (FD.kep rfl : KEP [(971, 972), (976, 978)] [] C D).x _ rfl, eC, Xi_ne (by omega), (F1.kep rfl : KEP [(971, 972), (976, 978)] [] P0 B').x _ rfl]
    refine ⟨by rw [nS, nE, d1], f8, kc, _, _, _, _, _, _, _, cm, by rw [e6 977 (Or.inr rfl)]; exact x1, Or.inr (Or.inr (Or.inl ⟨by rw [e6 976 (Or.inl rfl), x2]; exact k963, rfl, ?_, ?_⟩))⟩
    · rw [ez]; exact tmk_i sk d2
    · rw [ew]; exact tmk_i sk tp
  · by_cases k : isK W (whkC W (b + 1) e) 0 = 0
    · have ft := (y1 k).2
      have er : pc7 A (whrC W (b + 1)) = pc7 W (whrC W (b + 1)) := (g.1 _ (by omega) (by omega)).2.1
      rw [ft.1, ft.2, er, nS]
      exact ⟨ntg_k gE (first.1 k n1) (by decide) p2, by decide, _, by omega, by omega, rfl⟩
    · by_cases w2 : whoC W (R + 1) e = -1
      · have ft := (y2 k w2).2
        have er : pc7 A (whrC W (R + 1)) = pc7 W (whrC W (R + 1)) := (g.1 _ (by omega) (by omega)).2.1
        obtain ⟨d1, _⟩ := first.2 k
        have w9 : w1 = -9 := by rw [w1e]; exact (b5 w2).1
        rw [if_neg (by omega), d1] at nE
        rw [ft.1, ft.2, er, nS, nE]
        exact ⟨ntb_1 n1, by decide, _, by omega, by omega, rfl⟩
      · have := (y3 k w2).1; omega
end
section
/-! class and reference: TRY -/
theorem fr_cl {S : sS} {cl j : Nat} {v : Int32} (h : cl < 600) : FR [(276, 876, j, j + 1)] S (uI S (276 + cl) j v) := FR.wI FR.rf (by simp [mdf, inR, Nat.blt_eq, Nat.ble_eq]; omega)
theorem taf_n {W A : sS} {a b : Int} (g : AGN W A) (hb : b ≤ Xi W 876 7) : ∀ n : Nat, a + 1 + n ≤ b ∨ n = 0 → taF A a b n = taF W a b n
  | 0, _ => by
    have k := g.2.2.x 19 rfl
    show (if fnd A 8 a b ≠ -1 ∧ Xi A 19 (fnd A 8 a b).toNat = -1 then (fnd A 8 a b, -1, 1) else ((-1, -1, 0) : Int × Int × Int)) = (if fnd W 8 a b ≠ -1 ∧ Xi W 19 (fnd W 8 a b).toNat = -1 then (fnd W 8 a b, -1, 1) else ((-1, -1, 0) : Int × Int × Int))
    rw [fn_n g hb, k]
  | n + 1, h => by
    have ih := taf_n (a := a) g hb n (by omega)
    have k := g.2.2.x 19 rfl
    have q : taQ A a b (a + 1 + n) ↔ taQ W a b (a + 1 + n) := by
      unfold taQ
      rw [fn_n g (by omega), fn_n g hb, k]
    have e1 : fnd A 8 a (a + 1 + n) = fnd W 8 a (a + 1 + n) := fn_n g (by omega)
    have e2 : fnd A 2 (a + 1 + n) b = fnd W 2 (a + 1 + n) b := fn_n g hb
    rw [taF, taF, ih, e1, e2]
    by_cases c : taQ W a b (a + 1 + n)
    · rw [if_pos c, if_pos (q.2 c)]
    · rw [if_neg c, if_neg (fun z => c (q.1 z))]
/-- TRY, ACTING without ART RUN -/
theorem trya_r {W A U B S S1 : sS} {f c i cl : Nat} {b e q p z : Int} (v : ENV W S f) (g : AGN W A) (gU : AGN W U) (kcU : KCL A U cl) (h0 : 0 ≤ b) (hb : e < Xi W 876 7) (hq : 0 ≤ q ∧ q ≤ 100000) (k963 : Xi S 963 i = 5) (k964 : Xi S 964 i = c) (rn : RNR W S f (Xi S 956 c) (b + 1) e) (hz : z = 0 ∨ z = 1) (ph : TAO U B cl (b + 1) e z) (pm : PM6 S S1 i q p) : PRS W A B S S1 cl q p b e z := by
  have ec : pTS S i = c := by unfold pTS; rw [show ((i : Nat) : Int).toNat = i by omega]; exact k964
  have ecn : ((c : Nat) : Int).toNat = c := by omega
  obtain ⟨B', C, D, E, G, n, t, o, ao, FA, nC, FC, nD, FD, et, eo, eE, eG, eS⟩ := pm
  rw [ec, ecn] at ao nC nD
  obtain ⟨x1, x2⟩ := pha_x (S := S) (i := i) (p := p) hq (by omega)
  have n0 : NT3 (phA S i q p) = NT3 S := pha_n
  generalize eP : phA S i q p = P0 at *
  have k0 : KEP cPk cPf S P0 := by rw [← eP]; exact pha_k
  have v0 := env_p v k0
  have rn0 : RNR W P0 f (Xi S 956 c) (b + 1) e := rn.kS (k0.le rfl (by decide))
  have hbe := rn.2.1
  obtain ⟨ars, al⟩ := ta_x v0.1 v0.2.1 rn0
  unfold ACO at ao
  rw [rn0.2.2.2.1, rn0.2.2.2.2.1] at ao
  obtain ⟨kc, y1, y2⟩ := ph
  have tn : taF U (b + 1) e (e - (b + 1) - 1).toNat = taF W (b + 1) e (e - (b + 1) - 1).toNat := taf_n gU (by omega) _ (by omega)
  rw [tn] at y1 y2
  generalize taF W (b + 1) e (e - (b + 1) - 1).toNat = X at *
  generalize acF P0 (f + (b + 1)) (e - (b + 1)) 1 (acK (e - (b + 1))) = Y at *
  obtain ⟨s1, s2, s3⟩ := ars
  obtain ⟨a1, a2⟩ := ao
  have pr : pR S (Xi S 956 c) = pc7 W (b + 1) := (rn_pc (scx_s v.2.1 v.1.1) rn).symm
  have nB : NT3 B' = NT3 S := by rw [NT3_FR FA rfl, n0]
  rw [pr, nB] at nC
  rw [pr] at nD
  have nS : NT3 S1 = NT3 D := by rw [eS, nt_u (by decide), eG, nt_u (by decide), eE, nt_u (by decide)]
  have p1 : pc7 W b ≤ pc7 W (b + 1) := plo_le v h0 (by omega) (by omega)
  have gC : NTG (pc7 W b) (NT3 S) (NT3 C) := by rw [nC]; exact ntg_if ntg_0 (ntg_1 p1)
  have gD : NTG (pc7 W b) (NT3 S) (NT3 D) := by rw [nD]; exact ntg_if gC (ntg_n gC p1)
  refine ⟨by rw [nS]; exact gD, fun zz => ?_, fun zz n1 => ?_⟩
  · have X1 : X.2.2 = 1 := Classical.byContradiction fun k => by have := (y1 k).1; omega
    obtain ⟨_, f8, cm⟩ := y2 X1
    have n1 : n = 1 := by omega
    obtain ⟨c1, c2, c3, c4⟩ := s3 (by omega)
    obtain ⟨d1, d2⟩ := a2 (by omega)
    rw [if_pos (by omega)] at nC nD et eo
    have rc := v.1.2.2.1
    have t1 : t = X.1 := by rw [et, d1, c1]
    have o1 : o = X.2.1 := by rw [eo, d2, c2]
    have r8 := rc.2.2.2.2.2.2.2.2
    have rt : rg t := by unfold rg; omega
    have ro : rg o := by have := rc.2.2.1; unfold rg; omega
    have e2 : Xi S1 972 q.toNat = X.1 := by rw [eS, Xi_ne (by omega), eG, Xi_ne (by omega), eE, Xi_same rt]; exact t1
    have e1 : Xi S1 971 q.toNat = X.2.1 := by rw [eS, Xi_ne (by omega), eG, Xi_same ro]; exact o1
    have e0 : Xi S1 970 q.toNat = (if X.2.1 = -1 then 1 else 0) := by rw [eS, Xi_same (by unfold rg; split <;> omega), o1]
    have e6 : ∀ k : Nat, k = 976 ∨ k = 977 → Xi S1 k p.toNat = Xi P0 k p.toNat := fun k hk => by
      rw [eS, Xi_ne (by omega), eG, Xi_ne (by omega), eE, Xi_ne (by omega)]
      rcases hk with rfl | rfl <;> rw [(FD.kep rfl : KEP [(976, 978)] [] C D).x _ rfl, (FC.kep rfl : KEP [(976, 978)] [] B' C).x _ rfl, (FA.kep rfl : KEP [(976, 978)] [] P0 B').x _ rfl]
    refine ⟨by rw [nS, nD, nC], f8, kcl_tr kcU kc, _, _, _, _, _, _, _, cm, by rw [e6 977 (Or.inr rfl)]; exact x1, Or.inr (Or.inr (Or.inr (Or.inr (Or.inl ⟨by rw [e6 976 (Or.inl rfl), x2]; exact k963, rfl, e2, c3, ?_⟩))))⟩
    by_cases w1 : X.2.1 = -1
    · exact Or.inl ⟨by rw [e0, if_pos w1], w1, al X1 w1⟩
    · rcases c4 with c4 | ⟨c4, c5⟩
      · exact absurd c4 w1
      · exact Or.inr ⟨by rw [e0, if_neg w1], Or.inr ⟨c4, e1⟩, c5⟩
  · have X1 : X.2.2 ≠ 1 := fun k => by have := (y2 k).1; omega
    have ft := (y1 X1).2
    have er : pc7 U (b + 1) = pc7 W (b + 1) := (gU.1 _ (by omega) (by omega)).2.1
    rw [ft.1, ft.2, er, nS]
    by_cases w0 : X.2.2 = 0
    · rw [if_neg (by omega)] at nC
      rw [if_pos (by omega)] at nD
      rw [if_pos w0, nD, nC]
      exact ⟨ntb_1 n1, by decide, b + 1, by omega, by omega, rfl⟩
    · rw [if_pos (by omega)] at nC
      rw [if_neg (by omega), nC] at nD
      rw [if_neg w0, nD]
      exact ⟨ntb_1 n1, by decide, b + 1, by omega, by omega, rfl⟩
/-- TRY, ACTING on a THING -/
theorem tryo_r {W A U B S S1 : sS} {f c i cl : Nat} {b R e q p z : Int} (v : ENV W S f) (sk : Xi W 895 3 = 53) (g : AGN W A) (gU : AGN W U) (kcU : KCL A U cl) (h0 : 0 ≤ b) (hb : e < Xi W 876 7) (hq : 0 ≤ q ∧ q ≤ 100000) (k963 : Xi S 963 i = 5) (k964 : Xi S 964 i = c) (rn : RNR W S f (Xi S 956 c) (b + 1) R) (t1 : THE (tkR S) S (f + R) (f + e) (Xi S 954 c) (Xi S 955 c)) (hz : z = 0 ∨ z = 1) (ph : TRN U B cl (b + 1) R e z) (pm : PM5 S S1 i q p) : PRS W A B S S1 cl q p b e z := by
  have ec : pTS S i = c := by unfold pTS; rw [show ((i : Nat) : Int).toNat = i by omega]; exact k964
  have ecn : ((c : Nat) : Int).toNat = c := by omega
  obtain ⟨B', C, D, E, gg, a, z1, hg, ea, hgi, nB, FB, eC, m1, FD, eE, eS⟩ := pm
  rw [ec, ecn] at ea nB m1
  obtain ⟨x1, x2⟩ := pha_x (S := S) (i := i) (p := p) hq (by omega)
  have n0 : NT3 (phA S i q p) = NT3 S := pha_n
  generalize eP : phA S i q p = P0 at *
  have k0 : KEP cPk cPf S P0 := by rw [← eP]; exact pha_k
  have kC : KEP cPk cPf S C := by rw [eC]; exact KEP.tr (KEP.tr k0 (FB.kep rfl)) (kep_u rfl)
  have l1 := (the_in t1).1
  have l2 := rn.2.1
  obtain ⟨a1, _, a3, a4, a5, a6⟩ := thf_r (l := e) (env_p v kC) (a := R) (by omega) (the_p kC t1) (by omega) (by omega)
  obtain ⟨o1, o2, o3, o4⟩ := who_n (a := R) (l := e) gU (by omega) (by omega)
  have pr : pR S (Xi S 956 c) = pc7 W (b + 1) := (rn_pc (scx_s v.2.1 v.1.1) rn).symm
  rw [pr, n0] at nB
  have nC : NT3 C = NT3 B' := by rw [eC]; exact nt_u (by decide)
  obtain ⟨z1e, nD⟩ := m1
  rw [← a4, nC] at nD
  have nS : NT3 S1 = NT3 D := by rw [eS, nt_u (by decide), eE, nt_u (by decide)]
  have p1 : pc7 W b ≤ pc7 W (b + 1) := plo_le v h0 (by omega) (by omega)
  have p2 : pc7 W (b + 1) < pc7 W (whrC W R) := v.2.2.2.2.2.2 _ _ (by omega) (by omega) (by omega)
  have gB : NTG (pc7 W b) (NT3 S) (NT3 B') := by rw [nB]; exact ntg_if (ntg_1 p1) ntg_0
  have gD : NTG (pc7 W (whrC W R)) (NT3 B') (NT3 D) := by rw [nD]; exact ntg_if ntg_0 (ntg_1 (Int.le_refl _))
  have hw := v.1
  have h15 : 0 ≤ Xi S 904 15 := by have := hw.1.1.1; omega
  have fe : fnd W 8 (b + 1) R = rnR S (Xi S 956 c) 11 := rn_fnd (s := 11) (scx_s v.2.1 hw.1) rn hw.1.2.2.2.1 h15 (by omega)
  have fU : fnd U 8 (b + 1) R = fnd W 8 (b + 1) R := fn_n gU (by omega)
  have k19 := gU.2.2.x 19 rfl
  obtain ⟨kc, y1, y2, y3⟩ := ph
  rw [fU, k19] at y1 y2 y3
  rw [o1] at y2 y3
  rw [o3] at y2
  have fa : a = fnd W 8 (b + 1) R := by rw [ea, fe]
  have e19 : a ≠ -1 → (0 ≤ a ∧ a < Xi W 5 8) ∧ Xi W 19 a.toNat = Xi S 942 a.toNat := fun k => by
    have gg : 0 ≤ fnd W 8 (b + 1) R ∧ fnd W 8 (b + 1) R < Xi W 5 8 := fnd_wc (by omega) hw.1.2.2.1 hw.2.1 (by rw [← fa]; exact k)
    rw [← fa] at gg
    exact ⟨gg, (hw.2.2.2.2.2.2.2.2.1.2 a.toNat (by omega)).1⟩
  rw [← fa] at y1 y2 y3
  refine ⟨by rw [nS]; exact ntg_t gB (ntg_le gD (by omega)), fun zz => ?_, fun zz n1 => ?_⟩
  · have f1 : a ≠ -1 := fun k => by have := (y1 (Or.inl k)).1; omega
    have f2 : 0 ≤ Xi W 19 a.toNat := Classical.byContradiction fun k => by have := (y1 (Or.inr (by omega))).1; omega
    have f3 : whoC W R e ≠ -1 := fun k => by have := (y2 f1 f2 k).1; omega
    obtain ⟨_, f8, cm⟩ := y3 f1 f2 f3
    have g1 : gg = 1 := hgi.2 ⟨f1, by rw [← (e19 f1).2]; exact f2⟩
    rw [if_neg (by omega)] at nB
    obtain ⟨tp, _, _⟩ := a6 f3
    rw [← z1e] at tp
    rw [if_pos (tmp_9 tp).1] at nD
    have rc := v.1.2.2.1
    have e2 : Xi S1 972 q.toNat = a := by
      rw [eS, Xi_ne (by omega), eE, Xi_ne (by omega), (FD.kep rfl : KEP [(972, 973), (976, 978)] [] C D).x _ rfl, eC, Xi_same (by have := rc.2.2.2.2.2.2.2.2; have := e19 f1; unfold rg; omega)]
    have e1 : Xi S1 971 q.toNat = z1 := by rw [eS, Xi_ne (by omega), eE, Xi_same (tm_rg rc tp)]
    have e0 : Xi S1 970 q.toNat = 0 := by rw [eS, Xi_same (by unfold rg; omega)]
    have e6 : ∀ k : Nat, k = 976 ∨ k = 977 → Xi S1 k p.toNat = Xi P0 k p.toNat := fun k hk => by
      rw [eS, Xi_ne (by omega), eE, Xi_ne (by omega)]
      rcases hk with rfl | rfl <;> rw [(FD.kep rfl : KEP [(976, 978)] [] C D).x _ rfl, eC, Xi_ne (by omega), (FB.kep rfl : KEP [(976, 978)] [] P0 B').x _ rfl]
    exact ⟨by rw [nS, nD, nB], f8, kcl_tr kcU kc, _, _, _, _, _, _, _, cm, by rw [e6 977 (Or.inr rfl)]; exact x1, Or.inr (Or.inr (Or.inr (Or.inr (Or.inl ⟨by rw [e6 976 (Or.inl rfl), x2]; exact k963, rfl, e2, (e19 f1).1, Or.inr ⟨e0, by rw [e1]; exact tmk_i sk tp, f2⟩⟩))))⟩
  · by_cases f1 : a = -1 ∨ Xi W 19 a.toNat < 0
    · have ft := (y1 f1).2
      have er : pc7 U (b + 1) = pc7 W (b + 1) := (gU.1 _ (by omega) (by omega)).2.1
      have g0 : gg = 0 := by
        rcases hg with h | h
        · exact h
        · exfalso
          obtain ⟨j1, j2⟩ := hgi.1 h
          rcases f1 with f1 | f1
          · exact j1 f1
          · rw [(e19 j1).2] at f1; omega
      rw [if_pos g0] at nB
      rw [ft.1, ft.2, er, nS]
      exact ⟨ntg_k gD (by rw [nB]; exact ntb_1 n1) (by decide) p2, by decide, b + 1, by omega, by omega, rfl⟩
    · have f2 : a ≠ -1 := fun k => f1 (Or.inl k)
      have f3 : 0 ≤ Xi W 19 a.toNat := Classical.byContradiction fun k => f1 (Or.inr (by omega))
      by_cases f4 : whoC W R e = -1
      · have ft := (y2 f2 f3 f4).2
        have er : pc7 U (whrC W R) = pc7 W (whrC W R) := (gU.1 _ (by omega) (by omega)).2.1
        have g1 : gg = 1 := hgi.2 ⟨f2, by rw [← (e19 f2).2]; exact f3⟩
        rw [if_neg (by omega)] at nB
        rw [if_neg (by rw [z1e, (a5 f4).1]; decide), nB] at nD
        rw [ft.1, ft.2, er, nS, nD]
        exact ⟨ntb_1 n1, by decide, whrC W R, by omega, by omega, rfl⟩
      · have := (y3 f2 f3 f4).1; omega

/-! class and reference: INCREASE, DECREASE -/
theorem ntb_e {x : Int × Int × Int} {c p : Int} (h : NTB x c p) : NTB (ntF x c p) c p := by
  unfold ntF
  split
  · exact ⟨rfl, rfl⟩
  · exact h
theorem ntb_lt {x : Int × Int × Int} {c p : Int} (h : x.1 = 0 ∨ p < x.2.1) : NTB (ntF x c p) c p := by
  unfold ntF
  rw [if_pos (by rcases h with h | h <;> simp [h])]
  exact ⟨rfl, rfl⟩
theorem inR_k {x y a b k j : Nat} (h : k < x) : inR (x, y, a, b) k j = false := by
  unfold inR
  cases e : Nat.ble x k with
  | true => exact absurd (Nat.le_of_ble_eq_true e) (by omega)
  | false => rfl
theorem inR_j {x y a b k j : Nat} (h : j < a ∨ b ≤ j) : inR (x, y, a, b) k j = false := by
  have e : (Nat.ble a j && Nat.blt j b) = false := by
    cases e : Nat.ble a j with
    | false => rfl
    | true =>
      have e1 := Nat.le_of_ble_eq_true e
      cases e2 : Nat.blt j b with
      | false => rfl
      | true => exact absurd (Nat.le_of_ble_eq_true e2) (by omega)
  show (Nat.ble x k && (Nat.blt k y && (Nat.ble a j && Nat.blt j b))) = false
  rw [e, Bool.and_false, Bool.and_false]
theorem add_r {W A B S S1 : sS} {f c i cl : Nat} {b e q p z key : Int} (v : ENV W S f) (sk : Xi W 895 3 = 53) (g : AGN W A) (hcl : cl < 600) (h0 : 0 ≤ b) (hb : e < Xi W 876 7) (hq : 0 ≤ q ∧ q ≤ 100000) (hkey : (key = 46 ∧ Xi S 963 i = 3) ∨ (key = 47 ∧ Xi S 963 i = 4)) (k964 : Xi S 964 i = c) (cm : CLM A cl 11 0 (-1) (-1) 0 0 (-1)) (a8 : Xi A 876 8 = 0) (hv : 0 ≤ Xj W 879 (e - 1).toNat ∧ Xj W 879 (e - 1).toNat ≤ 2147483647)
    (rd : ∃ x r : Int, PRE (tkR S) S (f + b + 1) x (Xi S 956 c) ∧ THE (tkR S) S x r (Xi S 954 c) (Xi S 955 c) ∧ tkR S r = 110 ∧ Xi S 957 c = r + 1 ∧ tkR S (r + 1) = 4 ∧ (f : Int) + e = r + 2) (hz : z = 0 ∨ z = 1) (ph : ADO A B cl key (b + 1) e z) (pm : PM3 S S1 i q p) : PRS W A B S S1 cl q p b e z := by
  obtain ⟨x, r, ⟨y, t0, rq, t2, t3, rr⟩, th, _, t5, t6, t7⟩ := rd
  have l1 := rq.1
  have l2 := (the_in th).1
  obtain ⟨Q, rfl⟩ : ∃ u : Int, y = f + u := ⟨y - f, by omega⟩
  obtain ⟨R, rfl⟩ : ∃ u : Int, r = f + u := ⟨r - f, by omega⟩
  have eR : e = R + 2 := by omega
  rw [t3, show (f : Int) + Q + 1 = f + (Q + 1) by omega] at th
  rw [show (f : Int) + b + 1 + 1 = f + (b + 2) by omega] at rq rr
  have sc := v.2.1
  have tb := v.2.2.1
  have n5 := sc.2
  have rqW := rq_r sc tb (a := b + 2) (e := Q) (by omega) (by omega) rq
  have rn : RNR W S f (Xi S 956 c) (b + 2) Q := rr_rnr (by omega) (by omega) ⟨rqW.1, rqW.2.1⟩ rr
  have reQ : re7 (ty7 W) (b + 2) = Q := re_u (by omega) (by omega) rqW.2.1 rqW.2.2
  have ec : pTS S i = c := by unfold pTS; rw [show ((i : Nat) : Int).toNat = i by omega]; exact k964
  have ecn : ((c : Nat) : Int).toNat = c := by omega
  have exs : xPS S i = f + (R + 1) := by unfold xPS; rw [ec, ecn, t5]; omega
  have ty1 : ty7 W (R + 1) = 101 := by
    have k := tkx sc (i := R + 1) ⟨by omega, by omega⟩
    rw [show (f : Int) + (R + 1) = f + R + 1 by omega, t6] at k
    have kb := tb (R + 1)
    unfold tr7 at k
    by_cases c1 : ty7 W (R + 1) < 100
    · rw [if_pos c1] at k; omega
    · rw [if_neg c1] at k
      by_cases c2 : ty7 W (R + 1) = 100
      · rw [if_pos c2] at k; omega
      · rw [if_neg c2] at k
        by_cases c3 : ty7 W (R + 1) = 101
        · exact c3
        · rw [if_neg c3] at k; (repeat' split at k) <;> omega
  have val : Xj S 910 (xPS S i).toNat = Xj W 879 (e - 1).toNat := by
    have k := (sc.1 (R + 1).toNat (by omega)).2.2.2.1 (by rw [← ty7_i (by omega) (by omega)]; exact ty1)
    rw [exs, show ((f : Int) + (R + 1)).toNat = f + (R + 1).toNat by omega, k, eR]
    rw [show R + 2 - 1 = R + 1 by omega]
  obtain ⟨U, eU, po, FB⟩ := ph
  obtain ⟨B', C, D, E, F, z1, w, m1, F1, eC, pmo, F2, eE, nmo, F3, eS⟩ := pm
  rw [ec, ecn] at m1 pmo nmo
  obtain ⟨x1, x2⟩ := pha_x (S := S) (i := i) (p := p) hq (by omega)
  have n0 : NT3 (phA S i q p) = NT3 S := pha_n
  generalize eP : phA S i q p = P0 at *
  have k0 : KEP cPk cPf S P0 := by rw [← eP]; exact pha_k
  have k0C : KEP cPk cPf P0 C := by rw [eC]; exact KEP.tr (F1.kep rfl) (kep_u rfl)
  have kC : KEP cPk cPf S C := KEP.tr k0 k0C
  have kE : KEP cPk cPf S E := by rw [eE]; exact KEP.tr (KEP.tr kC (F2.kep rfl)) (kep_u rfl)
  -- the class's state
  have FU0 : FR [(276, 876, 0, 1)] A (uI A (276 + cl) 0 (Int32.ofInt 9)) := fr_cl hcl
  have FU4 : FR [(276, 876, 4, 5)] (uI A (276 + cl) 0 (Int32.ofInt 9)) U := by rw [eU]; exact fr_cl hcl
  have gU : AGN W U := agn_t (agn_t g (FU0.kep rfl)) (FU4.kep rfl)
  have gl := g.2.1.1
  have rA : re7 (ty7 A) (b + 1 + 1) = Q := by rw [show b + 1 + 1 = b + 2 by omega, (re_n (a := b + 2) g (by omega) (by omega)).1, reQ]
  have j1 : Xj A 879 (e - 1).toNat = Xj W 879 (e - 1).toNat := (g.1 (e - 1) (by omega) (by omega)).2.2
  rw [rA, show b + 1 + 1 = b + 2 by omega] at po
  obtain ⟨o1, o2, o3, _⟩ := who_n (a := Q + 1) (l := Xi A 876 7 - 1) gU (by omega) (by omega)
  obtain ⟨p1, p2⟩ := who_l (a := Q + 1) (l := Xi A 876 7 - 1) (m := Xi W 876 7 - 1) g (by omega) (by omega) (by omega) (by omega)
  rw [p1] at o1
  rw [p2] at o2
  obtain ⟨kc, w2, w3, y1, y2, y3⟩ := po
  have pk : ∀ k, pOK U (b + 2) Q k 1 = pOK W (b + 2) Q k 1 := fun _ => propext (pok_n gU (by omega))
  have mm : mnV U (b + 2) Q = mnV W (b + 2) Q := mn_n gU (by omega)
  rw [o1] at w2 y2 y3
  rw [o2, pk] at w3 y1 y2 y3
  rw [mm] at w3
  rw [o3] at y2
  have u8 : Xi U 876 8 = 0 := by rw [FU4.x 876 8 rfl, FU0.x 876 8 rfl]; exact a8
  -- the thing
  obtain ⟨a1, _, a3, a4, a5, a6⟩ := thf_r (l := Xi W 876 7 - 1) (env_p v k0) (a := Q + 1) (by omega) (the_p k0 th) (by omega) (by omega)
  obtain ⟨z1e, nB⟩ := m1
  rw [← a4, n0] at nB
  have nC : NT3 C = NT3 B' := by rw [eC]; exact nt_u (by decide)
  have ktC' : ∀ t, ktC C t = ktC P0 t := fun t => by
    unfold ktC
    rw [k0C.f 904 115 (by decide), k0C.f 904 116 (by decide), k0C.x 918 rfl]
  have q1 : whoC W (Q + 1) (Xi W 876 7 - 1) = -1 → z1 = -9 ∧ whkC W (Q + 1) (Xi W 876 7 - 1) = -1 := fun k => ⟨by rw [z1e]; exact (a5 k).1, (a5 k).2⟩
  have q2 : whoC W (Q + 1) (Xi W 876 7 - 1) ≠ -1 → THR W C (whoC W (Q + 1) (Xi W 876 7 - 1)) (whkC W (Q + 1) (Xi W 876 7 - 1)) z1 := fun k => by
    have t := a6 k
    rw [← z1e] at t
    exact ⟨t.1, by rw [ktC']; exact t.2.1, t.2.2⟩
  generalize whoC W (Q + 1) (Xi W 876 7 - 1) = wh at *
  generalize whkC W (Q + 1) (Xi W 876 7 - 1) = wk at *
  have rnC : RNR W C f (Xi S 956 c) (b + 2) Q := rn.kS (kC.le rfl (by decide))
  have rnE : RNR W E f (Xi S 956 c) (b + 2) Q := rn.kS (kE.le rfl (by decide))
  obtain ⟨s1, s2, s3, s4, s5⟩ := pok_r (env_p v kC) rnC q1 q2
  have vE := env_p v kE
  have h15 : 0 ≤ Xi E 904 15 := by have := vE.1.1.1.1; omega
  have fC : rnR C (Xi S 956 c) 7 = fnd W 5 (b + 2) Q := (rn_fnd (s := 7) (scx_s (env_p v kC).2.1 (env_p v kC).1.1) rnC (env_p v kC).1.1.2.2.2.1 (by have := (env_p v kC).1.1.1.1; omega) (by omega)).symm
  have fE : rnR E (Xi S 956 c) 7 = fnd W 5 (b + 2) Q := (rn_fnd (s := 7) (scx_s vE.2.1 vE.1.1) rnE vE.1.1.2.2.2.1 h15 (by omega)).symm
  have prC : pR C (Xi S 956 c) = pc7 W (b + 2) := (rn_pc (scx_s (env_p v kC).2.1 (env_p v kC).1.1) rnC).symm
  have prE : pR E (Xi S 956 c) = pc7 W (b + 2) := (rn_pc (scx_s vE.2.1 vE.1.1) rnE).symm
  have x9 : ∀ j, Xi E 928 j = Xi C 928 j := (by rw [eE]; exact KEP.tr (F2.kep rfl) (kep_u rfl) : KEP [(928, 929)] [] C E).x 928 rfl
  obtain ⟨we, pn1, pn2⟩ := pmo
  obtain ⟨nm1, nm2⟩ := nmo
  rw [prC, nC] at pn2
  rw [nC] at pn1
  have nE : NT3 E = NT3 D := by rw [eE]; exact nt_u (by decide)
  rw [prE, nE] at nm2
  rw [nE] at nm1
  rw [fE, ← fC, x9] at nm1 nm2
  have nS : NT3 S1 = NT3 F := by rw [eS]; exact nt_u (by decide)
  have pl1 : pc7 W b ≤ pc7 W (b + 2) := plo_le v h0 (by omega) (by omega)
  have pl2 : pc7 W (b + 2) < pc7 W (whrC W (Q + 1)) := v.2.2.2.2.2.2 _ _ (by omega) (by omega) (by omega)
  have gB : NTG (pc7 W b) (NT3 S) (NT3 B') := by rw [nB]; exact ntg_if ntg_0 (ntg_1 (by omega))
  have gD : NTG (pc7 W b) (NT3 S) (NT3 D) := by
    by_cases k : pmK C (Xi S 956 c) z1
    · rw [pn1 k]; exact gB
    · rw [pn2 k]; exact ntg_n gB pl1
  have gF : NTG (pc7 W b) (NT3 S) (NT3 F) := by
    by_cases k : rnR C (Xi S 956 c) 7 = -1 ∨ Xi C 928 (rnR C (Xi S 956 c) 7).toNat = 0
    · rw [nm1 k]; exact gD
    · rw [nm2 k]; exact ntg_n gD pl1
  refine ⟨by rw [nS]; exact gF, fun zz => ?_, fun zz n1 => ?_⟩
  · have f1 : pOK W (b + 2) Q wk 1 := Classical.byContradiction fun k => by have := (y1 k).1; omega
    have f2 : wh ≠ -1 := fun k => by have := (y2 f1 k).1; omega
    obtain ⟨_, f8⟩ := y3 f1 f2
    obtain ⟨f4, f5, f6⟩ := f1
    have f5 : Xi W 9 (mnV W (b + 2) Q % 256).toNat = 0 := by rcases f5 with f5 | f5; exact absurd f5 (by decide); exact f5
    obtain ⟨r1, r2, r3⟩ := s1 f4
    have pk1 : pmK C (Xi S 956 c) z1 := s3.1 ⟨f4, f6⟩
    have pz := (s4 f2).1 pk1
    have tp := (q2 f2).1
    rw [if_pos (tmp_9 tp).1] at nB
    have nF : NT3 F = NT3 S := by rw [nm1 (Or.inr (by rw [← r3]; exact f5)), pn1 pk1, nB]
    have rc := v.1.2.2.1
    have ew : w = mnV W (b + 2) Q % 256 := by rw [we]; exact pz
    have e3 : Xi S1 973 q.toNat = Xj W 879 (e - 1).toNat := by rw [eS, val, Xi_same (by unfold rg; omega)]
    have e2 : Xi S1 972 q.toNat = mnV W (b + 2) Q % 256 := by
      rw [eS, Xi_ne (by omega), (F3.kep rfl : KEP [(971, 973), (976, 978)] [] E F).x _ rfl, eE, Xi_same (by unfold rg; omega)]
      exact ew
    have e1 : Xi S1 971 q.toNat = z1 := by
      rw [eS, Xi_ne (by omega), (F3.kep rfl : KEP [(971, 973), (976, 978)] [] E F).x _ rfl, eE, Xi_ne (by omega), (F2.kep rfl : KEP [(971, 973), (976, 978)] [] C D).x _ rfl, eC, Xi_same (tm_rg rc tp)]
    have e6 : ∀ k : Nat, k = 976 ∨ k = 977 → Xi S1 k p.toNat = Xi P0 k p.toNat := fun k hk => by
      rw [eS, Xi_ne (by omega)]
      rcases hk with rfl | rfl <;> rw [(F3.kep rfl : KEP [(971, 973), (976, 978)] [] E F).x _ rfl, eE, Xi_ne (by omega), (F2.kep rfl : KEP [(971, 973), (976, 978)] [] C D).x _ rfl, eC, Xi_ne (by omega), (F1.kep rfl : KEP [(971, 973), (976, 978)] [] P0 B').x _ rfl]
    have kcA : KCL A U cl := kcl_w eU (kcl_w rfl KCL.rf)
    obtain ⟨c0, c1, c2, c3, c4, c5, c6⟩ := cm
    have cU : ∀ j : Nat, j ≠ 0 → j ≠ 4 → Xi U (276 + cl) j = Xi A (276 + cl) j := fun j j0 j4 => by rw [eU, Xi_ne (by omega), Xi_ne (by omega)]
    have cB : ∀ j : Nat, j ≠ 2 → j ≠ 3 → Xi B (276 + cl) j = Xi U (276 + cl) j := fun j h2 h3 => by
      have k := FB (276 + cl) j (by
        unfold mdf md_rr_propertyOfThing__p
        simp only [List.any_cons, List.any_nil]
        rw [inR_j (by omega), inR_j (by omega), inR_k (by omega), inR_k (by omega), inR_k (by omega), inR_k (by omega), inR_k (by omega)]
        rfl)
      unfold Xi; rw [k.1]
    have u0 : Xi U (276 + cl) 0 = 9 := by rw [eU, Xi_ne (by omega), Xi_same (by unfold rg; omega)]
    have u4 : Xi U (276 + cl) 4 = Xj W 879 (e - 1).toNat * (if key = 46 then 1 else -1) := by rw [eU, Xi_same (by rw [j1]; unfold rg; split <;> omega), j1]
    refine ⟨by rw [nS, nF], by rw [f8]; exact u8, kcl_tr kcA kc, 9, 0, wh, mnV W (b + 2) Q % 256, Xj W 879 (e - 1).toNat * (if key = 46 then 1 else -1), 0, -1, ⟨by rw [cB 0 (by decide) (by decide)]; exact u0, by rw [cB 1 (by decide) (by decide), cU 1 (by decide) (by decide)]; exact c1, w2, w3 ⟨f4, Or.inr f5, f6⟩, by rw [cB 4 (by decide) (by decide)]; exact u4, by rw [cB 5 (by decide) (by decide), cU 5 (by decide) (by decide)]; exact c5, by rw [cB 6 (by decide) (by decide), cU 6 (by decide) (by decide)]; exact c6⟩, by rw [e6 977 (Or.inr rfl)]; exact x1, Or.inr (Or.inr (Or.inr (Or.inl ⟨?_, rfl, by rw [e1]; exact tmk_i sk tp, e2, ⟨by omega, by omega⟩, f5⟩)))⟩
    rw [e6 976 (Or.inl rfl), x2, e3]
    rcases hkey with ⟨h1, h2⟩ | ⟨h1, h2⟩
    · exact Or.inl ⟨h2, by rw [if_pos h1]; omega⟩
    · exact Or.inr ⟨h2, by rw [if_neg (by omega)]; omega⟩
  · by_cases f1 : pOK W (b + 2) Q wk 1
    · by_cases f2 : wh = -1
      · have ft := (y2 f1 f2).2 u8
        have er : pc7 U (whrC W (Q + 1)) = pc7 W (whrC W (Q + 1)) := (gU.1 _ (by omega) (by omega)).2.1
        obtain ⟨f4, f5, f6⟩ := f1
        have f5 : Xi W 9 (mnV W (b + 2) Q % 256).toNat = 0 := by rcases f5 with f5 | f5; exact absurd f5 (by decide); exact f5
        obtain ⟨r1, r2, r3⟩ := s1 f4
        have pk1 : pmK C (Xi S 956 c) z1 := s3.1 ⟨f4, f6⟩
        have z9 := (q1 f2).1
        rw [if_neg (by omega)] at nB
        rw [ft.1, ft.2, er, nS, nm1 (Or.inr (by rw [← r3]; exact f5)), pn1 pk1, nB]
        exact ⟨ntb_1 n1, by decide, whrC W (Q + 1), by omega, by omega, rfl⟩
      · have := (y3 f1 f2).1; omega
    · have ft := (y1 f1).2 u8
      have er : pc7 U (b + 2) = pc7 W (b + 2) := (gU.1 _ (by omega) (by omega)).2.1
      rw [ft.1, ft.2, er, nS]
      refine ⟨?_, by decide, b + 2, by omega, by omega, rfl⟩
      have xB : (NT3 B').1 = 0 ∨ pc7 W (b + 2) < (NT3 B').2.1 := by
        by_cases z9 : z1 = -9
        · rw [if_neg (by omega)] at nB
          have k := ntb_1 (f := 4) (p := pc7 W (whrC W (Q + 1))) n1
          rw [← nB] at k
          exact Or.inr (by rw [k.2]; exact pl2)
        · rw [if_pos z9] at nB
          exact Or.inl (by rw [nB]; exact n1)
      by_cases k : pmK C (Xi S 956 c) z1
      · obtain ⟨f4, f6⟩ := s3.2 k
        obtain ⟨r1, r2, r3⟩ := s1 f4
        have nn : ¬ (rnR C (Xi S 956 c) 7 = -1 ∨ Xi C 928 (rnR C (Xi S 956 c) 7).toNat = 0) := fun h => by
          rcases h with h | h
          · exact k.1 h
          · exact f1 ⟨f4, Or.inr (by rw [r3]; exact h), f6⟩
        rw [nm2 nn, pn1 k]
        exact ntb_lt xB
      · have dd : NTB (NT3 D) 4 (pc7 W (b + 2)) := by rw [pn2 k]; exact ntb_lt xB
        by_cases nn : rnR C (Xi S 956 c) 7 = -1 ∨ Xi C 928 (rnR C (Xi S 956 c) 7).toNat = 0
        · rw [nm1 nn]; exact dd
        · rw [nm2 nn]; exact ntb_e dd
end
section
/-! words in [ ]: both find the same -/
theorem we_q {B : Nat → Int} {E q : Int} (hq : q ≤ E) (l : lt7 (B q.toNat) = 0) : ∀ (m : Nat) (s : Int), s + m = q → we7 B E s = we7 B q s
  | 0, s, h => by rw [show s = q by omega, we7_n l, we7_e (Int.le_refl _)]
  | m + 1, s, h => by
    by_cases k : lt7 (B s.toNat) = 0
    · rw [we7_n k, we7_n k]
    · rw [we7_s (by omega) k, we7_s (by omega) k]
      exact we_q hq l m (s + 1) (by omega)
theorem wl_le {B : Nat → Int} {to : Int} : ∀ (L : List (Int × Int)) (a p : Int), WLp B to a L p → a ≤ p ∧ p ≤ to
  | [], a, p, h => ⟨h.1, h.2.1⟩
  | (s, e) :: L, a, p, h => by
    obtain ⟨⟨h1, h2, _⟩, _, h4, _, _, h7⟩ := h
    have k := wl_le L e p h7
    have w := (we7_b (B := B) (e := to) (p := s)).1
    omega
theorem wl_q {B : Nat → Int} {E q : Int} (hq : q ≤ E) (l : lt7 (B q.toNat) = 0) : ∀ (L : List (Int × Int)) (a p : Int), p ≤ q → WLp B E a L p → WLp B q a L p
  | [], a, p, hp, h => ⟨h.1, hp, h.2.2⟩
  | (s, e) :: L, a, p, hp, h => by
    obtain ⟨⟨h1, h2, h3⟩, h4, h5, h6, h7, h8⟩ := h
    have k := wl_le L e p h8
    have w := (we7_b (B := B) (e := E) (p := s)).1
    have sq : s < q := by omega
    exact ⟨⟨h1, sq, h3⟩, h4, by rw [h5]; exact we_q hq l (q - s).toNat s (by omega), h6, h7, wl_q hq l L e p hp h8⟩
theorem wl_c {B C : Nat → Int} {to : Int} (be : BE B C to) : ∀ (L : List (Int × Int)) (a p : Int), 0 ≤ a → WLp B to a L p → WLp C to a L p
  | [], a, p, h0, h => ⟨h.1, h.2.1, fun q q0 q1 => by have t := h.2.2 q q0 q1; rw [← t]; exact (be q.toNat (by have := h.2.1; omega)).symm⟩
  | (s, e) :: L, a, p, h0, h => by
    obtain ⟨⟨h1, h2, h3⟩, h4, h5, h6, h7, h8⟩ := h
    have w := (we7_b (B := B) (e := to) (p := s)).1
    have bs := be s.toNat (by omega)
    refine ⟨⟨h1, h2, fun q q0 q1 => by have t := h3 q q0 q1; rw [← t]; exact (be q.toNat (by omega)).symm⟩, by rw [← bs]; exact h4, by rw [h5]; exact we7_c be (by omega), h6, h7, wl_c be L e p (by omega) h8⟩
def StW (B : Nat → Int) (to p : Int) : Prop := p = to ∨ (p < to ∧ B p.toNat ≠ 32 ∧ (we7 B to p = p ∨ 12 < we7 B to p - p))
theorem wl_u {B : Nat → Int} {to p p' : Int} (u : StW B to p) (u' : StW B to p') : ∀ (L L' : List (Int × Int)) (a : Int), WLp B to a L p → WLp B to a L' p' → L = L' ∧ p = p'
  | [], [], a, h, h' => by
    refine ⟨rfl, ?_⟩
    obtain ⟨h1, h2, h3⟩ := h
    obtain ⟨k1, k2, k3⟩ := h'
    by_cases c : p < p'
    · rcases u with u | u
      · omega
      · exact absurd (k3 p h1 c) u.2.1
    · by_cases d : p' < p
      · rcases u' with u | u
        · omega
        · exact absurd (h3 p' k1 d) u.2.1
      · omega
  | [], (s, e) :: L', a, h, h' => by
    obtain ⟨h1, h2, h3⟩ := h
    obtain ⟨⟨k1, k2, k3⟩, k4, k5, k6, k7, _⟩ := h'
    exfalso
    have sp : s = p := by
      by_cases c : p < s
      · rcases u with u | u
        · omega
        · exact absurd (k3 p h1 c) u.2.1
      · by_cases d : s < p
        · exact absurd (h3 s k1 d) k4
        · omega
    rcases u with u | ⟨_, _, u | u⟩
    · omega
    · rw [← sp] at u; omega
    · rw [← sp] at u; omega
  | (s, e) :: L, [], a, h, h' => by
    obtain ⟨h1, h2, h3⟩ := h'
    obtain ⟨⟨k1, k2, k3⟩, k4, k5, k6, k7, _⟩ := h
    exfalso
    have sp : s = p' := by
      by_cases c : p' < s
      · rcases u' with u | u
        · omega
        · exact absurd (k3 p' h1 c) u.2.1
      · by_cases d : s < p'
        · exact absurd (h3 s k1 d) k4
        · omega
    rcases u' with u | ⟨_, _, u | u⟩
    · omega
    · rw [← sp] at u; omega
    · rw [← sp] at u; omega
  | (s, e) :: L, (s', e') :: L', a, h, h' => by
    obtain ⟨⟨h1, h2, h3⟩, h4, h5, h6, h7, h8⟩ := h
    obtain ⟨⟨k1, k2, k3⟩, k4, k5, k6, k7, k8⟩ := h'
    have ss : s = s' := by
      by_cases c : s < s'
      · exact absurd (k3 s h1 c) h4
      · by_cases d : s' < s
        · exact absurd (h3 s' k1 d) k4
        · omega
    subst ss
    have ee : e = e' := by rw [h5, k5]
    subst ee
    obtain ⟨i1, i2⟩ := wl_u u u' L L' e h8 k8
    exact ⟨by rw [i1], i2⟩
/-- a list that goes on is longer -/
theorem wl_64 {B : Nat → Int} {to p p' : Int} (u : StW B to p) : ∀ (L L' : List (Int × Int)) (a : Int), WLp B to a L p → WLp B to a L' p' → L'.length ≤ L.length
  | _, [], _, _, _ => Nat.zero_le _
  | [], (s, e) :: L', a, h, h' => by
    obtain ⟨h1, h2, h3⟩ := h
    obtain ⟨⟨k1, k2, k3⟩, k4, k5, k6, k7, _⟩ := h'
    exfalso
    have sp : s = p := by
      by_cases c : p < s
      · rcases u with u | u
        · omega
        · exact absurd (k3 p h1 c) u.2.1
      · by_cases d : s < p
        · exact absurd (h3 s k1 d) k4
        · omega
    rcases u with u | ⟨_, _, u | u⟩
    · omega
    · rw [← sp] at u; omega
    · rw [← sp] at u; omega
  | (s, e) :: L, (s', e') :: L', a, h, h' => by
    obtain ⟨⟨h1, h2, h3⟩, h4, h5, h6, h7, h8⟩ := h
    obtain ⟨⟨k1, k2, k3⟩, k4, k5, k6, k7, k8⟩ := h'
    have ss : s = s' := by
      by_cases c : s < s'
      · exact absurd (k3 s h1 c) h4
      · by_cases d : s' < s
        · exact absurd (h3 s' k1 d) k4
        · omega
    subst ss
    have ee : e = e' := by rw [h5, k5]
    subst ee
    have i := wl_64 u L L' e h8 k8
    show L'.length + 1 ≤ L.length + 1
    omega
/-- what a list goes over is blanks and letters -/
theorem wl_in {B : Nat → Int} {to : Int} : ∀ (L : List (Int × Int)) (a p : Int), WLp B to a L p → ∀ j : Int, a ≤ j → j < p → B j.toNat = 32 ∨ lt7 (B j.toNat) > 0
  | [], a, p, h, j, j0, j1 => Or.inl (h.2.2 j j0 j1)
  | (s, e) :: L, a, p, h, j, j0, j1 => by
    obtain ⟨⟨h1, h2, h3⟩, h4, h5, h6, h7, h8⟩ := h
    by_cases c : j < s
    · exact Or.inl (h3 j j0 c)
    · by_cases d : j < e
      · exact Or.inr (we7_lt (e := to) (s := s) (by omega) (by rw [← h5]; exact d))
      · exact wl_in L e p h8 j (by omega) j1
/-- each word of a list -/
theorem wl_ww {B : Nat → Int} {to : Int} : ∀ (L : List (Int × Int)) (a p : Int), 0 ≤ a → WLp B to a L p → ∀ i : Nat, i < L.length → 0 ≤ (L.getD i (0, 0)).1 ∧ 1 ≤ (L.getD i (0, 0)).2 - (L.getD i (0, 0)).1 ∧ (L.getD i (0, 0)).2 - (L.getD i (0, 0)).1 ≤ 12 ∧ (L.getD i (0, 0)).2 ≤ to ∧ ∀ j : Int, (L.getD i (0, 0)).1 ≤ j → j < (L.getD i (0, 0)).2 → lt7 (B j.toNat) > 0
  | [], _, _, _, _, i, hi => absurd hi (Nat.not_lt_zero _)
  | (s, e) :: L, a, p, h0, h, i, hi => by
    obtain ⟨⟨h1, h2, h3⟩, h4, h5, h6, h7, h8⟩ := h
    have w := we7_b (B := B) (e := to) (p := s)
    cases i with
    | zero =>
      show 0 ≤ s ∧ 1 ≤ e - s ∧ e - s ≤ 12 ∧ e ≤ to ∧ ∀ j : Int, s ≤ j → j < e → lt7 (B j.toNat) > 0
      exact ⟨by omega, by omega, h7, by rw [h5]; exact w.2 (by omega), fun j j0 j1 => we7_lt (e := to) (s := s) j0 (by rw [← h5]; exact j1)⟩
    | succ i => exact wl_ww L e p (by omega) h8 i (by have : i + 1 < L.length + 1 := hi; omega)
/-- brackets -/
theorem brk_o {B : Nat → Int} {f : Int} (f0 : 0 ≤ f) : ∀ (n : Nat) (o : Int) (L : List (Int × Int)), brF B f n = some (o, L) → (o ≠ -1 → f ≤ o ∧ o < f + n ∧ B o.toNat = 91 ∧ ∀ j : Int, o < j → j < f + n → B j.toNat ≠ 91 ∧ B j.toNat ≠ 93) ∧ ∀ x ∈ L, f ≤ x.1 ∧ x.1 < x.2 ∧ x.2 < f + n ∧ B x.1.toNat = 91 ∧ B x.2.toNat = 93 ∧ ∀ j : Int, x.1 < j → j < x.2 → B j.toNat ≠ 91 ∧ B j.toNat ≠ 93
  | 0, o, L, h => by
    have h : some ((-1 : Int), ([] : List (Int × Int))) = some (o, L) := h
    simp only [Option.some.injEq, Prod.mk.injEq] at h
    obtain ⟨h1, h2⟩ := h
    subst h1; subst h2
    exact ⟨fun k => absurd rfl k, fun x hx => by cases hx⟩
  | n + 1, o, L, h => by
    rw [brF] at h
    cases e : brF B f n with
    | none => rw [e] at h; exact absurd h (by simp)
    | some y =>
      obtain ⟨o', L'⟩ := y
      rw [e] at h
      obtain ⟨i1, i2⟩ := brk_o f0 n o' L' e
      simp only at h
      have up : ∀ x ∈ L', f ≤ x.1 ∧ x.1 < x.2 ∧ x.2 < f + ((n + 1 : Nat) : Int) ∧ B x.1.toNat = 91 ∧ B x.2.toNat = 93 ∧ ∀ j : Int, x.1 < j → j < x.2 → B j.toNat ≠ 91 ∧ B j.toNat ≠ 93 := fun x hx => by
        obtain ⟨a1, a2, a3, a4⟩ := i2 x hx
        exact ⟨a1, a2, by omega, a4⟩
      by_cases c : B (f + n).toNat = 91
      · rw [if_pos c] at h
        by_cases d : o' = -1
        · rw [if_pos d] at h
          simp only [Option.some.injEq, Prod.mk.injEq] at h
          obtain ⟨h1, h2⟩ := h
          subst h1; subst h2
          exact ⟨fun _ => ⟨by omega, by omega, c, fun j j0 j1 => by omega⟩, up⟩
        · rw [if_neg d] at h; exact absurd h (by simp)
      · rw [if_neg c] at h
        by_cases d : B (f + n).toNat = 93
        · rw [if_pos d] at h
          by_cases g : o' = -1
          · rw [if_pos g] at h; exact absurd h (by simp)
          · rw [if_neg g] at h
            simp only [Option.some.injEq, Prod.mk.injEq] at h
            obtain ⟨h1, h2⟩ := h
            subst h1; subst h2
            obtain ⟨a1, a2, a3, a4⟩ := i1 g
            refine ⟨fun k => absurd rfl k, fun x hx => ?_⟩
            rcases List.mem_cons.mp hx with hx | hx
            · rw [hx]; exact ⟨a1, a2, by show f + (n : Int) < f + ((n + 1 : Nat) : Int); omega, a3, d, a4⟩
            · exact up x hx
        · rw [if_neg d] at h
          simp only [Option.some.injEq, Prod.mk.injEq] at h
          obtain ⟨h1, h2⟩ := h
          subst h1; subst h2
          refine ⟨fun k => ?_, up⟩
          obtain ⟨a1, a2, a3, a4⟩ := i1 k
          refine ⟨a1, by omega, a3, fun j j0 j1 => ?_⟩
          by_cases g : j < f + n
          · exact a4 j j0 g
          · rw [show j = f + n by omega]; exact ⟨c, d⟩
/-- a bracket that is opened, or closed, is in the list -/
theorem brk_m {B : Nat → Int} {f : Int} {m : Nat} {o : Int} {L : List (Int × Int)} (h : brF B f m = some (o, L)) : ∀ (k : Nat) (o' : Int) (L' : List (Int × Int)), brF B f (m + k) = some (o', L') → (∀ x ∈ L, x ∈ L') ∧ (o ≠ -1 → o' = o ∨ ∃ q : Int, (o, q) ∈ L')
  | 0, o', L', h' => by
    rw [Nat.add_zero, h] at h'
    simp only [Option.some.injEq, Prod.mk.injEq] at h'
    obtain ⟨h1, h2⟩ := h'
    subst h1; subst h2
    exact ⟨fun x hx => hx, fun _ => Or.inl rfl⟩
  | k + 1, o', L', h' => by
    rw [show m + (k + 1) = (m + k) + 1 by omega, brF] at h'
    cases e : brF B f (m + k) with
    | none => rw [e] at h'; exact absurd h' (by simp)
    | some y =>
      obtain ⟨o2, L2⟩ := y
      rw [e] at h'
      obtain ⟨i1, i2⟩ := brk_m h k o2 L2 e
      simp only at h'
      by_cases c : B (f + ((m + k : Nat) : Int)).toNat = 91
      · rw [if_pos c] at h'
        by_cases d : o2 = -1
        · rw [if_pos d] at h'
          simp only [Option.some.injEq, Prod.mk.injEq] at h'
          obtain ⟨h1, h2⟩ := h'
          subst h2
          refine ⟨i1, fun ne => Or.inr ?_⟩
          rcases i2 ne with i | i
          · exact absurd (i.symm.trans d) ne
          · exact i
        · rw [if_neg d] at h'; exact absurd h' (by simp)
      · rw [if_neg c] at h'
        by_cases d : B (f + ((m + k : Nat) : Int)).toNat = 93
        · rw [if_pos d] at h'
          by_cases g : o2 = -1
          · rw [if_pos g] at h'; exact absurd h' (by simp)
          · rw [if_neg g] at h'
            simp only [Option.some.injEq, Prod.mk.injEq] at h'
            obtain ⟨h1, h2⟩ := h'
            subst h2
            refine ⟨fun x hx => List.mem_cons_of_mem _ (i1 x hx), fun ne => Or.inr ?_⟩
            rcases i2 ne with i | ⟨q, i⟩
            · exact ⟨_, by rw [← i]; exact List.mem_cons_self ..⟩
            · exact ⟨q, List.mem_cons_of_mem _ i⟩
        · rw [if_neg d] at h'
          simp only [Option.some.injEq, Prod.mk.injEq] at h'
          obtain ⟨h1, h2⟩ := h'
          subst h1; subst h2
          exact ⟨i1, i2⟩
/-- bytes that agree: the same brackets -/
theorem brx_c {B C : Nat → Int} {f : Int} : ∀ n : Nat, (∀ j : Int, f ≤ j → j < f + n → B j.toNat = C j.toNat) → brF B f n = brF C f n
  | 0, _ => rfl
  | n + 1, h => by
    have ih := brx_c (B := B) (C := C) (f := f) n (fun j j0 j1 => h j j0 (by omega))
    have e := h (f + n) (by omega) (by omega)
    rw [brF, brF, ih, e]
end
section
/-! what stands in [ ] means the same to both -/
def INSD (T X : sS) (c n : Nat) : Prop := (∀ i : Nat, i < n → ikR X i = tr7 (ty7 T ((c : Int) + i)) ∧ (0 ≤ ty7 T ((c : Int) + i) ∧ ty7 T ((c : Int) + i) ≤ 100) ∧ wdC (Xj T 879 (c + i)) ∧ Xj X 994 i = cv (Xj T 879 (c + i))) ∧ ty7 T ((c : Int) + n) = 107 ∧ Xi T 876 7 = c + n + 1 ∧ Xi X 904 160 = n ∧ c + n + 1 ≤ 5130
theorem ins_i {T X : sS} {c n : Nat} {i : Int} (h : INSD T X c n) (h0 : 0 ≤ i) (h1 : i < n) : ikR X i = tr7 (ty7 T (c + i)) ∧ (0 ≤ ty7 T (c + i) ∧ ty7 T (c + i) ≤ 100) ∧ wdC (Xj T 879 (c + i).toNat) ∧ Xj X 994 i.toNat = cv (Xj T 879 (c + i).toNat) := by
  have k := h.1 i.toNat (by omega)
  rw [show ((i.toNat : Nat) : Int) = i by omega] at k
  rw [show ((c : Int) + i).toNat = c + i.toNat by omega]
  exact k
theorem ins_t {T X : sS} {c n : Nat} {i : Int} (h : INSD T X c n) (h0 : 0 ≤ i) (h1 : i ≤ n) : 0 ≤ ty7 T (c + i) ∧ ty7 T (c + i) ≤ 107 := by
  by_cases q : i = n
  · rw [q, h.2.1]; decide
  · have k := (ins_i h h0 (by omega)).2.1
    omega
theorem fi_r {T X : sS} {c n : Nat} {a b s : Int} (h : INSD T X c n) (v : VOC T X) (hx : LXR X) (h0 : 0 ≤ a) (hb : b ≤ n) (fr : ∀ i : Int, a ≤ i → i < b → ty7 T (c + i) = 100) (hs : 0 ≤ s ∧ s ≤ 12) : fnd T (sg7 s) (c + a) (c + b) = if fiR X a (b - a) ≠ -1 ∧ Xi X 914 (fiR X a (b - a)).toNat = s then Xi X 915 (fiR X a (b - a)).toNat else -1 := by
  have us := (ug_sg hs).2
  by_cases q : 1 ≤ b - a ∧ b - a ≤ 3
  · have h5 := h.2.2.2.2
    have fk : frK X a (b - a) := fun j j0 j1 => by
      rw [(ins_i h (i := a + j) (by omega) (by omega)).1, fr (a + j) (by omega) (by omega)]; rfl
    have w0 := (ins_i h (i := a) (by omega) (by omega)).2.2
    have w1 : 1 < b - a → wdC (Xj T 879 (c + (a + 1)).toNat) ∧ Xj X 994 (a + 1).toNat = cv (Xj T 879 (c + (a + 1)).toNat) := fun r => (ins_i h (i := a + 1) (by omega) (by omega)).2.2
    have w2 : 2 < b - a → wdC (Xj T 879 (c + (a + 2)).toNat) ∧ Xj X 994 (a + 2).toNat = cv (Xj T 879 (c + (a + 2)).toNat) := fun r => (ins_i h (i := a + 2) (by omega) (by omega)).2.2
    have u := voc_m (x := Xj T 879 (c + a).toNat) (y := Xj T 879 (c + (a + 1)).toNat) (z := Xj T 879 (c + (a + 2)).toNat) (n := b - a) v q w0.1 (fun r => (w1 r).1) (fun r => (w2 r).1)
    have c1 : (if 1 < b - a then cv (Xj T 879 (c + (a + 1)).toNat) else 0) = (if 1 < b - a then Xj X 994 (a + 1).toNat else 0) := by
      by_cases r : 1 < b - a
      · rw [if_pos r, if_pos r, (w1 r).2]
      · rw [if_neg r, if_neg r]
    have c2 : (if 2 < b - a then cv (Xj T 879 (c + (a + 2)).toNat) else 0) = (if 2 < b - a then Xj X 994 (a + 2).toNat else 0) := by
      by_cases r : 2 < b - a
      · rw [if_pos r, if_pos r, (w2 r).2]
      · rw [if_neg r, if_neg r]
    rw [← w0.2, c1, c2, ← fiR_y fk q rfl rfl rfl] at u
    have d1 : (if 1 < ((c : Int) + b - (c + a)).toNat then Xj T 879 (((c : Int) + a).toNat + 1) else 0) = (if 1 < b - a then Xj T 879 ((c : Int) + (a + 1)).toNat else 0) := by
      by_cases r : 1 < b - a
      · rw [if_pos r, if_pos (by omega), show ((c : Int) + a).toNat + 1 = ((c : Int) + (a + 1)).toNat by omega]
      · rw [if_neg r, if_neg (by omega)]
    have d2 : (if 2 < ((c : Int) + b - (c + a)).toNat then Xj T 879 (((c : Int) + a).toNat + 2) else 0) = (if 2 < b - a then Xj T 879 ((c : Int) + (a + 2)).toNat else 0) := by
      by_cases r : 2 < b - a
      · rw [if_pos r, if_pos (by omega), show ((c : Int) + a).toNat + 2 = ((c : Int) + (a + 2)).toNat by omega]
      · rw [if_neg r, if_neg (by omega)]
    have mv : mnV T (c + a) (c + b) = (if fiR X a (b - a) = -1 then -1 else sg7 (Xi X 914 (fiR X a (b - a)).toNat) * 256 + Xi X 915 (fiR X a (b - a)).toNat) := by
      unfold mnV
      rw [if_pos (by omega)]
      unfold mnR
      rw [d1, d2]
      exact u
    have rg : fiR X a (b - a) = -1 ∨ (0 ≤ fiR X a (b - a) ∧ fiR X a (b - a) < Xi X 904 15) := by
      have h15 : 0 ≤ Xi X 904 15 := by have := v.1; omega
      have k := fdR_rg (S := X) (a := Xj X 994 a.toNat) (b := if 1 < b - a then Xj X 994 (a + 1).toNat else 0) (c := if 2 < b - a then Xj X 994 (a + 2).toNat else 0) (n := b - a) (Xi X 904 15).toNat
      rw [← fiR_y fk q rfl rfl rfl] at k
      omega
    unfold fnd
    rw [mv]
    by_cases k : fiR X a (b - a) = -1
    · rw [if_pos k, if_neg (by omega), if_neg (fun z => z.1 k)]
    · rw [if_neg k]
      obtain ⟨x1, x2⟩ := hx (fiR X a (b - a)).toNat (by omega)
      have u2 := (ug_sg x1).2
      by_cases w : Xi X 914 (fiR X a (b - a)).toNat = s
      · rw [if_pos (show (sg7 (Xi X 914 (fiR X a (b - a)).toNat) * 256 + Xi X 915 (fiR X a (b - a)).toNat) / 256 = sg7 s by rw [w]; rw [w] at u2; omega), if_pos ⟨k, w⟩]
        omega
      · rw [if_neg (fun z => w (sg_inj x1 hs (by omega))), if_neg (fun z => w z.2)]
  · rw [fiR_n (fun z => q z.2), if_neg (fun z => z.1 rfl)]
    refine fnd_no ?_ us.1
    unfold mnV
    rw [if_neg (by omega)]
theorem reN {T X : sS} {c n : Nat} {x : Int} (h : INSD T X c n) (h0 : 0 ≤ x) (h1 : x ≤ (c : Int) + n) : x ≤ re7 (ty7 T) x ∧ re7 (ty7 T) x ≤ (c : Int) + n ∧ (∀ j : Int, x ≤ j → j < re7 (ty7 T) x → ty7 T j = 100) ∧ ruF T x ((c : Int) + n) = re7 (ty7 T) x := by
  obtain ⟨s1, s2⟩ := re_sp (T := ty7 T) 5131 x
  have le : re7 (ty7 T) x ≤ (c : Int) + n := Classical.byContradiction fun k => by
    have t := s2 ((c : Int) + n) h1 (by show (c : Int) + n < re7 (ty7 T) x; omega)
    rw [h.2.1] at t
    exact absurd t (by decide)
  refine ⟨s1, le, s2, ?_⟩
  rw [ru_m h0, if_pos h1, if_pos le]
theorem reA {T X : sS} {c n : Nat} {x : Int} (h : INSD T X c n) (h0 : 0 ≤ x) (h1 : x ≤ (c : Int) + n) : re7 (ty7 T) x = (c : Int) + n ↔ ∀ j : Int, x ≤ j → j < (c : Int) + n → ty7 T j = 100 := by
  have h5 := h.2.2.2.2
  refine ⟨fun e => by have k := (reN h h0 h1).2.2.1; rw [e] at k; exact k, fun k => re_u h1 (by omega) k (by rw [h.2.1]; decide)⟩
theorem itR9 {X : sS} {a f : Int} (h : ¬ (0 < Xi X 904 160 - a ∧ ikR X (Xi X 904 160 - 1) = 153)) (hf : f = (if 0 < Xi X 904 160 - a ∧ 100 ≤ ikR X a ∧ ikR X a ≤ 103 then a + 1 else a)) (k : ¬ (frK X f (Xi X 904 160 - f) ∧ 1 ≤ Xi X 904 160 - f ∧ Xi X 904 160 - f ≤ 3)) : itR X a = -9 := (itR_3 (z := -9) h hf rfl (by rw [fiR_n k, if_neg (fun z => z.1 rfl)])).symm
/-- THING in [ ] -/
theorem th_i {T X : sS} {c n : Nat} {a : Int} (h : INSD T X c n) (w : RLW T X) (sl : SLF T X) (sk : Xi T 895 3 = 53) (h0 : 0 ≤ a) (h1 : a ≤ n) : (wheC T (c + a) (c + n) = (c : Int) + n ∧ whoC T (c + a) (c + n) ≠ -1 → THR T X (whoC T (c + a) (c + n)) (whkC T (c + a) (c + n)) (itR X a)) ∧ (¬ (wheC T (c + a) (c + n) = (c : Int) + n ∧ whoC T (c + a) (c + n) ≠ -1) → itR X a = -9) := by
  have e160 := h.2.2.2.1
  have tN := h.2.1
  obtain ⟨sl1, sl2, sl3⟩ := sl
  have e116 : Xi T 895 4 = Xi X 904 116 := by rcases sl1 with k | k <;> omega
  by_cases m0 : a = n
  · subst m0
    have tk : thk (ty7 T) ((c : Int) + n) = 107 := by unfold thk; rw [tN, if_neg (fun z => absurd z.1 (by decide))]
    have ba : bA (ty7 T) ((c : Int) + n) = (c : Int) + n := by unfold bA; rw [tN, if_neg (by decide)]
    have k := (reA h (x := (c : Int) + n) (by omega) (Int.le_refl _)).2 (fun j j0 j1 => by omega)
    have who : whoC T ((c : Int) + n) (c + n) = -1 := by
      unfold whoC
      rw [tk, if_neg (by decide), ba, (reN h (by omega) (Int.le_refl _)).2.2.2, k]
      exact Classical.byContradiction fun z => by have := fnd_lt (by decide) z; omega
    exact ⟨fun z => absurd who z.2, fun _ => itR9 (by rw [e160]; omega) rfl (by rw [e160, if_neg (by omega)]; omega)⟩
  have an : a < n := by omega
  have iA := ins_i h h0 an
  have iL := ins_i h (i := (n : Int) - 1) (by omega) (by omega)
  have tA := iA.2.1
  have t1 := ins_t h (i := a + 1) (by omega) (by omega)
  rw [show (c : Int) + (a + 1) = c + a + 1 by omega] at t1
  have eL : ikR X (Xi X 904 160 - 1) = 153 ↔ ty7 T ((c : Int) + (n - 1)) = 53 := by
    rw [e160, iL.1]
    exact tr_key ⟨iL.2.1.1, by omega⟩ (by omega)
  have eA : ikR X a = 102 ↔ ty7 T ((c : Int) + a) = 2 := by rw [iA.1]; exact tr_key ⟨tA.1, by omega⟩ (by omega)
  have artA : (100 ≤ ikR X a ∧ ikR X a ≤ 103) ↔ (0 ≤ ty7 T ((c : Int) + a) ∧ ty7 T ((c : Int) + a) ≤ 3) := by rw [iA.1]; exact (tr_k ⟨tA.1, by omega⟩).2.2.2
  have bAle : (c : Int) + a ≤ bA (ty7 T) (c + a) ∧ bA (ty7 T) (c + a) ≤ c + a + 1 := by unfold bA; split <;> omega
  have rb := reN h (x := bA (ty7 T) (c + a)) (by omega) (by omega)
  have ra := reA h (x := bA (ty7 T) (c + a)) (by omega) (by omega)
  have hthe : the7 (ty7 T) (c + a) = if ty7 T ((c : Int) + a) = 2 ∧ ty7 T ((c : Int) + a + 1) = 53 then (c : Int) + a + 2 else c + a + 1 := rfl
  have hthk : thk (ty7 T) (c + a) = if ty7 T ((c : Int) + a) = 2 ∧ ty7 T ((c : Int) + a + 1) = 53 then 53 else ty7 T ((c : Int) + a) := rfl
  by_cases lst : ty7 T ((c : Int) + (n - 1)) = 53
  · have l1 : 0 < Xi X 904 160 - a ∧ ikR X (Xi X 904 160 - 1) = 153 := ⟨by omega, eL.2 lst⟩
    by_cases g : (n : Int) - a = 1 ∨ ((n : Int) - a = 2 ∧ ty7 T ((c : Int) + a) = 2)
    · have kk : thk (ty7 T) (c + a) = 53 ∧ the7 (ty7 T) (c + a) = (c : Int) + n := by
        rw [hthe, hthk]
        rcases g with g | ⟨g, g2⟩
        · rw [show (c : Int) + (n - 1) = c + a by omega] at lst
          rw [lst, if_neg (fun z => absurd z.1 (by decide)), if_neg (fun z => absurd z.1 (by decide))]
          exact ⟨rfl, by omega⟩
        · rw [show (c : Int) + (n - 1) = c + a + 1 by omega] at lst
          rw [if_pos ⟨g2, lst⟩, if_pos ⟨g2, lst⟩]
          exact ⟨rfl, by omega⟩
      have whe : wheC T (c + a) (c + n) = (c : Int) + n := by unfold wheC; rw [kk.1, if_pos (Or.inl rfl), kk.2]
      have g' : (Xi X 904 160 - a = 1 ∨ (Xi X 904 160 - a = 2 ∧ ikR X a = 102)) := by rw [e160, eA]; exact g
      by_cases k : Xi T 895 4 = -1
      · have who : whoC T (c + a) (c + n) = -1 := by unfold whoC; rw [kk.1, if_pos (Or.inl rfl), if_neg (fun z => z.2 k)]
        exact ⟨fun z => absurd who z.2, fun _ => itR_2 l1 (fun z => z.2 (by rw [← e116]; exact k))⟩
      · have who : whoC T (c + a) (c + n) = -2 := by unfold whoC; rw [kk.1, if_pos (Or.inl rfl), if_pos ⟨sk.symm, k⟩]
        have whk : whkC T (c + a) (c + n) = Xi T 895 4 := by unfold whkC; rw [kk.1, if_pos (Or.inl rfl), if_pos ⟨sk.symm, k⟩]
        refine ⟨fun _ => ?_, fun z => absurd ⟨whe, by rw [who]; decide⟩ z⟩
        rw [who, whk, itR_1 l1 ⟨g', by rw [← e116]; exact k⟩]
        refine ⟨Or.inl ⟨rfl, by rw [sk]; rfl⟩, ?_, by omega, by omega⟩
        rw [e116]; rfl
    · refine ⟨fun z => ?_, fun _ => itR_2 l1 (fun z => g (by rw [← eA, ← e160]; exact z.1))⟩
      exfalso
      obtain ⟨z1, _⟩ := z
      unfold wheC at z1
      by_cases k : thk (ty7 T) (c + a) = 53 ∨ thk (ty7 T) (c + a) = 54
      · rw [if_pos k, hthe] at z1
        by_cases k2 : ty7 T ((c : Int) + a) = 2 ∧ ty7 T ((c : Int) + a + 1) = 53
        · rw [if_pos k2] at z1; exact g (Or.inr ⟨by omega, k2.1⟩)
        · rw [if_neg k2] at z1; exact g (Or.inl (by omega))
      · rw [if_neg k, rb.2.2.2] at z1
        by_cases k2 : bA (ty7 T) (c + a) ≤ c + n - 1
        · have t := ra.1 z1 ((c : Int) + (n - 1)) (by omega) (by omega)
          rw [lst] at t
          exact absurd t (by decide)
        · exact g (Or.inl (by omega))
  · have l1 : ¬ (0 < Xi X 904 160 - a ∧ ikR X (Xi X 904 160 - 1) = 153) := fun z => lst (eL.1 z.2)
    by_cases k : thk (ty7 T) (c + a) = 53 ∨ thk (ty7 T) (c + a) = 54
    · refine ⟨fun z => ?_, fun _ => ?_⟩
      · exfalso
        obtain ⟨z1, z2⟩ := z
        unfold wheC at z1
        rw [if_pos k, hthe] at z1
        by_cases k2 : ty7 T ((c : Int) + a) = 2 ∧ ty7 T ((c : Int) + a + 1) = 53
        · rw [if_pos k2] at z1
          exact lst (by rw [show (c : Int) + (n - 1) = c + a + 1 by omega]; exact k2.2)
        · rw [if_neg k2] at z1
          rw [hthk, if_neg k2] at k
          rcases k with k | k
          · exact lst (by rw [show (c : Int) + (n - 1) = c + a by omega]; exact k)
          · refine z2 ?_
            unfold whoC
            rw [hthk, if_neg k2, k, if_pos (Or.inr rfl), if_neg (fun z => by have := z.1; omega)]
      · by_cases k2 : ty7 T ((c : Int) + a) = 2 ∧ ty7 T ((c : Int) + a + 1) = 53
        · have a1 : a + 1 < n := Classical.byContradiction fun y => by
            have := k2.2
            rw [show (c : Int) + a + 1 = c + n by omega, tN] at this
            exact absurd this (by decide)
          refine itR9 (f := a + 1) l1 (by rw [if_pos ⟨by omega, artA.2 (by omega)⟩]) (fun y => ?_)
          have t := y.1 0 (Int.le_refl _) (by omega)
          rw [Int.add_zero, (ins_i h (i := a + 1) (by omega) a1).1, show (c : Int) + (a + 1) = c + a + 1 by omega, k2.2] at t
          exact absurd t (by decide)
        · rw [hthk, if_neg k2] at k
          refine itR9 (f := a) l1 (by rw [if_neg (fun y => by have := artA.1 y.2; omega)]) (fun y => ?_)
          have t := y.1 0 (Int.le_refl _) (by omega)
          rw [Int.add_zero, iA.1] at t
          rcases k with k | k <;> (rw [k] at t; exact absurd t (by decide))
    · -- a name
      obtain ⟨F, hF⟩ : ∃ F : Int, F = (if 0 < Xi X 904 160 - a ∧ 100 ≤ ikR X a ∧ ikR X a ≤ 103 then a + 1 else a) := ⟨_, rfl⟩
      have bF : bA (ty7 T) (c + a) = c + F := by
        unfold bA
        by_cases y : 0 ≤ ty7 T ((c : Int) + a) ∧ ty7 T ((c : Int) + a) ≤ 3
        · rw [if_pos y, hF, if_pos ⟨by omega, artA.2 y⟩]; omega
        · rw [if_neg y, hF, if_neg (fun z => y (artA.1 z.2))]
      have whe : wheC T (c + a) (c + n) = re7 (ty7 T) (c + F) := by unfold wheC; rw [if_neg k, rb.2.2.2, bF]
      have who : whoC T (c + a) (c + n) = fnd T 2 (c + F) (re7 (ty7 T) (c + F)) := by unfold whoC; rw [if_neg k, rb.2.2.2, bF]
      have whk : whkC T (c + a) (c + n) = (if fnd T 2 (c + F) (re7 (ty7 T) (c + F)) ≠ -1 then Xi T 21 (fnd T 2 (c + F) (re7 (ty7 T) (c + F))).toNat else -1) := by unfold whkC; rw [if_neg k, rb.2.2.2, bF]
      rw [bF] at ra bAle
      by_cases fr : ∀ j : Int, (c : Int) + F ≤ j → j < (c : Int) + n → ty7 T j = 100
      · have er := ra.2 fr
        rw [er] at whe who whk
        have fe := fi_r (s := 4) (a := F) (b := n) h w.1.1 w.1.2.2.2.1 (by omega) (Int.le_refl _) (fun i i0 i1 => fr (c + i) (by omega) (by omega)) (by omega)
        rw [show sg7 4 = 2 from rfl] at fe
        have it : itR X a = if fiR X F ((n : Int) - F) ≠ -1 ∧ Xi X 914 (fiR X F ((n : Int) - F)).toNat = 4 then Xi X 915 (fiR X F ((n : Int) - F)).toNat else -9 := (itR_3 l1 hF rfl (by rw [e160])).symm
        by_cases y : fnd T 2 (c + F) (c + n) = -1
        · refine ⟨fun z => absurd (who.trans y) z.2, fun _ => ?_⟩
          rw [it]
          by_cases y2 : fiR X F ((n : Int) - F) ≠ -1 ∧ Xi X 914 (fiR X F ((n : Int) - F)).toNat = 4
          · exfalso
            rw [if_pos y2] at fe
            have r : 0 ≤ Xi X 915 (fiR X F ((n : Int) - F)).toNat := by
              by_cases y3 : frK X F ((n : Int) - F) ∧ 1 ≤ (n : Int) - F ∧ (n : Int) - F ≤ 3
              · have k3 := fdR_rg (S := X) (a := Xj X 994 F.toNat) (b := if 1 < (n : Int) - F then Xj X 994 (F + 1).toNat else 0) (c := if 2 < (n : Int) - F then Xj X 994 (F + 2).toNat else 0) (n := (n : Int) - F) (Xi X 904 15).toNat
                rw [← fiR_y y3.1 y3.2 rfl rfl rfl] at k3
                exact (w.1.2.2.2.1 (fiR X F ((n : Int) - F)).toNat (by have := w.1.1.1; omega)).2.1
              · exact absurd (fiR_n y3) y2.1
            omega
          · rw [if_neg y2]
        · have rgo : 0 ≤ fnd T 2 (c + F) (c + n) ∧ fnd T 2 (c + F) (c + n) < Xi T 5 2 := fnd_wc (by omega) w.1.2.2.1 w.2.1 y
          refine ⟨fun _ => ?_, fun z => absurd ⟨whe, by rw [who]; exact y⟩ z⟩
          have eq : itR X a = fnd T 2 (c + F) (c + n) := by
            rw [it, fe]
            by_cases y2 : fiR X F ((n : Int) - F) ≠ -1 ∧ Xi X 914 (fiR X F ((n : Int) - F)).toNat = 4
            · rw [if_pos y2, if_pos y2]
            · rw [if_neg y2] at fe; exact absurd fe y
          rw [who, whk, if_pos y, eq]
          exact thr_ob w rgo
      · have ne : wheC T (c + a) (c + n) ≠ (c : Int) + n := fun z => fr (ra.1 (whe.symm.trans z))
        refine ⟨fun z => absurd z.1 ne, fun _ => itR9 l1 hF (fun y => fr (fun j j0 j1 => ?_))⟩
        have t := y.1 (j - c - F) (by omega) (by rw [e160]; omega)
        rw [show F + (j - c - F) = j - c by omega, (ins_i h (i := j - c) (by omega) (by omega)).1, show (c : Int) + (j - c) = j by omega] at t
        have tj := ins_t h (i := j - c) (by omega) (by omega)
        rw [show (c : Int) + (j - c) = j by omega] at tj
        exact (tr_k ⟨tj.1, by omega⟩).1.1 t
end
section
/-! what stands in [ ]: good to both, or to none -/
theorem fnd_3 {T : sS} {s a b : Int} (hs : 0 ≤ s) (h : fnd T s a b ≠ -1) : 1 ≤ b - a ∧ b - a ≤ 3 := Classical.byContradiction fun q => h (fnd_no (by unfold mnV; rw [if_neg (by omega)]) hs)
/-- a THING is short -/
theorem wh_s {T : sS} {i N : Int} (e : wheC T i N = N) (w : whoC T i N ≠ -1) : N ≤ i + 4 := by
  unfold wheC at e
  unfold whoC at w
  by_cases k : thk (ty7 T) i = 53 ∨ thk (ty7 T) i = 54
  · rw [if_pos k] at e
    unfold the7 at e
    split at e <;> omega
  · rw [if_neg k] at e w
    rw [e] at w
    have := fnd_3 (by decide) w
    have : bA (ty7 T) i ≤ i + 1 := by unfold bA; split <;> omega
    omega
theorem in_s {T : sS} {c n : Int} (e7 : Xi T 876 7 = c + n + 1) (h : inOK T c) : n ≤ 9 := by
  obtain ⟨h1, h2, h3⟩ := h
  rw [show Xi T 876 7 - 1 = c + n by omega] at h1 h2
  have k := wh_s h1 h2
  have : inT T c ≤ c + 5 := by
    unfold inT
    by_cases b : bpP T c
    · rw [if_pos b]
      have := fnd_3 (by decide) (h3 b).1
      omega
    · rw [if_neg b]; omega
  omega
theorem of_r {T X : sS} {c n : Nat} (h : INSD T X c n) : ∀ (m k : Nat) (i : Int), 0 ≤ i → i ≤ n → (n : Int) - i < m → (n : Int) - i < k → (c : Int) + ofF X m i = reF (ty7 T) k (c + i)
  | 0, _, _, _, _, h2, _ => by omega
  | _ + 1, 0, _, _, _, _, h3 => by omega
  | m + 1, k + 1, i, h0, h1, h2, h3 => by
    have e160 := h.2.2.2.1
    show (c : Int) + (if i < Xi X 904 160 ∧ ikR X i = 3 then ofF X m (i + 1) else i) = (if ty7 T (c + i) = 100 then reF (ty7 T) k (c + i + 1) else c + i)
    by_cases q : i = n
    · rw [q, h.2.1, if_neg (show ¬ ((n : Int) < Xi X 904 160 ∧ ikR X n = 3) by rw [e160]; omega), if_neg (by decide)]
    · have t := ins_i h h0 (by omega)
      have tk := (tr_k ⟨t.2.1.1, by omega⟩).1
      by_cases y : ty7 T (c + i) = 100
      · rw [if_pos y, if_pos ⟨by rw [e160]; omega, by rw [t.1]; exact tk.2 y⟩, of_r h m k (i + 1) (by omega) (by omega) (by omega) (by omega), show (c : Int) + i + 1 = c + (i + 1) by omega]
      · rw [if_neg y, if_neg (fun z => y (tk.1 (by rw [← t.1]; exact z.2)))]
/-- of in [ ] -/
theorem iso_r {T X : sS} {c n : Nat} (h : INSD T X c n) (n64 : n ≤ 64) : (bpP T c ↔ isO X) ∧ (bpP T c → re7 (ty7 T) (c + 1) = c + ofR X ∧ 1 < ofR X ∧ ofR X < n ∧ ∀ i : Int, 1 ≤ i → i < ofR X → ty7 T (c + i) = 100) := by
  have e160 := h.2.2.2.1
  have h5 := h.2.2.2.2
  by_cases n0 : n = 0
  · have t := h.2.1
    rw [n0] at t
    have nb : ¬ bpP T c := fun b => by
      have := b.1
      rw [show (c : Int) + ((0 : Nat) : Int) = c by omega] at t
      omega
    exact ⟨⟨fun b => absurd b nb, fun i => by have := i.1; omega⟩, fun b => absurd b nb⟩
  have i0 := ins_i h (i := 0) (by omega) (by omega)
  rw [Int.add_zero] at i0
  have e2 : ikR X 0 = 102 ↔ ty7 T c = 2 := by rw [i0.1]; exact tr_key ⟨i0.2.1.1, by omega⟩ (by omega)
  have er : (c : Int) + ofR X = re7 (ty7 T) (c + 1) := of_r h 65 5131 1 (by omega) (by omega) (by omega) (by omega)
  obtain ⟨r1, r2, r3, _⟩ := reN h (x := (c : Int) + 1) (by omega) (by omega)
  have tr : ofR X < n → ikR X (ofR X) = tr7 (ty7 T (c + ofR X)) ∧ (0 ≤ ty7 T (c + ofR X) ∧ ty7 T (c + ofR X) ≤ 100) := fun z => by
    have k := ins_i h (i := ofR X) (by omega) z
    exact ⟨k.1, k.2.1⟩
  have fst : ty7 T (c + 1) = 100 → 1 < ofR X := fun z => by
    have k : re7 (ty7 T) (c + 1) ≠ c + 1 := fun y => by
      unfold re7 at y
      rw [show 5131 = 5130 + 1 from rfl, reF, if_pos z] at y
      have := (re_sp (T := ty7 T) 5130 (c + 1 + 1)).1
      omega
    omega
  have go : bpP T c → re7 (ty7 T) (c + 1) = c + ofR X ∧ 1 < ofR X ∧ ofR X < n ∧ ∀ i : Int, 1 ≤ i → i < ofR X → ty7 T (c + i) = 100 := fun b => by
    refine ⟨er.symm, fst b.2.1, ?_, fun i i1 i2 => r3 (c + i) (by omega) (by omega)⟩
    refine Classical.byContradiction fun y => ?_
    have t := b.2.2
    rw [show re7 (ty7 T) (c + 1) = (c : Int) + n by omega, h.2.1] at t
    exact absurd t (by decide)
  refine ⟨⟨fun b => ?_, fun i => ?_⟩, go⟩
  · obtain ⟨g1, g2, g3, _⟩ := go b
    obtain ⟨t1, t2⟩ := tr g3
    refine ⟨by rw [e160]; omega, e2.2 b.1, g2, by rw [e160]; exact g3, ?_⟩
    rw [t1]
    refine (tr_key (k := 107) ⟨t2.1, by omega⟩ (by omega)).2 ?_
    rw [← g1]; exact b.2.2
  · obtain ⟨_, j1, j2, j3, j4⟩ := i
    rw [e160] at j3
    obtain ⟨t1, t2⟩ := tr j3
    rw [t1] at j4
    have k := (tr_key (k := 107) ⟨t2.1, by omega⟩ (by omega)).1 j4
    refine ⟨e2.1 j1, r3 (c + 1) (by omega) (by omega), ?_⟩
    rw [← er]; exact k
/-- what stands in [ ] is good to both, or to none -/
theorem in_r {T X : sS} {c n : Nat} (h : INSD T X c n) (w : RLW T X) (sl : SLF T X) (sk : Xi T 895 3 = 53) : (inOK T c ↔ sIOK X) ∧ (inOK T c → n ≤ 9 ∧ TMP T (whoC T (inT T c) (Xi T 876 7 - 1)) (itA X) ∧ (bpP T c ↔ isO X) ∧ (bpP T c → inP T c = ipR X)) := by
  have e7 := h.2.2.1
  have e160 := h.2.2.2.1
  have N : Xi T 876 7 - 1 = (c : Int) + n := by omega
  -- where the THING begins, in both
  have core : ∀ a0 : Int, 0 ≤ a0 → a0 ≤ n → (wheC T (c + a0) (c + n) = (c : Int) + n ∧ whoC T (c + a0) (c + n) ≠ -1 ↔ itR X a0 ≠ -9) := fun a0 a1 a2 => by
    obtain ⟨k1, k2⟩ := th_i h w sl sk a1 a2
    exact ⟨fun z => (tmp_9 (k1 z).1).1, fun z => Classical.byContradiction fun y => z (k2 y)⟩
  by_cases n64 : n ≤ 64
  · obtain ⟨o1, o2⟩ := iso_r h n64
    by_cases b : bpP T c
    · obtain ⟨r1, r2, r3, r4⟩ := o2 b
      have iso := o1.1 b
      have eT : inT T c = c + (ofR X + 1) := by unfold inT; rw [if_pos b, r1]; omega
      have eA : itA X = itR X (ofR X + 1) := by unfold itA; rw [if_pos iso]
      have fe := fi_r (s := 7) (a := 1) (b := ofR X) h w.1.1 w.1.2.2.2.1 (by omega) (by omega) r4 (by omega)
      rw [show sg7 7 = 5 from rfl, ← r1] at fe
      have ip : ipR X = fnd T 5 (c + 1) (re7 (ty7 T) (c + 1)) := by unfold ipR; rw [fe]
      have eP : inP T c = ipR X := by unfold inP; rw [if_pos b, ip]
      obtain ⟨k1, _⟩ := th_i h w sl sk (a := ofR X + 1) (by omega) (by omega)
      have cr := core (ofR X + 1) (by omega) (by omega)
      have bit : ∀ (z : wheC T (c + (ofR X + 1)) (c + n) = (c : Int) + n ∧ whoC T (c + (ofR X + 1)) (c + n) ≠ -1) (y : fnd T 5 (c + 1) (re7 (ty7 T) (c + 1)) ≠ -1), (iandF (ishrF (pps T (whkC T (c + (ofR X + 1)) (c + n))) (fnd T 5 (c + 1) (re7 (ty7 T) (c + 1)))) 1 ≠ 0 ↔ hsR X (ktC X (itA X)) (ipR X) ≠ 0) := fun z y => by
        obtain ⟨_, t2, t3⟩ := k1 z
        have rgp : 0 ≤ fnd T 5 (c + 1) (re7 (ty7 T) (c + 1)) ∧ fnd T 5 (c + 1) (re7 (ty7 T) (c + 1)) < Xi T 5 5 := fnd_wc (by omega) w.1.2.2.1 w.2.1 y
        have r5 := w.2.2.1.2.2.2.2.2.1
        rw [eA, ← t2, ip]
        exact pps_hs w.2.2.2.1 t3.2 ⟨rgp.1, by omega⟩
      refine ⟨⟨fun ok => ?_, fun ok => ?_⟩, fun ok => ⟨by have := in_s (c := c) (n := n) e7 ok; omega, ?_, o1, fun _ => eP⟩⟩
      · obtain ⟨x1, x2, x3⟩ := ok
        rw [eT, N] at x1 x2 x3
        obtain ⟨x4, x5⟩ := x3 b
        refine ⟨by rw [eA]; exact cr.1 ⟨x1, x2⟩, fun _ => ⟨by rw [ip]; exact x4, (bit ⟨x1, x2⟩ x4).1 x5⟩⟩
      · obtain ⟨x1, x2⟩ := ok
        rw [eA] at x1
        obtain ⟨x3, x4⟩ := x2 iso
        rw [ip] at x3
        have z := cr.2 x1
        unfold inOK
        rw [eT, N]
        exact ⟨z.1, z.2, fun _ => ⟨x3, (bit z x3).2 x4⟩⟩
      · obtain ⟨x1, x2, x3⟩ := ok
        rw [eT, N] at x1 x2
        rw [eT, N, eA]
        exact (k1 ⟨x1, x2⟩).1
    · have niso : ¬ isO X := fun z => b (o1.2 z)
      have eT : inT T c = c + 0 := by unfold inT; rw [if_neg b, Int.add_zero]
      have eA : itA X = itR X 0 := by unfold itA; rw [if_neg niso]
      obtain ⟨k1, _⟩ := th_i h w sl sk (a := 0) (by omega) (by omega)
      have cr := core 0 (by omega) (by omega)
      refine ⟨⟨fun ok => ?_, fun ok => ?_⟩, fun ok => ⟨by have := in_s (c := c) (n := n) e7 ok; omega, ?_, o1, fun y => absurd y b⟩⟩
      · obtain ⟨x1, x2, _⟩ := ok
        rw [eT, N] at x1 x2
        exact ⟨by rw [eA]; exact cr.1 ⟨x1, x2⟩, fun y => absurd y niso⟩
      · have z := cr.2 (by rw [← eA]; exact ok.1)
        unfold inOK
        rw [eT, N]
        exact ⟨z.1, z.2, fun y => absurd y b⟩
      · obtain ⟨x1, x2, x3⟩ := ok
        rw [eT, N] at x1 x2
        rw [eT, N, eA]
        exact (k1 ⟨x1, x2⟩).1
  · have n1 : ¬ inOK T c := fun ok => by have := in_s (c := c) (n := n) e7 ok; omega
    have n2 : ¬ sIOK X := fun ok => by
      obtain ⟨x1, x2⟩ := ok
      by_cases i : isO X
      · have hi := x2 i
        have f3 : fiR X 1 (ofR X - 1) ≠ -1 := fun y => hi.1 (by unfold ipR; rw [y, if_neg (fun z => z.1 rfl)])
        have l3 : ofR X - 1 ≤ 3 := Classical.byContradiction fun y => f3 (fiR_n (fun z => y z.2.2))
        have i2 := i.2.2.1
        have eA : itA X = itR X (ofR X + 1) := by unfold itA; rw [if_pos i]
        rw [eA] at x1
        have z := (core (ofR X + 1) (by omega) (by omega)).2 x1
        have := wh_s z.1 z.2
        omega
      · have eA : itA X = itR X 0 := by unfold itA; rw [if_neg i]
        rw [eA] at x1
        have z := (core 0 (by omega) (by omega)).2 x1
        have := wh_s z.1 z.2
        omega
    exact ⟨⟨fun y => absurd y n1, fun y => absurd y n2⟩, fun y => absurd y n1⟩

/-! [ ]: both look at the same words -/
theorem be_le {B C : Nat → Int} {e d : Int} (h : BE B C e) (k : d ≤ e) : BE B C d := fun j hj => h j (by omega)
theorem c32_e {B C : Nat → Int} {e : Int} {f : Nat} (h : BE B C e) : ∀ n : Nat, ((f + n : Nat) : Int) ≤ e → c32 B f n = c32 C f n
  | 0, _ => rfl
  | n + 1, k => by
    show c32 B f n * 32 + lt7 (B (f + n)) = c32 C f n * 32 + lt7 (C (f + n))
    rw [c32_e h n (by omega), h (f + n) (by omega)]
theorem p27_12 : ∀ n : Fin 13, (27 : Int) ^ n.val ≤ 150094635296999121 := by decide
/-- what both have noted of [ ] -/
theorem insd_of {W T X X1 : sS} {ts cn : Nat} {L : List (Int × Int)} {a q : Int} (ec : (cn : Int) = Xi W 876 6) (h0 : 0 ≤ a) (be : BE (Xi W ts) (Xi X 906) q) (ky : KEYR (Xj W 880) (Xj X1 911)) (wl : WLp (Xi W ts) q a L q) (ir : IRW W T ts L) (e7 : Xi T 876 7 = Xi W 876 6 + L.length + 1) (t7 : Xi T 877 ((Xi W 876 6).toNat + L.length) = 107) (ri : RIW X X1 L) (l5 : cn + L.length + 1 ≤ 5130) : INSD T X1 cn L.length := by
  have ecn : (Xi W 876 6).toNat = cn := by omega
  unfold IRW at ir
  rw [ecn] at ir t7
  have tyi : ∀ i : Nat, i ≤ L.length → ty7 T ((cn : Int) + i) = Xi T 877 (cn + i) := fun i hi => by
    rw [ty7_i (by omega) (by omega), show ((cn : Int) + i).toNat = cn + i by omega]
  refine ⟨fun i hi => ?_, by rw [tyi L.length (Nat.le_refl _)]; exact t7, by omega, ri.1, l5⟩
  obtain ⟨w0, w1, w2, w3, w4⟩ := wl_ww L a q h0 wl i hi
  obtain ⟨r1, _, r3⟩ := ir i hi
  have ri' := ri.2 i hi
  generalize L.getD i (0, 0) = x at *
  have m13 : (x.2 - x.1).toNat ≤ 12 := by omega
  have c13 : cv (icd W ts x) = icr X x := by
    unfold cv icd icr
    rw [cv_c (x.2 - x.1).toNat 13 (by omega)]
    exact c32_e be _ (by omega)
  have wd : wdC (icd W ts x) := by
    unfold wdC icd
    have k := c27_r (B := Xi W ts) (f := x.1.toNat) (x.2 - x.1).toNat
    have p := c27_pos (B := Xi W ts) (f := x.1.toNat) (by have := w4 x.1 (Int.le_refl _) (by omega); omega) ((x.2 - x.1).toNat - 1)
    rw [show (x.2 - x.1).toNat - 1 + 1 = (x.2 - x.1).toNat by omega] at p
    have u := pw27 (n := (x.2 - x.1).toNat) (by omega)
    refine ⟨p, Int.lt_of_lt_of_le k.2 ?_⟩
    exact p27_12 ⟨(x.2 - x.1).toNat, by omega⟩
  have kr := ky_r ky (cd_c (B := Xi W ts) (f := x.1.toNat) (n := (x.2 - x.1).toNat) (by omega)) 55 0 (by omega) (by omega)
  have rr := kyF_r (K := Xj W 880) (c := icd W ts x) (df := 100) 55 0 (by omega)
  rw [tyi i (by omega), r1, r3]
  refine ⟨?_, ?_, wd, by rw [ri', c13]⟩
  · unfold ikR kyr
    rw [show ((i : Nat) : Int).toNat = i by omega, ri', ← c13]
    unfold ky7
    have kr' : kyF (Xj X1 911) (cv (icd W ts x)) (-1) 55 0 = if kyF (Xj W 880) (icd W ts x) 100 55 0 = 100 then -1 else kyF (Xj W 880) (icd W ts x) 100 55 0 := kr
    rw [kr']
    by_cases z : kyF (Xj W 880) (icd W ts x) 100 55 0 = 100
    · rw [if_pos z, if_pos rfl, z]; rfl
    · rw [if_neg z, if_neg (by omega)]
      unfold tr7
      rw [if_pos (by omega)]
  · unfold ky7; omega
/-- one [ ]: good to both, or to none -/
theorem inb_r {W T1 X X1 : sS} {ts : Nat} {o q E z : Int} (w : RLW W X) (t3 : TX3 W) (sl : SLF W X) (sk : Xi W 895 3 = 53) (ky : KEYR (Xj W 880) (Xj X 911)) (c0 : 0 ≤ Xi W 876 6) (o0 : 0 ≤ o) (oq : o < q) (qE : q < E) (be : BE (Xi W ts) (Xi X 906) E) (b93 : Xi W ts q.toNat = 93) (l5 : Xi W 876 6 + (q - o) + 1 ≤ 5130) (io : INO W T1 ts (o + 1) q z) (F : FR md_mo_words__p X X1) : (z = 1 → ∀ y : Int, RWO X X1 (o + 1) E y → y = q + 1 ∧ sIOK X1) ∧ (z = 0 → RWO X X1 (o + 1) E (q + 1) → ¬ sIOK X1) := by
  obtain ⟨T, c, ti, FT, i1, i2⟩ := io
  obtain ⟨_, _, tf, tt⟩ := ti
  have c93 : Xi X 906 q.toNat = 93 := by rw [← be q.toNat (by omega)]; exact b93
  have l93 : lt7 (Xi X 906 q.toNat) = 0 := by rw [c93]; decide
  have beq : BE (Xi W ts) (Xi X 906) q := be_le be (by omega)
  have no93 : ∀ (L : List (Int × Int)) (to p j : Int), WLp (Xi X 906) to (o + 1) L p → o + 1 ≤ j → j < p → Xi X 906 j.toNat ≠ 93 := fun L to p j wl j0 j1 y => by
    have k := wl_in L (o + 1) p wl j j0 j1
    rw [y] at k
    revert k
    decide
  have ky1 : KEYR (Xj W 880) (Xj X1 911) := fun i hi => by
    rw [(F.kep rfl : KEP [(911, 912)] [] X X1).j 911 rfl]
    exact ky i hi
  have wX : RLW T X1 := w.k t3 (FT.kep rfl) (F.kep rfl)
  have slT : SLF T X1 := by
    unfold SLF at sl ⊢
    rw [FT.x 895 3 rfl, FT.x 895 4 rfl, F.x 904 115 rfl, F.x 904 116 rfl, (FT.kep rfl : KEP [(5, 6)] [] W T).x 5 rfl]
    exact sl
  have skT : Xi T 895 3 = 53 := by rw [FT.x 895 3 rfl]; exact sk
  -- both have the same words
  have same : ∀ (L : List (Int × Int)), c ≠ -1 → WLp (Xi W ts) q (o + 1) L q → IRW W T ts L → Xi T 876 7 = Xi W 876 6 + L.length + 1 → Xi T 877 ((Xi W 876 6).toNat + L.length) = 107 → RIW X X1 L → (L.length : Int) ≤ q - o → INSD T X1 (Xi W 876 6).toNat L.length := fun L _ wl ir e7 t7 ri ll => insd_of (by omega) (by omega) beq ky1 wl ir e7 t7 ri (by omega)
  have wlen : ∀ (L : List (Int × Int)) (a p : Int), WLp (Xi W ts) q a L p → (L.length : Int) ≤ p - a := fun L => by
    induction L with
    | nil => intro a p h; have := h.1; show (0 : Int) ≤ p - a; omega
    | cons x L ih =>
      intro a p h
      obtain ⟨⟨h1, _, _⟩, _, h5, h6, _, h8⟩ := h
      have k := ih _ _ h8
      have wb := (we7_b (B := Xi W ts) (e := q) (p := x.1)).1
      show (L.length : Int) + 1 ≤ p - a
      omega
  refine ⟨fun z1 y rw' => ?_, fun z0 rw' ok => ?_⟩
  · have cn : c ≠ -1 := fun k => by have := (i1 k).1; omega
    obtain ⟨n1, n2⟩ := i2 cn
    have ok : inOK T c := Classical.byContradiction fun k => by have := (n1 k).1; omega
    obtain ⟨ec, L, wl, ir, e7, t7, _, _⟩ := tt cn
    have l9 : (L.length : Int) ≤ 9 := in_s (c := c) (by rw [e7, ec]) ok
    have wlX : WLp (Xi X 906) q (o + 1) L q := wl_c beq L (o + 1) q (by omega) wl
    have su : StW (Xi X 906) q q := Or.inl rfl
    have yn : y ≠ -1 := fun k => by
      obtain ⟨L', p', wl', h⟩ := rw'.1 k
      have le := wl_le L' (o + 1) p' wl'
      have pq : p' ≤ q := Classical.byContradiction fun g => no93 L' E p' q wl' (by omega) (by omega) c93
      rcases h with h | ⟨h1, h2, h3, h4⟩
      · omega
      · have pq2 : p' < q := by
          by_cases g : p' = q
          · rw [g] at h3; exact absurd c93 h3
          · omega
        have wlq := wl_q (by omega) l93 L' (o + 1) p' pq wl'
        have wq := we_q (E := E) (by omega) l93 (q - p').toNat p' (by omega)
        rw [wq] at h4
        rcases h4 with h4 | h4 | h4
        · have := (wl_u su (Or.inr ⟨pq2, h2, Or.inl h4⟩) L L' (o + 1) wlX wlq).2; omega
        · have := (wl_u su (Or.inr ⟨pq2, h2, Or.inr h4⟩) L L' (o + 1) wlX wlq).2; omega
        · have := wl_64 su L L' (o + 1) wlX wlq; omega
    obtain ⟨L', wl', y1, y2, ri⟩ := rw'.2 yn
    have le := wl_le L' (o + 1) (y - 1) wl'
    have yq : y - 1 = q := by
      by_cases g : q < y - 1
      · exact absurd c93 (no93 L' E (y - 1) q wl' (by omega) g)
      · by_cases g2 : y - 1 < q
        · exact absurd y2 (no93 L q q (y - 1) wlX le.1 g2)
        · omega
    rw [yq] at wl'
    have wlq := wl_q (by omega) l93 L' (o + 1) q (Int.le_refl _) wl'
    have eL := (wl_u su su L L' (o + 1) wlX wlq).1
    subst eL
    have ins := same L cn wl ir e7 t7 ri (by have := wlen L _ _ wl; omega)
    rw [show c = ((Xi W 876 6).toNat : Int) by omega] at ok
    exact ⟨by omega, (in_r ins wX slT skT).1.1 ok⟩
  · obtain ⟨L', wl', _, _, ri⟩ := rw'.2 (by omega)
    rw [show q + 1 - 1 = q by omega] at wl'
    have wlq := wl_q (by omega) l93 L' (o + 1) q (Int.le_refl _) wl'
    have su : StW (Xi X 906) q q := Or.inl rfl
    have cn : c ≠ -1 := fun k => by
      obtain ⟨L, p, wl, p1, p2, p3⟩ := tf k
      have wlX : WLp (Xi X 906) q (o + 1) L p := wl_c beq L (o + 1) p (by omega) wl
      have le := wl_le L (o + 1) p wl
      have bp := beq p.toNat (by omega)
      have wc : we7 (Xi W ts) q p = we7 (Xi X 906) q p := we7_c beq (by omega)
      rw [wc] at p3
      have := (wl_u (Or.inr ⟨p1, by rw [← bp]; exact p2, p3⟩) su L L' (o + 1) wlX wlq).2
      omega
    obtain ⟨ec, L, wl, ir, e7, t7, _, _⟩ := tt cn
    have wlX : WLp (Xi X 906) q (o + 1) L q := wl_c beq L (o + 1) q (by omega) wl
    have eL := (wl_u su su L L' (o + 1) wlX wlq).1
    subst eL
    have ins := same L cn wl ir e7 t7 ri (by have := wlen L _ _ wl; omega)
    have k := (in_r ins wX slT skT).1.2 ok
    rw [show ((Xi W 876 6).toNat : Int) = c by omega] at k
    have := ((i2 cn).2 k).1
    omega
end
section
/-! class and reference: SAY -/
theorem ich_m {S : sS} {ts : Nat} : ∀ (L : List (Int × Int)) (T : sS), ICH S ts L T → FR md_rr_insert__p S T ∧ ∀ x ∈ L, ∃ W T1 : sS, FR md_rr_insert__p S W ∧ INO W T1 ts (x.1 + 1) x.2 1
  | [], T, h => by
    have h : T = S := h
    rw [h]
    exact ⟨FR.rf, fun x hx => by cases hx⟩
  | (o, q) :: L, T, h => by
    obtain ⟨W, h1, h2, h3⟩ := h
    obtain ⟨i1, i2⟩ := ich_m L W h1
    refine ⟨i1.tr h2 rfl, fun x hx => ?_⟩
    rcases List.mem_cons.mp hx with e | e
    · rw [e]; exact ⟨W, T, i1, h3⟩
    · exact i2 x e
theorem rch_m {S : sS} {E : Int} : ∀ (L : List (Int × Int)) (T : sS), RCH S E L T → FR md_mo_words__p S T ∧ ∀ x ∈ L, ∃ W T1 : sS, FR md_mo_words__p S W ∧ FR md_mo_words__p W T1 ∧ RWO W T1 (x.1 + 1) E (x.2 + 1) ∧ sIOK T1
  | [], T, h => by
    have h : T = S := h
    rw [h]
    exact ⟨FR.rf, fun x hx => by cases hx⟩
  | (o, q) :: L, T, h => by
    obtain ⟨W, h1, h2, h3, h4⟩ := h
    obtain ⟨i1, i2⟩ := rch_m L W h1
    refine ⟨i1.tr h2 rfl, fun x hx => ?_⟩
    rcases List.mem_cons.mp hx with e | e
    · rw [e]; exact ⟨W, T, i1, h2, h3, h4⟩
    · exact i2 x e
def cYk : List (Nat × Nat) := [(2, 12), (13, 20), (21, 24), (25, 65), (66, 106), (107, 147), (148, 188), (189, 195), (196, 220), (221, 245), (245, 246), (902, 904), (880, 881)]
def cYf : List (Nat × Nat) := [(1, 3), (20, 1), (20, 12), (891, 10), (876, 5), (876, 6), (895, 3), (895, 4)]
def cZk : List (Nat × Nat) := [(906, 912), (912, 923), (924, 946)]
def cZf : List (Nat × Nat) := [(904, 15), (904, 16), (904, 18), (904, 19), (904, 23), (904, 30), (904, 32), (904, 41), (904, 47), (904, 49), (904, 51), (904, 60), (904, 115), (904, 116)]
theorem slf_k {W A S X : sS} (sl : SLF W S) (a : KEP cYk cYf W A) (b : KEP cZk cZf S X) : SLF A X := by
  unfold SLF at sl ⊢
  rw [a.f 895 3 (by decide), a.f 895 4 (by decide), b.f 904 115 (by decide), b.f 904 116 (by decide), a.x 5 rfl]
  exact sl
/-- a text is good to both, or to none -/
theorem text_r {W A S X T : sS} {f ts cl : Nat} {row P M zz : Int} (hcl : cl < 600) (v : ENV W S f) (sk : Xi W 895 3 = 53) (kA : KEP cYk cYf W A) (kX : KEP cZk cZf S X) (ky : KEYR (Xj W 880) (Xj S 911)) (hts : ts = txr W) (P0 : 0 ≤ P) (M0 : 0 ≤ M) (hE : P + M ≤ Xi W 876 5) (c0 : 0 ≤ Xi W 876 6) (l5 : Xi W 876 6 + M + 1 ≤ 5130) (eP : pc7 A row + 1 = P) (eM : Xj A 879 row.toNat = M) (rw' : RWS X T P M zz) : (zz = 0 → ∀ B : sS, ¬ SYL A B ts cl row (P + M) (-1)) ∧ (zz = 1 → ¬ SYX A ts cl row) := by
  have st := v.2.2.2.2.1.1
  have t3 : TX3 W := rst_3 st
  have tsx : ts = 245 ∨ ts = 902 ∨ ts = 903 := by rw [hts]; exact t3
  have tsA : ∀ j, Xi A ts j = Xi W ts j := fun j => by rcases tsx with e | e | e <;> (rw [e]; exact kA.x _ rfl j)
  have be : BE (Xi A ts) (Xi X 906) (P + M) := fun j hj => by
    rw [tsA, kX.x 906 rfl, hts]
    exact st.2 j (by omega)
  have bb : ∀ m : Nat, (m : Int) ≤ M → brF (Xi A ts) P m = brF (Xi X 906) P m := fun m hm => brx_c m (fun j j0 j1 => be j.toNat (by omega))
  have bM : brF (Xi A ts) P M.toNat = brF (Xi X 906) P M.toNat := bb M.toNat (by omega)
  -- one [ ] of a chain, in both
  have one : ∀ (W1 T1 X1 X2 : sS) (o q z : Int), KEP cYk cYf W W1 → (∀ j, Xi W1 ts j = Xi W ts j) → KEP cZk cZf S X1 → P ≤ o → o < q → q < P + M → Xi X 906 q.toNat = 93 → INO W1 T1 ts (o + 1) q z → FR md_mo_words__p X1 X2 → (z = 1 → ∀ y : Int, RWO X1 X2 (o + 1) (P + M) y → y = q + 1 ∧ sIOK X2) ∧ (z = 0 → RWO X1 X2 (o + 1) (P + M) (q + 1) → ¬ sIOK X2) := fun W1 T1 X1 X2 o q z k1 kt k2 h1 h2 h3 h4 io F => by
    have w1 : RLW W1 X1 := v.1.k t3 (k1.le rfl (by decide)) (k2.le rfl (by decide))
    have tx : txr W1 = txr W := by unfold txr; rw [(k1.2 (20, 1) (by decide)).2.2]
    have t31 : TX3 W1 := by unfold TX3; rw [tx]; exact t3
    have e6 : Xi W1 876 6 = Xi W 876 6 := k1.f 876 6 (by decide)
    refine inb_r w1 t31 (slf_k v.2.2.2.1 k1 k2) (by rw [k1.f 895 3 (by decide)]; exact sk) (fun i hi => by rw [k1.j 880 rfl, k2.j 911 rfl]; exact ky i hi) (by rw [e6]; exact c0) (by omega) h2 h3 (fun j hj => ?_) ?_ (by rw [e6]; omega) io F
    · rw [kt, k2.x 906 rfl, hts]; exact st.2 j (by omega)
    · rw [kt, ← tsA, be q.toNat (by omega)]; exact h4
  have kI : ∀ {U V : sS}, FR md_rr_insert__p U V → KEP cYk cYf U V := fun F => F.kep rfl
  have kO : ∀ {U V : sS}, FR md_mo_words__p U V → KEP cZk cZf U V := fun F => F.kep rfl
  have tI : ∀ {V : sS}, KEP cYk cYf W V → ∀ j, Xi V ts j = Xi W ts j := fun k j => by rcases tsx with e | e | e <;> (rw [e]; exact k.x _ rfl j)
  have kSY : KEP cYk cYf W (syW A cl row) := by
    unfold syW
    exact KEP.tr kA (KEP.tr (KEP.tr (KEP.tr ((fr_cl hcl).kep rfl) ((fr_cl hcl).kep rfl)) ((fr_cl hcl).kep rfl)) ((fr_cl hcl).kep rfl))
  obtain ⟨r1, r0⟩ := rw'
  refine ⟨fun z0 B sy => ?_, fun z1 sx => ?_⟩
  · obtain ⟨L, b1, ch, _⟩ := sy
    rw [eP, show (P + M - P).toNat = M.toNat by omega] at b1
    obtain ⟨_, mem⟩ := ich_m L B ch
    rcases r0 z0 with r | ⟨p, L', X1, X2, p1, p2, br, rc, b91, F2, fl⟩
    · rw [bM, r] at b1; exact absurd b1 (by simp)
    · -- the [ that is wrong to the reference is closed
      have br' : brF (Xi A ts) P (p - P).toNat = some (-1, L') := by rw [bb _ (by omega)]; exact br
      have ap : Xi A ts p.toNat = 91 := by rw [be p.toNat (by omega)]; exact b91
      have br2 : brF (Xi A ts) P ((p - P).toNat + 1) = some (p, L') := by
        rw [brF, br']
        show (if Xi A ts (P + ((p - P).toNat : Int)).toNat = 91 then (if (-1 : Int) = -1 then some (P + ((p - P).toNat : Int), L') else none) else _) = _
        rw [show P + ((p - P).toNat : Int) = p by omega, if_pos ap, if_pos rfl]
      rw [show M.toNat = ((p - P).toNat + 1) + (M.toNat - ((p - P).toNat + 1)) by omega] at b1
      obtain ⟨_, cl2⟩ := brk_m br2 _ _ _ b1
      rcases cl2 (by omega) with e | ⟨q, hq⟩
      · omega
      · obtain ⟨_, m2⟩ := brk_o P0 _ _ _ b1
        obtain ⟨q1, q2, q3, q4, q5, _⟩ := m2 (p, q) hq
        have q2 : p < q := q2
        have q3 : q < P + M := by have q3 : q < P + ((((p - P).toNat + 1) + (M.toNat - ((p - P).toNat + 1)) : Nat) : Int) := q3; omega
        have q5 : Xi A ts q.toNat = 93 := q5
        obtain ⟨W1, T1, G1, io⟩ := mem (p, q) hq
        obtain ⟨FX, _⟩ := rch_m L' X1 rc
        have k1 := KEP.tr kSY (kI G1)
        have k := (one W1 T1 X1 X2 p q 1 k1 (tI k1) (KEP.tr kX (kO FX)) (by omega) q2 q3 (by rw [← be q.toNat (by omega)]; exact q5) io F2).1 rfl
        rcases fl with fl | ⟨y, fl, _, no⟩
        · have := (k _ fl).1; omega
        · exact no (k _ fl).2
  · obtain ⟨L, b1, rc⟩ := r1 z1
    obtain ⟨_, mem⟩ := rch_m L T rc
    unfold SYX at sx
    rw [eP, eM, bM, b1] at sx
    rcases sx with sx | ⟨o, L', sx, ne⟩ | ⟨q, o, L', W1, T1, q1, q2, br, on, b93, ch, io⟩
    · exact absurd sx (by simp)
    · simp only [Option.some.injEq, Prod.mk.injEq] at sx
      exact ne sx.1.symm
    · have aq : Xi X 906 q.toNat = 93 := by rw [← be q.toNat (by omega)]; exact b93
      have br' : brF (Xi X 906) P (q - P).toNat = some (o, L') := by rw [← bb _ (by omega)]; exact br
      have br2 : brF (Xi X 906) P ((q - P).toNat + 1) = some (-1, (o, q) :: L') := by
        rw [brF, br']
        show (if Xi X 906 (P + ((q - P).toNat : Int)).toNat = 91 then _ else if Xi X 906 (P + ((q - P).toNat : Int)).toNat = 93 then (if o = -1 then none else some (-1, (o, P + ((q - P).toNat : Int)) :: L')) else _) = _
        rw [show P + ((q - P).toNat : Int) = q by omega, if_neg (by rw [aq]; decide), if_pos aq, if_neg on]
      rw [show M.toNat = ((q - P).toNat + 1) + (M.toNat - ((q - P).toNat + 1)) by omega] at b1
      obtain ⟨sub, _⟩ := brk_m br2 _ _ _ b1
      obtain ⟨m1, _⟩ := brk_o P0 _ _ _ br'
      obtain ⟨o1, o2, _⟩ := m1 on
      obtain ⟨X1, X2, G1, G2, ro, ok⟩ := mem (o, q) (sub _ (List.mem_cons_self ..))
      obtain ⟨FW, _⟩ := ich_m L' W1 ch
      have k1 := KEP.tr kSY (kI FW)
      exact (one W1 T1 X1 X2 o q 0 k1 (tI k1) (KEP.tr kX (kO G1)) o1 (by omega) q2 aq io G2).2 rfl ro ok
/-- SAY -/
theorem sayp_r {W A B S S1 : sS} {f c i cl ts : Nat} {b e q p z : Int} (hcl : cl < 600) (v : ENV W S f) (sk : Xi W 895 3 = 53) (g : AGN W A) (kA : KEP cYk cYf W A) (ky : KEYR (Xj W 880) (Xj S 911)) (hts : ts = txr W) (h0 : 0 ≤ b) (hb : e < Xi W 876 7) (hq : 0 ≤ q ∧ q ≤ 100000) (k963 : Xi S 963 i = 0) (k964 : Xi S 964 i = c) (k957 : Xi S 957 c = f + b + 1) (t5 : tkR S (f + b + 1) = 5) (he : e = b + 2) (M0 : 0 ≤ Xj W 879 (b + 1).toNat) (hE : pc7 W (b + 1) + 1 + Xj W 879 (b + 1).toNat ≤ Xi W 876 5) (hE5 : Xi W 876 5 ≤ 100000) (c0 : 0 ≤ Xi W 876 6) (l5 : Xi W 876 6 + Xj W 879 (b + 1).toNat + 1 ≤ 5130) (hz : z = 0 ∨ z = 1) (ph : SYT A B ts cl (b + 1) z) (pm : PM0 S S1 i q p) : PRS W A B S S1 cl q p b e z := by
  have sc := v.2.1
  have tb := v.2.2.1
  have ec : pTS S i = c := by unfold pTS; rw [show ((i : Nat) : Int).toNat = i by omega]; exact k964
  have exs : xPS S i = f + (b + 1) := by unfold xPS; rw [ec, show ((c : Nat) : Int).toNat = c by omega, k957]; omega
  have ty1 : ty7 W (b + 1) = 102 := by
    have k := tkx sc (i := b + 1) ⟨by omega, by omega⟩
    rw [show (f : Int) + (b + 1) = f + b + 1 by omega, t5] at k
    have kb := tb (b + 1)
    unfold tr7 at k
    by_cases c1 : ty7 W (b + 1) < 100
    · rw [if_pos c1] at k; omega
    · rw [if_neg c1] at k
      by_cases c2 : ty7 W (b + 1) = 102
      · exact c2
      · (repeat' split at k) <;> omega
  have tk := sc.1 (b + 1).toNat (by omega)
  have e909 : Xi S 909 (xPS S i).toNat = Xj W 879 (b + 1).toNat := by
    rw [exs, show ((f : Int) + (b + 1)).toNat = f + (b + 1).toNat by omega]
    exact tk.2.2.2.2 (by rw [← ty7_i (by omega) (by omega)]; exact ty1)
  have e908 : Xi S 908 (xPS S i).toNat = pc7 W (b + 1) := by
    rw [exs]
    exact (pc_r sc ⟨by omega, by omega⟩).symm
  have gb := g.1 (b + 1) (by omega) (by omega)
  have pc0 : 0 ≤ pc7 W (b + 1) := by
    unfold pc7
    rw [if_pos ⟨by omega, by omega⟩]
    exact v.2.2.2.2.1.2.2 _
  obtain ⟨B', C, zz, eB, sa, FC, FN, nS, hzz⟩ := pm
  rw [e908, e909] at sa eB
  obtain ⟨x1, x2⟩ := pha_x (S := S) (i := i) (p := p) hq (by omega)
  have n0 : NT3 (phA S i q p) = NT3 S := pha_n
  generalize eP0 : phA S i q p = P0 at *
  have k0 : KEP cZk cZf S P0 := by rw [← eP0]; exact KEP.tr (kep_u rfl) (kep_u rfl)
  have kB : KEP cZk cZf S B' := by rw [eB]; exact KEP.tr k0 (KEP.tr (kep_u rfl) (kep_u rfl))
  obtain ⟨BB, T, eBB, rw', FT, eC⟩ := sa
  have kBB : KEP cZk cZf S BB := by rw [eBB]; exact KEP.tr kB (KEP.tr (kep_u rfl) (kep_u rfl))
  have nC : NT3 C = NT3 S := by
    rw [NT3_FR FC rfl, eB, nt_u (by decide), nt_u (by decide), n0]
  have c908 : Xi C 908 (xPS S i).toNat = pc7 W (b + 1) := by
    rw [(FC.kep rfl : KEP [(908, 909)] [] B' C).x 908 rfl, kB.x 908 rfl, e908]
  rw [nC, c908] at nS
  have tr := text_r (A := A) (X := BB) (T := T) (row := b + 1) (P := pc7 W (b + 1) + 1) (M := Xj W 879 (b + 1).toNat) hcl v sk kA kBB ky hts (by omega) M0 hE c0 l5 (by rw [gb.2.1]) gb.2.2 rw'
  obtain ⟨y1, y0⟩ := ph
  rw [gb.2.1, gb.2.2] at y1
  have p1 : pc7 W b ≤ pc7 W (b + 1) := plo_le v h0 (by omega) (by omega)
  refine ⟨by rw [nS]; exact ntg_if (ntg_1 p1) ntg_0, fun zz1 => ?_, fun zz0 n1 => ?_⟩
  · obtain ⟨f8, sy⟩ := y1 zz1
    have zn : zz ≠ 0 := fun k => tr.1 k B sy
    obtain ⟨L, _, _, _, _, kc, cm, _⟩ := sy
    rw [if_neg zn] at nS
    have e3 : Xi S1 973 q.toNat = pc7 W (b + 1) + 1 := by
      rw [(FN.kep rfl : KEP [(973, 978)] [] C S1).x 973 rfl, (FC.kep rfl : KEP [(973, 978)] [] B' C).x 973 rfl, eB, Xi_ne (by omega), Xi_same (by unfold rg; omega)]
    have e4 : Xi S1 974 q.toNat = Xj W 879 (b + 1).toNat := by
      rw [(FN.kep rfl : KEP [(973, 978)] [] C S1).x 974 rfl, (FC.kep rfl : KEP [(973, 978)] [] B' C).x 974 rfl, eB, Xi_same (by unfold rg; omega)]
    have e6 : ∀ k : Nat, k = 976 ∨ k = 977 → Xi S1 k p.toNat = Xi P0 k p.toNat := fun k hk => by
      rcases hk with rfl | rfl <;> rw [(FN.kep rfl : KEP [(973, 978)] [] C S1).x _ rfl, (FC.kep rfl : KEP [(973, 978)] [] B' C).x _ rfl, eB, Xi_ne (by omega), Xi_ne (by omega)]
    exact ⟨nS, f8, kc, _, _, _, _, _, _, _, cm, by rw [e6 977 (Or.inr rfl)]; exact x1, Or.inr (Or.inl ⟨by rw [e6 976 (Or.inl rfl), x2]; exact k963, rfl, by rw [e3, gb.2.1], by rw [e4, gb.2.2]⟩)⟩
  · obtain ⟨ft, sx⟩ := y0 zz0
    have z0 : zz = 0 := by
      rcases hzz with k | k
      · exact k
      · exact absurd sx (tr.2 k)
    rw [if_pos z0] at nS
    rw [ft.1, ft.2, gb.2.1, nS]
    exact ⟨ntb_1 n1, by decide, b + 1, by omega, by omega, rfl⟩
end
section
/-! class and reference: one phrase, whichever it is -/
/-- texts of a sentence lie in the story -/
def TXL (W : sS) : Prop := (∀ r : Int, 0 ≤ r → r < Xi W 876 7 → ty7 W r = 102 → 0 ≤ Xj W 879 r.toNat ∧ pc7 W r + 1 + Xj W 879 r.toNat ≤ Xi W 876 5 ∧ Xi W 876 6 + Xj W 879 r.toNat + 1 ≤ 5130) ∧ Xi W 876 5 ≤ 100000 ∧ 0 ≤ Xi W 876 6
theorem t5_102 {t : Int} (h : 0 ≤ t ∧ t ≤ 108) (k : tr7 t = 5) : t = 102 := by
  unfold tr7 at k
  by_cases c1 : t < 100
  · rw [if_pos c1] at k; omega
  · rw [if_neg c1] at k
    by_cases c2 : t = 102
    · exact c2
    · (repeat' split at k) <;> omega
theorem t4_101 {t : Int} (h : 0 ≤ t ∧ t ≤ 108) (k : tr7 t = 4) : t = 101 := by
  unfold tr7 at k
  by_cases c1 : t < 100
  · rw [if_pos c1] at k; omega
  · rw [if_neg c1] at k
    by_cases c2 : t = 101
    · exact c2
    · (repeat' split at k) <;> omega
theorem phr_r {W A B S S1 : sS} {f c i cl ts : Nat} {b e q p z : Int} (hcl : cl < 600) (v : ENV W S f) (sk : Xi W 895 3 = 53) (g : AGN W A) (kA : KEP cYk cYf W A) (ky : KEYR (Xj W 880) (Xj S 911)) (hts : ts = txr W) (tx : TXL W) (nv : NVL W) (h0 : 0 ≤ b) (hb : e < Xi W 876 7) (hq : 0 ≤ q ∧ q ≤ 100000) (k964 : Xi S 964 i = c) (cm : CLM A cl 11 0 (-1) (-1) 0 0 (-1)) (a8 : Xi A 876 8 = 0) (rd : PHE (tkR S) S c i (f + b) (f + e)) (hz : z = 0 ∨ z = 1) (ph : PHX A B ts cl (ty7 W b) b e z) (pm : PMX S S1 i q p) : PRS W A B S S1 cl q p b e z := by
  have sc := v.2.1
  have tb := v.2.2.1
  have be := (ph_in rd).1
  have tkb := tkx sc (i := b) ⟨h0, by omega⟩
  have key : ∀ k : Int, 100 ≤ k ∧ k < 200 → tkR S (f + b) = k → ty7 W b = k - 100 := fun k hk y => (tr_key (tb b) hk).1 (by rw [← tkb]; exact y)
  have eci : ((i : Nat) : Int).toNat = i := by omega
  have ec : pTS S i = c := by unfold pTS; rw [eci]; exact k964
  unfold PMX at pm
  rw [eci] at pm
  obtain ⟨m0, m1, m2, m3, m5, m6, m7⟩ := pm
  obtain ⟨p1, p2, p3, _⟩ := ph
  rcases rd with ⟨h1, h2, h3, h4, h5⟩ | ⟨h1, h2, h3⟩ | ⟨h1, h2, h3⟩ | ⟨h1, x, r, h3, h4, h5, h6, h7, h8⟩ | ⟨h1, h2, r, h3, h4, h5⟩ | ⟨h1, h2, h3⟩
  · have k := key 143 (by omega) h1
    have t1 : ty7 W (b + 1) = 102 := t5_102 (tb (b + 1)) (by rw [← tkx sc (i := b + 1) ⟨by omega, by omega⟩, show (f : Int) + (b + 1) = f + b + 1 by omega]; exact h4)
    obtain ⟨y1, y2, y3⟩ := tx.1 (b + 1) (by omega) (by omega) t1
    exact sayp_r hcl v sk g kA ky hts h0 hb hq h2 k964 h3 h4 (by omega) y1 y2 tx.2.1 tx.2.2 y3 hz (p1 (by omega)) (m0 h2)
  · have k := key 144 (by omega) h1
    exact now_r v sk g h0 hb hq h2 k964 (by rw [show (f : Int) + (b + 1) = f + b + 1 by omega]; exact h3) hz (p2 (by omega)) (m1 h2)
  · have k := key 145 (by omega) h1
    exact move_r v sk g h0 hb hq h2 k964 h3 hz ((p3 (by omega) (by omega)).1 (by omega)) (m2 h2)
  · have ke : (ty7 W b = 46 ∧ Xi S 963 i = 3) ∨ (ty7 W b = 47 ∧ Xi S 963 i = 4) := by
      rcases h1 with ⟨y1, y2⟩ | ⟨y1, y2⟩
      · exact Or.inl ⟨by have := key 146 (by omega) y1; omega, y2⟩
      · exact Or.inr ⟨by have := key 147 (by omega) y1; omega, y2⟩
    have r2 : e - 1 = r + 1 - f := by omega
    have l4 := (the_in h4).1
    have l3 := (pre_in (now := 1) h3).1
    have t1 : ty7 W (e - 1) = 101 := t4_101 (tb (e - 1)) (by rw [← tkx sc (i := e - 1) ⟨by omega, by omega⟩, show (f : Int) + (e - 1) = r + 1 by omega]; exact h7)
    have hv := nv (e - 1).toNat (by omega) (by rw [← ty7_i (by omega) (by omega)]; exact t1)
    exact add_r v sk g hcl h0 hb hq ke k964 cm a8 hv ⟨x, r, h3, h4, h5, h6, h7, h8⟩ hz ((p3 (by omega) (by omega)).2.1 (by omega)) (m3 (by omega))
  · have k := key 149 (by omega) h1
    obtain ⟨U, eU, u1, u2⟩ := (p3 (by omega) (by omega)).2.2.1 (by omega)
    have FU : FR [(276, 876, 0, 1)] A U := by rw [eU]; exact fr_cl hcl
    have gU : AGN W U := agn_t g (FU.kep rfl)
    have kcU : KCL A U cl := kcl_w eU KCL.rf
    have l3 := h3.1
    obtain ⟨R, rfl⟩ : ∃ u : Int, r = f + u := ⟨r - f, by omega⟩
    rw [show (f : Int) + b + 1 = f + (b + 1) by omega] at h3 h4
    have Re : R ≤ e := by
      rcases h5 with ⟨_, _, y⟩ | ⟨_, _, y⟩
      · have := (the_in y).1; omega
      · omega
    have n5 := sc.2
    have rqW := rq_r sc tb (a := b + 1) (e := R) (by omega) (by omega) h3
    have rn : RNR W S f (Xi S 956 c) (b + 1) R := rr_rnr (by omega) (by omega) ⟨rqW.1, rqW.2.1⟩ h4
    have reR : re7 (ty7 A) (b + 1) = R := by
      rw [(re_n (a := b + 1) g (by omega) (by omega)).1]
      exact re_u (by omega) (by omega) rqW.2.1 rqW.2.2
    have ec' : Xi S 953 (pTS S i).toNat = Xi S 953 c := by rw [ec, show ((c : Nat) : Int).toNat = c by omega]
    rcases h5 with ⟨_, y1, y2⟩ | ⟨_, y1, y2⟩
    · have l5 := (the_in y2).1
      rw [reR] at u2
      exact tryo_r v sk g gU kcU h0 hb hq h2 k964 rn y2 hz (u2 (by omega)) (m5 h2 (by rw [ec']; exact y1))
    · have eR : e = R := by omega
      rw [reR] at u1
      rw [← eR] at rn
      exact trya_r v g gU kcU h0 hb hq h2 k964 rn hz (u1 (by omega)) (m6 h2 (by rw [ec']; exact y1))
  · have k := key 148 (by omega) h1
    obtain ⟨z1, eB⟩ := (p3 (by omega) (by omega)).2.2.2 (by omega) (by omega) (by omega) (by omega)
    rw [eB, z1]
    exact stop_r hq h2 cm a8 (m7 h2)

/-! the reference: what a phrase notes, it notes at its own places -/
theorem phg_r {W S S1 : sS} {f c i : Nat} {b e q p : Int} (v : ENV W S f) (h0 : 0 ≤ b) (hb : e < Xi W 876 7) (k964 : Xi S 964 i = c) (rd : PHE (tkR S) S c i (f + b) (f + e)) (pm : PMX S S1 i q p) : NTG (pc7 W b) (NT3 S) (NT3 S1) := by
  have sc := v.2.1
  have tb := v.2.2.1
  have eci : ((i : Nat) : Int).toNat = i := by omega
  have ec : pTS S i = c := by unfold pTS; rw [eci]; exact k964
  have ecn : ((c : Nat) : Int).toNat = c := by omega
  unfold PMX at pm
  rw [eci] at pm
  obtain ⟨m0, m1, m2, m3, m5, m6, m7⟩ := pm
  have n0 : NT3 (phA S i q p) = NT3 S := pha_n
  have k0 : KEP cPk cPf S (phA S i q p) := pha_k
  have le : ∀ r : Int, b ≤ r → r < Xi W 876 7 → pc7 W b ≤ pc7 W r := fun r r0 r1 => plo_le v h0 r0 r1
  have th : ∀ {X : sS} {a l x y : Int}, KEP cPk cPf S X → b ≤ a → THE (tkR S) S (f + a) (f + l) x y → l < Xi W 876 7 → pc7 W b ≤ Xi X 908 (x % 10000).toNat := fun {X a l x y} k ha t hl => by
    have u := thf_r (l := l) (env_p v k) (a := a) (by omega) (the_p k t) (Int.le_refl _) hl
    rw [← u.2.2.2.1]
    exact le _ (by have := u.2.2.1; omega) (by have := u.2.2.1; omega)
  have mt : ∀ {X X1 : sS} {z x y : Int}, NTG (pc7 W b) (NT3 S) (NT3 X) → pc7 W b ≤ Xi X 908 (x % 10000).toNat → MTO X X1 z x y → NTG (pc7 W b) (NT3 S) (NT3 X1) := fun g1 g2 m => by
    rw [m.2]; exact ntg_if g1 (ntg_n g1 g2)
  rcases rd with ⟨h1, h2, h3, h4, h5⟩ | ⟨h1, h2, h3⟩ | ⟨h1, h2, r, h3, h4, h5⟩ | ⟨h1, x, r, h3, h4, h5, h6, h7, h8⟩ | ⟨h1, h2, r, h3, h4, h5⟩ | ⟨h1, h2, h3⟩
  · obtain ⟨B', C, zz, eB, sa, FC, FN, nS, _⟩ := m0 h2
    have exs : xPS S i = f + (b + 1) := by unfold xPS; rw [ec, ecn, h3]; omega
    have nC : NT3 C = NT3 S := by rw [NT3_FR FC rfl, eB, nt_u (by decide), nt_u (by decide), n0]
    have c908 : Xi C 908 (xPS S i).toNat = pc7 W (b + 1) := by
      rw [(FC.kep rfl : KEP [(908, 909)] [] B' C).x 908 rfl, eB, Xi_ne (by omega), Xi_ne (by omega), k0.x 908 rfl, exs]
      exact (pc_r sc ⟨by omega, by omega⟩).symm
    rw [nC, c908] at nS
    rw [nS]
    exact ntg_if (ntg_1 (le _ (by omega) (by omega))) ntg_0
  · obtain ⟨tm, F⟩ := m1 h2
    rw [ec] at tm
    have ab := ts_in h3
    rw [show (f : Int) + b + 1 = f + (b + 1) by omega] at h3
    have e1 := tsg_r (env_p v k0) (a := b + 1) (by omega) hb (Or.inr rfl) (tstr_q (k0.le rfl (by decide)) h3) tm
    rw [n0] at e1
    exact ntg_le e1 (le _ (by omega) (by omega))
  · obtain ⟨B', C, D, E, z1, w1, gg, q1, F1, eC, _, _, nD, FD, q2, F2, eS⟩ := m2 h2
    rw [ec, ecn] at q1 nD q2
    have l3 := (the_in h3).1
    have l5 := (the_in h5).1
    obtain ⟨R, rfl⟩ : ∃ y : Int, r = f + y := ⟨r - f, by omega⟩
    rw [show (f : Int) + b + 1 = f + (b + 1) by omega] at h3
    rw [show (f : Int) + R + 1 = f + (R + 1) by omega] at h5
    have kC : KEP cPk cPf S C := by rw [eC]; exact KEP.tr (KEP.tr k0 (F1.kep rfl)) (kep_u rfl)
    have kD : KEP cPk cPf S D := KEP.tr kC (FD.kep rfl)
    have gB := mt (by rw [n0]; exact ntg_0) (th k0 (by omega) h3 (by omega)) q1
    have gC : NTG (pc7 W b) (NT3 S) (NT3 C) := by rw [eC, nt_u (by decide)]; exact gB
    have gD : NTG (pc7 W b) (NT3 S) (NT3 D) := by rw [nD]; exact ntg_if (ntg_n gC (th kC (by omega) h3 (by omega))) gC
    have gE := mt gD (th kD (by omega) h5 (by omega)) q2
    rw [eS, nt_u (by decide)]
    exact gE
  · obtain ⟨B', C, D, E, F, z1, w, q1, F1, eC, pmo, F2, eE, nmo, F3, eS⟩ := m3 (by omega)
    rw [ec, ecn] at q1 pmo nmo
    obtain ⟨y, t0, rq, t2, t3, rr⟩ := h3
    have l1 := rq.1
    have l2 := (the_in h4).1
    obtain ⟨Q, rfl⟩ : ∃ u : Int, y = f + u := ⟨y - f, by omega⟩
    obtain ⟨R, rfl⟩ : ∃ u : Int, r = f + u := ⟨r - f, by omega⟩
    rw [t3, show (f : Int) + Q + 1 = f + (Q + 1) by omega] at h4
    rw [show (f : Int) + b + 1 + 1 = f + (b + 2) by omega] at rq rr
    have rqW := rq_r sc tb (a := b + 2) (e := Q) (by omega) (by omega) rq
    have rn : RNR W S f (Xi S 956 c) (b + 2) Q := rr_rnr (by omega) (by omega) ⟨rqW.1, rqW.2.1⟩ rr
    have kC : KEP cPk cPf S C := by rw [eC]; exact KEP.tr (KEP.tr k0 (F1.kep rfl)) (kep_u rfl)
    have kE : KEP cPk cPf S E := by rw [eE]; exact KEP.tr (KEP.tr kC (F2.kep rfl)) (kep_u rfl)
    have pr : ∀ {X : sS}, KEP cPk cPf S X → pc7 W b ≤ pR X (Xi S 956 c) := fun k => by
      have vX := env_p v k
      rw [← rn_pc (scx_s vX.2.1 vX.1.1) (rn.kS (k.le rfl (by decide)))]
      exact le _ (by omega) (by omega)
    have gB := mt (by rw [n0]; exact ntg_0) (th k0 (by omega) h4 (by omega)) q1
    have gC : NTG (pc7 W b) (NT3 S) (NT3 C) := by rw [eC, nt_u (by decide)]; exact gB
    have gD : NTG (pc7 W b) (NT3 S) (NT3 D) := by
      by_cases k : pmK C (Xi S 956 c) z1
      · rw [pmo.2.1 k]; exact gC
      · rw [pmo.2.2 k]; exact ntg_n gC (pr kC)
    have gE : NTG (pc7 W b) (NT3 S) (NT3 E) := by rw [eE, nt_u (by decide)]; exact gD
    rw [eS, nt_u (by decide)]
    by_cases k : rnR E (Xi S 956 c) 7 = -1 ∨ Xi E 928 (rnR E (Xi S 956 c) 7).toNat = 0
    · rw [nmo.1 k]; exact gE
    · rw [nmo.2 k]; exact ntg_n gE (pr kE)
  · have l3 := h3.1
    obtain ⟨R, rfl⟩ : ∃ u : Int, r = f + u := ⟨r - f, by omega⟩
    rw [show (f : Int) + b + 1 = f + (b + 1) by omega] at h3 h4
    have Re : R ≤ e := by
      rcases h5 with ⟨_, _, y⟩ | ⟨_, _, y⟩
      · have := (the_in y).1; omega
      · omega
    have rqW := rq_r sc tb (a := b + 1) (e := R) (by omega) (by omega) h3
    have rn : RNR W S f (Xi S 956 c) (b + 1) R := rr_rnr (by omega) (by omega) ⟨rqW.1, rqW.2.1⟩ h4
    have pr : pc7 W b ≤ pR S (Xi S 956 c) := by
      rw [← rn_pc (scx_s sc v.1.1) rn]
      exact le _ (by omega) (by omega)
    have ec' : Xi S 953 (pTS S i).toNat = Xi S 953 c := by rw [ec, ecn]
    rcases h5 with ⟨_, y1, y2⟩ | ⟨_, y1, y2⟩
    · obtain ⟨B', C, D, E, gg, a, z1, _, _, _, nB, FB, eC, q1, FD, eE, eS⟩ := m5 h2 (by rw [ec']; exact y1)
      rw [ec, ecn] at nB q1
      have l5 := (the_in y2).1
      have kC : KEP cPk cPf S C := by rw [eC]; exact KEP.tr (KEP.tr k0 (FB.kep rfl)) (kep_u rfl)
      have gC : NTG (pc7 W b) (NT3 S) (NT3 C) := by rw [eC, nt_u (by decide), nB, n0]; exact ntg_if (ntg_1 pr) ntg_0
      have gD := mt gC (th kC (by omega) y2 (by omega)) q1
      rw [eS, nt_u (by decide), eE, nt_u (by decide)]
      exact gD
    · obtain ⟨B', C, D, E, G, n, t, o, _, FA, nC, FC, nD, FD, _, _, eE, eG, eS⟩ := m6 h2 (by rw [ec']; exact y1)
      rw [ec, ecn] at nC nD
      have nB : NT3 B' = NT3 S := by rw [NT3_FR FA rfl, n0]
      have gC : NTG (pc7 W b) (NT3 S) (NT3 C) := by rw [nC, nB]; exact ntg_if ntg_0 (ntg_1 pr)
      rw [eS, nt_u (by decide), eG, nt_u (by decide), eE, nt_u (by decide), nD]
      exact ntg_if gC (ntg_n gC pr)
  · rw [m7 h2, n0]; exact ntg_0
end
section
/-! class and reference: PHRASES, one after another -/
theorem psq_lt {T : Int → Int} {V : sS} {c m : Nat} {p : Int} : ∀ (n : Nat) (x : Int), PSQ T V c m p (n + 1) x → p < x
  | 0, x, h => (ph_in h.1).1
  | n + 1, x, h => by
    obtain ⟨q, h1, _, h3⟩ := h
    have i := psq_lt n q h1
    have j := (ph_in h3.1).1
    omega
/-- a chain of phrases, where the class finds them -/
theorem psq_r {W S V : sS} {f c m : Nat} {a : Int} (sc : SCX W S f) (tb : ∀ i : Int, 0 ≤ ty7 W i ∧ ty7 W i ≤ 108) (h0 : 0 ≤ a) : ∀ (n : Nat) (e : Int), PSQ (tkR S) V c m (f + a) (n + 1) (f + e) → e < Xi W 876 7 → (∀ k : Nat, k ≤ n → PHE (tkR S) V (c + k) (m + k) (f + pP7 W a k) (f + eP7 W a k) ∧ Xi V 965 (m + k) = f + pP7 W a k ∧ Xi V 964 (m + k) = ((c + k : Nat) : Int) ∧ a ≤ pP7 W a k ∧ pP7 W a k < eP7 W a k ∧ eP7 W a k ≤ e) ∧ eP7 W a n = e ∧ (∀ k : Nat, k < n → ty7 W (eP7 W a k) = 105)
  | 0, e, t, he => by
    obtain ⟨t1, t2, t3, t4⟩ := t
    obtain ⟨r1, r2⟩ := pe_r sc tb h0 he t1 t4
    have e0 : eP7 W a 0 = e := r2
    have p0 : pP7 W a 0 = a := rfl
    refine ⟨fun k hk => ?_, e0, fun k hk => absurd hk (Nat.not_lt_zero _)⟩
    have : k = 0 := by omega
    subst this
    rw [e0, p0, Nat.add_zero, Nat.add_zero]
    exact ⟨t1, t2, t3, Int.le_refl _, r1, Int.le_refl _⟩
  | n + 1, e, t, he => by
    obtain ⟨q, t1, t2, t3, t4, t5, t6⟩ := t
    have l1 := psq_lt n q t1
    have l2 := (ph_in t3).1
    obtain ⟨Q, rfl⟩ : ∃ y : Int, q = f + y := ⟨q - f, by omega⟩
    obtain ⟨i1, i2, i3⟩ := psq_r sc tb h0 n Q t1 (by omega)
    rw [show (f : Int) + Q + 1 = f + (Q + 1) by omega] at t3 t4
    obtain ⟨r1, r2⟩ := pe_r sc tb (b := Q + 1) (by omega) he t3 t6
    have p1 : pP7 W a (n + 1) = Q + 1 := by show eP7 W a n + 1 = Q + 1; rw [i2]
    have e1 : eP7 W a (n + 1) = e := by show te8 (ty7 W) 1 (pP7 W a (n + 1)) = e; rw [p1]; exact r2
    have tq : ty7 W Q = 105 := by
      have k := tkx sc (i := Q) ⟨by omega, by omega⟩
      rw [t2] at k
      have kb := tb Q
      unfold tr7 at k
      by_cases c2 : ty7 W Q = 105
      · exact c2
      · by_cases c1 : ty7 W Q < 100
        · rw [if_pos c1] at k; omega
        · rw [if_neg c1] at k; (repeat' split at k) <;> omega
    refine ⟨fun k hk => ?_, e1, fun k hk => ?_⟩
    · by_cases kn : k ≤ n
      · obtain ⟨x1, x2, x3, x4, x5, x6⟩ := i1 k kn
        exact ⟨x1, x2, x3, x4, x5, by omega⟩
      · have : k = n + 1 := by omega
        subst this
        rw [e1, p1]
        exact ⟨t3, t4, t5, by omega, r1, Int.le_refl _⟩
    · by_cases kn : k < n
      · exact i3 k kn
      · have : k = n := by omega
        subst this
        rw [i2]; exact tq
theorem pp_lt {W : sS} {a : Int} : ∀ (m k : Nat), (∀ j : Nat, j ≤ k + m → pP7 W a j < eP7 W a j) → eP7 W a k < pP7 W a (k + m + 1)
  | 0, k, h => by show eP7 W a k < eP7 W a k + 1; omega
  | m + 1, k, h => by
    have ih := pp_lt m k (fun j hj => h j (by omega))
    have := h (k + m + 1) (by omega)
    show eP7 W a k < eP7 W a (k + m + 1) + 1
    omega
/-- the entries of other tests and phrases stay -/
def PKQ (S S1 : sS) (q p : Int) : Prop := (∀ k j : Nat, 969 ≤ k → k ≤ 975 → j ≠ q.toNat → Xi S1 k j = Xi S k j) ∧ ∀ k j : Nat, k = 976 ∨ k = 977 → j ≠ p.toNat → Xi S1 k j = Xi S k j
theorem PKQ.tr {S T U : sS} {q p : Int} (h : PKQ S T q p) (k : PKQ T U q p) : PKQ S U q p := ⟨fun i j a b c => (k.1 i j a b c).trans (h.1 i j a b c), fun i j a b => (k.2 i j a b).trans (h.2 i j a b)⟩
theorem pkq_u {S : sS} {k : Nat} {q p : Int} {v : Int32} (h : 969 ≤ k ∧ k ≤ 975) : PKQ S (uI S k q.toNat v) q p := ⟨fun i j _ _ c => Xi_ne (by omega), fun i j a _ => Xi_ne (by omega)⟩
theorem pkq_a {S : sS} {i q p : Int} : PKQ S (phA S i q p) q p := by
  unfold phA
  exact ⟨fun k j a b _ => by rw [Xi_ne (by omega), Xi_ne (by omega)], fun k j _ b => by rw [Xi_ne (by omega), Xi_ne (by omega)]⟩
theorem pkq_f {l : List rec} {S T : sS} {q p : Int} (F : FR l S T) (e : kdis l [(969, 978)] = true) : PKQ S T q p := by
  have k : ∀ i j : Nat, 969 ≤ i → i ≤ 977 → Xi T i j = Xi S i j := fun i j h1 h2 => (F.smk e).x i (inK_i (a := 969) (b := 978) (List.mem_cons_self ..) (by omega) (by omega)) j
  exact ⟨fun i j h1 h2 _ => k i j (by omega) (by omega), fun i j h _ => k i j (by omega) (by omega)⟩
theorem pmx_q {S S1 : sS} {i q p : Int} (hq : 0 ≤ q) (h3 : 0 ≤ Xi S 963 i.toNat ∧ Xi S 963 i.toNat ≤ 6) (h5 : Xi S 963 i.toNat = 5 → Xi S 953 (pTS S i).toNat = 0 ∨ Xi S 953 (pTS S i).toNat = 1) (pm : PMX S S1 i q p) : PKQ S S1 q p := by
  obtain ⟨m0, m1, m2, m3, m5, m6, m7⟩ := pm
  have a := pkq_a (S := S) (i := i) (q := q) (p := p)
  rcases (by omega : Xi S 963 i.toNat = 0 ∨ Xi S 963 i.toNat = 1 ∨ Xi S 963 i.toNat = 2 ∨ (Xi S 963 i.toNat = 3 ∨ Xi S 963 i.toNat = 4) ∨ Xi S 963 i.toNat = 5 ∨ Xi S 963 i.toNat = 6) with c | c | c | c | c | c
  · obtain ⟨B', C, zz, eB, _, FC, FN, _, _⟩ := m0 c
    have b : PKQ S B' q p := by rw [eB]; exact (a.tr (pkq_u (by omega))).tr (pkq_u (by omega))
    exact (b.tr (pkq_f FC rfl)).tr (pkq_f FN rfl)
  · obtain ⟨tm, F⟩ := m1 c
    refine a.tr ⟨fun k j h1 h2 hj => ?_, fun k j h1 hj => ?_⟩
    · exact tm.2.2.2.2.2 j (by omega) k h1 h2
    · rcases h1 with rfl | rfl <;> exact (F.kep rfl : KEP [(976, 978)] [] _ _).x _ rfl _
  · obtain ⟨B', C, D, E, z1, w1, gg, _, F1, eC, _, _, _, FD, _, F2, eS⟩ := m2 c
    have b : PKQ S C q p := by rw [eC]; exact (a.tr (pkq_f F1 rfl)).tr (pkq_u (by omega))
    have d : PKQ S E q p := (b.tr (pkq_f FD rfl)).tr (pkq_f F2 rfl)
    rw [eS]; exact d.tr (pkq_u (by omega))
  · obtain ⟨B', C, D, E, F, z1, w, _, F1, eC, _, F2, eE, _, F3, eS⟩ := m3 c
    have b : PKQ S C q p := by rw [eC]; exact (a.tr (pkq_f F1 rfl)).tr (pkq_u (by omega))
    have d : PKQ S E q p := by rw [eE]; exact (b.tr (pkq_f F2 rfl)).tr (pkq_u (by omega))
    rw [eS]; exact (d.tr (pkq_f F3 rfl)).tr (pkq_u (by omega))
  · rcases h5 c with c5 | c5
    · obtain ⟨B', C, D, E, G, n, t, o, _, FA, _, FC, _, FD, _, _, eE, eG, eS⟩ := m6 c c5
      have d : PKQ S D q p := ((a.tr (pkq_f FA rfl)).tr (pkq_f FC rfl)).tr (pkq_f FD rfl)
      have e : PKQ S E q p := by rw [eE]; exact d.tr (pkq_u (by omega))
      have f : PKQ S G q p := by rw [eG]; exact e.tr (pkq_u (by omega))
      rw [eS]; exact f.tr (pkq_u (by omega))
    · obtain ⟨B', C, D, E, gg, a1, z1, _, _, _, _, FB, eC, _, FD, eE, eS⟩ := m5 c c5
      have b : PKQ S C q p := by rw [eC]; exact (a.tr (pkq_f FB rfl)).tr (pkq_u (by omega))
      have e : PKQ S E q p := by rw [eE]; exact (b.tr (pkq_f FD rfl)).tr (pkq_u (by omega))
      rw [eS]; exact e.tr (pkq_u (by omega))
  · rw [m7 c]; exact a
theorem pqf_k {U S T : sS} {p q : Nat} {fm n w h t g m : Int} (e : ∀ k : Nat, 969 ≤ k → k ≤ 975 → Xi T k q = Xi S k q) (e2 : ∀ k : Nat, k = 976 ∨ k = 977 → Xi T k p = Xi S k p) (s6 : ∀ j, Xi T 906 j = Xi S 906 j) (x : PQF U S p q fm n w h t g m) : PQF U T p q fm n w h t g m := by
  unfold PQF at x ⊢
  rw [e2 976 (Or.inl rfl), e2 977 (Or.inr rfl), e 970 (by omega) (by omega), e 971 (by omega) (by omega), e 972 (by omega) (by omega), e 973 (by omega) (by omega), e 974 (by omega) (by omega), e 975 (by omega) (by omega)]
  refine ⟨x.1, x.2.imp (fun y => ⟨y.1, tqf_k e s6 y.2⟩) (fun y => y)⟩
/-- the rows of the class while phrases are read -/
theorem agu_n {W A : sS} {l : List rec} (e6 : Xi W 876 6 = Xi W 876 7) (l1 : 1 ≤ Xi W 876 7) (dot : ty7 W (Xi W 876 7 - 1) = 103) (g : AGU W A) (F : FR l W A) (e : kepC l [(2, 20), (21, 22)] [(1, 3), (895, 3), (895, 4)] = true) : AGN W A := by
  obtain ⟨kr, ⟨r1, r2⟩, _⟩ := g
  refine ⟨fun i h0 h1 => ?_, ⟨by omega, r2, l1, dot⟩, F.kep e⟩
  obtain ⟨k1, k2, k3⟩ := kr i.toNat (by omega)
  rw [ty7_i h0 (by omega), ty7_i h0 h1]
  unfold pc7
  rw [if_pos ⟨h0, by omega⟩, if_pos ⟨h0, h1⟩]
  exact ⟨k1, k2, k3⟩
end
section
/-! class and reference: PHRASES, all of them -/
/-- inserts grow -/
def GRI (S T : sS) : Prop := Xi S 246 8 ≤ Xi T 246 8 ∧ ∀ j : Nat, (j : Int) < Xi S 246 8 → Xi T 274 j = Xi S 274 j ∧ Xi T 275 j = Xi S 275 j
theorem GRI.rf {S : sS} : GRI S S := ⟨Int.le_refl _, fun _ _ => ⟨rfl, rfl⟩⟩
theorem GRI.tr {S T U : sS} (h : GRI S T) (k : GRI T U) : GRI S U := ⟨Int.le_trans h.1 k.1, fun j hj => ⟨(k.2 j (by have := h.1; omega)).1.trans (h.2 j hj).1, (k.2 j (by have := h.1; omega)).2.trans (h.2 j hj).2⟩⟩
theorem gri_k {S T : sS} (h : KIN S T) : GRI S T := ⟨by rw [h.1]; exact Int.le_refl _, fun j _ => h.2 j⟩
theorem gri_f {l : List rec} {S T : sS} (F : FR l S T) (e : kepC l [(274, 276)] [(246, 8)] = true) : GRI S T := by
  have k := F.kep e
  exact ⟨by rw [k.f 246 8 (by decide)]; exact Int.le_refl _, fun j _ => ⟨k.x 274 rfl j, k.x 275 rfl j⟩⟩
theorem gri_i {S T : sS} {ts : Nat} {a to z : Int} (h : INO S T ts a to z) : GRI S T := by
  obtain ⟨U, c, _, F, i1, i2⟩ := h
  have g : GRI S U := gri_f F rfl
  by_cases cn : c = -1
  · rw [(i1 cn).2]; exact g
  · obtain ⟨n1, n2⟩ := i2 cn
    by_cases ok : inOK U c
    · obtain ⟨_, V, kv, ia⟩ := n2 ok
      refine (g.tr (gri_k kv)).tr ?_
      by_cases l : Xi V 246 8 < 1666
      · have e := ia.1 l
        have r := Xi_rgI (S := V) (k := 246) (j := 8)
        have e8 : Xi T 246 8 = Xi V 246 8 + 1 := by rw [e, Xi_same (by unfold rg; omega)]
        refine ⟨by omega, fun j hj => ?_⟩
        rw [e]
        exact ⟨by rw [Xi_ne (by omega), Xi_ne (by omega), Xi_ne (by omega)], by rw [Xi_ne (by omega), Xi_ne (by omega), Xi_ne (by omega)]⟩
      · rw [ia.2 (by omega)]; exact GRI.rf
    · exact g.tr (gri_k (n1 ok).2)
theorem gri_c {S : sS} {ts : Nat} : ∀ (L : List (Int × Int)) (T : sS), ICH S ts L T → GRI S T
  | [], T, h => by have h : T = S := h; rw [h]; exact GRI.rf
  | (o, q) :: L, T, h => by
    obtain ⟨W, h1, _, h3⟩ := h
    exact (gri_c L W h1).tr (gri_i h3)
theorem gri_x {A B : sS} {ts cl : Nat} {key p e : Int} (h : PHX A B ts cl key p e 1) : GRI A B := by
  by_cases k : key = 43
  · obtain ⟨_, L, _, ch, _⟩ := (h.1 k).1 rfl
    refine GRI.tr ?_ (gri_c L B ch)
    unfold syW
    refine ⟨?_, fun j _ => ⟨?_, ?_⟩⟩
    · rw [Xi_ne (by omega), Xi_ne (by omega), Xi_ne (by omega), Xi_ne (by omega)]; exact Int.le_refl _
    · rw [Xi_ne (by omega), Xi_ne (by omega), Xi_ne (by omega), Xi_ne (by omega)]
    · rw [Xi_ne (by omega), Xi_ne (by omega), Xi_ne (by omega), Xi_ne (by omega)]
  · exact gri_k (h.2.2.2.2 k)
theorem phe_q {S X : sS} {c m : Nat} {p e : Int} (k : KEP cPk cPf S X) (h : PHE (tkR S) S c m p e) : PHE (tkR X) X c m p e := by
  have et : tkR X = tkR S := by funext i; unfold tkR; exact k.x 907 rfl _
  have u0 : ∀ j, Xi X 950 j = Xi S 950 j := k.x 950 rfl
  have u1 : ∀ j, Xi X 951 j = Xi S 951 j := k.x 951 rfl
  have u2 : ∀ j, Xi X 952 j = Xi S 952 j := k.x 952 rfl
  have u3 : ∀ j, Xi X 953 j = Xi S 953 j := k.x 953 rfl
  have u4 : ∀ j, Xi X 954 j = Xi S 954 j := k.x 954 rfl
  have u5 : ∀ j, Xi X 955 j = Xi S 955 j := k.x 955 rfl
  have u6 : ∀ j, Xi X 956 j = Xi S 956 j := k.x 956 rfl
  have u7 : ∀ j, Xi X 957 j = Xi S 957 j := k.x 957 rfl
  have u8 : ∀ j, Xi X 958 j = Xi S 958 j := k.x 958 rfl
  have u9 : ∀ j, Xi X 959 j = Xi S 959 j := k.x 959 rfl
  have ua : ∀ j, Xi X 960 j = Xi S 960 j := k.x 960 rfl
  have ub : ∀ j, Xi X 961 j = Xi S 961 j := k.x 961 rfl
  have uc : ∀ j, Xi X 962 j = Xi S 962 j := k.x 962 rfl
  have ue : ∀ j, Xi X 963 j = Xi S 963 j := k.x 963 rfl
  have ud : Xi X 904 69 = Xi S 904 69 := k.f 904 69 (by decide)
  rw [et]
  unfold PHE TSTR TSB PRE THE TH3 TWE WHE RR at h ⊢
  simp only [u0, u1, u2, u3, u4, u5, u6, u7, u8, u9, ua, ub, uc, ud, ue]
  exact h
theorem phe_3 {T : Int → Int} {V : sS} {c m : Nat} {p e : Int} (h : PHE T V c m p e) : (0 ≤ Xi V 963 m ∧ Xi V 963 m ≤ 6) ∧ (Xi V 963 m = 5 → Xi V 953 c = 0 ∨ Xi V 953 c = 1) := by
  rcases h with ⟨_, h, _⟩ | ⟨_, h, _⟩ | ⟨_, h, _⟩ | ⟨⟨_, h⟩ | ⟨_, h⟩, _⟩ | ⟨_, h, r, _, _, ⟨_, k, _⟩ | ⟨_, k, _⟩⟩ | ⟨_, h, _⟩
  · omega
  · omega
  · omega
  · omega
  · omega
  · exact ⟨by omega, fun _ => Or.inr k⟩
  · exact ⟨by omega, fun _ => Or.inl k⟩
  · omega
/-- phrases as the reading has left them -/
def PCHN (W D : sS) (f c0 : Nat) (a : Int) (N : Nat) : Prop := ∀ k : Nat, k < N → PHE (tkR D) D (c0 + k) k (f + pP7 W a k) (f + eP7 W a k) ∧ Xi D 964 k = ((c0 + k : Nat) : Int) ∧ Xi D 965 k = f + pP7 W a k ∧ a ≤ pP7 W a k ∧ pP7 W a k < eP7 W a k ∧ eP7 W a k < Xi W 876 7
theorem rph_f {S D : sS} {q0 p0 : Int} : ∀ (n : Nat) (X : sS), RPH md_mo_need__p md_mo_phraseMeant__p S D q0 p0 n X → FR md_mo_phraseMeant__p D X
  | 0, X, h => by have h : X = D := h; rw [h]; exact FR.rf
  | n + 1, X, h => by
    obtain ⟨Y, A, h1, h2, _, h4, _⟩ := h
    exact ((rph_f n Y h1).tr h2 rfl).tr h4 rfl
theorem pp_le {W : sS} {a : Int} {k n : Nat} (h : k ≤ n) (x : ∀ j : Nat, j < n → pP7 W a j < eP7 W a j) : pP7 W a k ≤ pP7 W a n := by
  by_cases e : k = n
  · rw [e]; exact Int.le_refl _
  · have t := pp_lt (W := W) (a := a) (n - k - 1) k (fun j hj => x j (by omega))
    rw [show k + (n - k - 1) + 1 = n by omega] at t
    have := x k (by omega)
    omega
/-- the notes of later phrases are at later places -/
theorem rph_g {W S D : sS} {f c0 N : Nat} {a q0 p0 : Int} (v : ENV W D f) (h0 : 0 ≤ a) (ch : PCHN W D f c0 a N) (kS : ∀ j, Xi S 908 j = Xi D 908 j) (kS5 : ∀ j, Xi S 965 j = Xi D 965 j) : ∀ (n : Nat) (X : sS), n ≤ N → RPH md_mo_need__p md_mo_phraseMeant__p S D q0 p0 n X → ∀ k : Nat, k ≤ n → ∃ Y : sS, RPH md_mo_need__p md_mo_phraseMeant__p S D q0 p0 k Y ∧ (k = n → Y = X) ∧ (k < n → NTG (pc7 W (pP7 W a k)) (NT3 Y) (NT3 X))
  | 0, X, hn, h, k, hk => ⟨X, by have : k = 0 := by { omega }; rw [this]; exact h, fun _ => rfl, fun z => by omega⟩
  | n + 1, X, hn, h, k, hk => by
    by_cases e : k = n + 1
    · rw [e]; exact ⟨X, h, fun _ => rfl, fun z => by omega⟩
    · obtain ⟨X', A', h1, h2, h3, h4, h5⟩ := id h
      obtain ⟨Y, y1, y2, y3⟩ := rph_g v h0 ch kS kS5 n X' (by omega) h1 k (by omega)
      refine ⟨Y, y1, fun z => absurd z e, fun _ => ?_⟩
      obtain ⟨c1, c2, c3, c4, c5, c6⟩ := ch n (by omega)
      have F : FR md_mo_phraseMeant__p D A' := (rph_f n X' h1).tr h2 rfl
      have kA : KEP cPk cPf D A' := F.kep rfl
      have vA := env_p v kA
      have pn : Xi S 908 (Xi S 965 n).toNat = pc7 W (pP7 W a n) := by
        rw [kS, kS5, c3]
        exact (pc_r v.2.1 ⟨by omega, by omega⟩).symm
      have le : pc7 W (pP7 W a k) ≤ pc7 W (pP7 W a n) := plo_le v (by have := (ch k (by omega)).2.2.2.1; omega) (pp_le (by omega) (fun j hj => (ch j (by omega)).2.2.2.2.1)) (by omega)
      have g1 : NTG (pc7 W (pP7 W a k)) (NT3 X') (NT3 A') := by
        rw [h3, pn]
        exact ntg_if ntg_0 (ntg_1 le)
      have g2 := phg_r vA (b := pP7 W a n) (by omega) c6 (by rw [kA.x 964 rfl]; exact c2) (phe_q kA c1) h5
      have g0 : NTG (pc7 W (pP7 W a k)) (NT3 Y) (NT3 X') := by
        by_cases kn : k < n
        · exact y3 kn
        · rw [y2 (by omega)]; exact ntg_0
      exact ntg_t (ntg_t g0 g1) (ntg_le g2 le)

/-! class and reference: PHRASES of both, good and the same, or the same fault -/
def PEN (W D : sS) (f ts : Nat) : Prop := ENV W D f ∧ Xi W 895 3 = 53 ∧ KEYR (Xj W 880) (Xj D 911) ∧ ts = txr W ∧ TXL W ∧ NVL W ∧ Xi W 876 6 = Xi W 876 7 ∧ (1 ≤ Xi W 876 7 ∧ ty7 W (Xi W 876 7 - 1) = 103) ∧ Xi W 876 8 = 0 ∧ (0 ≤ Xi W 246 5 ∧ Xi W 246 5 + 8 ≤ 600) ∧ 0 ≤ Xi W 899 5
def PGO (W T X : sS) (ts base : Nat) (a q0 p0 : Int) (n : Nat) : Prop := ∀ k : Nat, k < n → (∃ fm i w h t g m : Int, CLM T (base + k) fm i w h t g m ∧ PQF W X (p0 + k).toNat (q0 + k).toNat fm i w h t g m) ∧ ∃ A B : sS, PHX A B ts (base + k) (ty7 W (pP7 W a k)) (pP7 W a k) (eP7 W a k) 1 ∧ AGU W A ∧ FR md_rr_rulePhrases__p W A ∧ GRI B T ∧ CLM B (base + k) (Xi T (276 + (base + k)) 0) (Xi T (276 + (base + k)) 1) (Xi T (276 + (base + k)) 2) (Xi T (276 + (base + k)) 3) (Xi T (276 + (base + k)) 4) (Xi T (276 + (base + k)) 5) (Xi T (276 + (base + k)) 6)
/-- one phrase of a chain -/
theorem phc_1 {W W' A B D X' A' X : sS} {f ts c0 N n cl : Nat} {a q0 p0 z : Int} (pe : PEN W D f ts) (h0 : 0 ≤ a) (ch : PCHN W D f c0 a N) (hn : n < N) (hn8 : n < 8) (q00 : 0 ≤ q0 ∧ q0 + 8 ≤ 100000) (ecl : (cl : Int) = Xi W' 246 5) (el : Xi W' 246 5 = Xi W 246 5 + n) (w8 : Xi W' 876 8 = 0) (nx : NXC W' A) (ag : AGU W A) (F : FR md_rr_rulePhrases__p W A) (ph : PHX A B ts cl (ty7 W (pP7 W a n)) (pP7 W a n) (eP7 W a n) z) (hz : z = 0 ∨ z = 1) (FX : FR md_mo_phraseMeant__p D X') (FN : FR md_mo_need__p X' A') (pm : PMX A' X n (q0 + n) (p0 + n)) : PRS W A B A' X cl (q0 + n) (p0 + n) (pP7 W a n) (eP7 W a n) z ∧ PKQ A' X (q0 + n) (p0 + n) := by
  obtain ⟨v, sk, ky, hts, tx, nv, e6, ⟨l1, dot⟩, _, b5, _⟩ := pe
  obtain ⟨c1, c2, c3, c4, c5, c6⟩ := ch n hn
  obtain ⟨FA, _, _, cm⟩ := nx
  rw [show (Xi W' 246 5).toNat = cl by omega] at cm
  have kA : KEP cPk cPf D A' := KEP.tr (FX.kep rfl) (FN.kep rfl)
  have k11 : ∀ j, Xj A' 911 j = Xj D 911 j := (KEP.tr (FX.kep rfl) (FN.kep rfl) : KEP [(911, 912)] [] D A').j 911 rfl
  have rd := phe_q kA c1
  have k4 : Xi A' 964 n = ((c0 + n : Nat) : Int) := by rw [kA.x 964 rfl]; exact c2
  have p3 := phe_3 rd
  have ein : ((n : Nat) : Int).toNat = n := by omega
  refine ⟨phr_r (by omega) (env_p v kA) sk (agu_n e6 l1 dot ag F rfl) (F.kep rfl) (fun i hi => by rw [k11]; exact ky i hi) hts tx nv (by omega) c6 (by omega) k4 cm (by rw [FA.x 876 8 rfl]; exact w8) rd hz ph pm, pmx_q (by omega) (by rw [ein]; exact p3.1) (fun h => ?_) pm⟩
  rw [ein] at h
  have t := p3.2 h
  unfold pTS
  rw [ein, k4, show (((c0 + n : Nat) : Int)).toNat = c0 + n by omega]
  exact t
theorem phc_y {W D S : sS} {f ts c0 N ru base : Nat} {a q0 p0 : Int} (pe : PEN W D f ts) (ea : a = Xi W 899 5 + 1) (eb : (base : Int) = Xi W 246 5) (hru : ru < 24) (ch : PCHN W D f c0 a N) (q00 : 0 ≤ q0 ∧ q0 + 8 ≤ 100000) (p00 : 0 ≤ p0) : ∀ (n : Nat) (T X : sS), n ≤ N → n ≤ 8 → PHC md_rr_rulePhrases__p W ru ts n T → RPH md_mo_need__p md_mo_phraseMeant__p S D q0 p0 n X → NT3 X = NT3 D ∧ Xi T 876 8 = 0 ∧ Xi T 246 5 = Xi W 246 5 + n ∧ GRI W T ∧ (∀ c j : Nat, (c : Int) < Xi W 246 5 → Xi T (276 + c) j = Xi W (276 + c) j) ∧ PGO W T X ts base a q0 p0 n
  | 0, T, X, _, _, h, h' => by
    have h : T = W := h
    have h' : X = D := h'
    rw [h, h']
    exact ⟨rfl, pe.2.2.2.2.2.2.2.2.1, by omega, GRI.rf, fun _ _ _ => rfl, fun k hk => absurd hk (Nat.not_lt_zero _)⟩
  | n + 1, T, X, hn, hn8, h, h' => by
    obtain ⟨W', A, B, h1, nx, ag, F, ph, FB, eT⟩ := h
    obtain ⟨X', A', r1, FN, nA, FP, pm⟩ := h'
    obtain ⟨i1, i2, i3, i4, i5, i6⟩ := phc_y pe ea eb hru ch q00 p00 n W' X' (by omega) (by omega) h1 r1
    have b5 := pe.2.2.2.2.2.2.2.2.2.1
    have ecl : (Xi W' 246 5).toNat = base + n := by omega
    rw [← ea, ecl] at ph
    have FX := rph_f n X' r1
    obtain ⟨⟨_, pr, _⟩, pk⟩ := phc_1 (cl := base + n) pe (by have := pe.2.2.2.2.2.2.2.2.2.2; omega) ch (by omega) (by omega) q00 (by omega) i3 i2 nx ag F ph (Or.inr rfl) FX FN pm
    obtain ⟨p1, p2, p3, fm, i, w, hh, t, g, m, cm, pq⟩ := pr rfl
    rw [if_pos (by omega)] at nA
    obtain ⟨FA, n5, kc, _⟩ := nx
    rw [ecl] at kc
    have lx := ph.2.2.2.1
    have eTc : ∀ c j : Nat, Xi T (276 + c) j = Xi B (276 + c) j := fun c j => by rw [eT, Xi_ne (by omega)]
    have s6 : ∀ j, Xi X 906 j = Xi X' 906 j := fun j => by
      rw [(FP.kep rfl : KEP [(906, 907)] [] A' X).x 906 rfl, (FN.kep rfl : KEP [(906, 907)] [] X' A').x 906 rfl]
    have gBT : GRI B T := by
      rw [eT]
      exact ⟨by rw [Xi_ne (by omega)]; exact Int.le_refl _, fun j _ => ⟨Xi_ne (by omega), Xi_ne (by omega)⟩⟩
    have gW : GRI W' T := ((gri_f FA rfl).tr (gri_x ph)).tr gBT
    refine ⟨by rw [p1, nA, i1], by rw [eT, Xi_ne (by omega)]; exact p2, ?_, i4.tr gW, fun c j hc => ?_, fun k hk => ?_⟩
    · rw [eT, Xi_ne (by omega), lx.x 246 5 rfl, n5, i3]; omega
    · rw [eTc, p3 c j (by omega) (by omega), kc c j (by omega) (by omega)]; exact i5 c j hc
    · by_cases kn : k < n
      · obtain ⟨⟨fm, i, w, hh, t, g, m, x1, x2⟩, A2, B2, y1, y2, y3, y4, y5⟩ := i6 k kn
        have ec : ∀ j : Nat, Xi T (276 + (base + k)) j = Xi W' (276 + (base + k)) j := fun j => by
          rw [eTc, p3 (base + k) j (by omega) (by omega), kc (base + k) j (by omega) (by omega)]
        refine ⟨⟨fm, i, w, hh, t, g, m, ?_, ?_⟩, A2, B2, y1, y2, y3, y4.tr gW, ?_⟩
        · unfold CLM at x1 ⊢
          simp only [ec]
          exact x1
        · refine pqf_k (fun k' h1 h2 => ?_) (fun k' h1 => ?_) s6 x2
          · rw [pk.1 k' _ h1 h2 (by omega)]
            exact (FN.kep rfl : KEP [(969, 978)] [] X' A').x _ (inK_i (a := 969) (b := 978) (List.mem_cons_self ..) (by omega) (by omega)) _
          · rw [pk.2 k' _ h1 (by omega)]
            exact (FN.kep rfl : KEP [(969, 978)] [] X' A').x _ (inK_i (a := 969) (b := 978) (List.mem_cons_self ..) (by omega) (by omega)) _
        · simp only [ec]
          exact y5
      · have : k = n := by omega
        subst this
        refine ⟨⟨fm, i, w, hh, t, g, m, ?_, pq⟩, A, B, ph, ag, F, gBT, ?_⟩
        · unfold CLM at cm ⊢
          simp only [eTc]
          exact cm
        · unfold CLM
          simp only [eTc]
          exact ⟨trivial, trivial, trivial, trivial, trivial, trivial, trivial⟩
/-- PHRASES of both -/
theorem phs_r {W D S Z U1 : sS} {f ts c0 N ru base : Nat} {a q0 p0 y : Int} (pe : PEN W D f ts) (ea : a = Xi W 899 5 + 1) (eb : (base : Int) = Xi W 246 5) (hru : ru < 24) (ch : PCHN W D f c0 a N) (kS : ∀ j, Xi S 908 j = Xi D 908 j) (kS5 : ∀ j, Xi S 965 j = Xi D 965 j) (q00 : 0 ≤ q0 ∧ q0 + 8 ≤ 100000) (p00 : 0 ≤ p0) (N0 : 0 < N) (mid : ∀ k : Nat, k + 1 < N → ty7 W (eP7 W a k) = 105) (last : ty7 W (eP7 W a (N - 1)) ≠ 105) (rp : RPO md_rr_rulePhrases__p W U1 ru ts y) (rr : RPH md_mo_need__p md_mo_phraseMeant__p S D q0 p0 N Z) : (y = 1 → NT3 Z = NT3 D ∧ N ≤ 8 ∧ Xi U1 876 8 = 0 ∧ ∃ T : sS, PHC md_rr_rulePhrases__p W ru ts N T ∧ U1 = uI (uI T (248 + ru) 5 (Int32.ofInt (Xi W 899 6))) 246 2 (Int32.ofInt (Xi W 246 2 + 1)) ∧ Xi T 246 5 = Xi W 246 5 + N ∧ GRI W T ∧ (∀ c j : Nat, (c : Int) < Xi W 246 5 → Xi T (276 + c) j = Xi W (276 + c) j) ∧ PGO W T Z ts base a q0 p0 N) ∧ (y = 0 → (NT3 D).1 = 0 → NTB (NT3 Z) (Xi U1 876 8) (Xi U1 876 9)) := by
  have v := pe.1
  have h0 : 0 ≤ a := by have := pe.2.2.2.2.2.2.2.2.2.2; omega
  obtain ⟨r1, r0⟩ := rp
  rw [← ea] at r1 r0
  refine ⟨fun y1 => ?_, fun y0 n1 => ?_⟩
  · obtain ⟨n, T, x1, x2, pc, m, l, eU, f8⟩ := r1 y1
    have nN : n = N := by
      by_cases c : n < N
      · exact absurd (mid (n - 1) (by omega)) l
      · by_cases c2 : N < n
        · exact absurd (m (N - 1) (by omega)) last
        · omega
    subst nN
    obtain ⟨i1, i2, i3, i4, i5, i6⟩ := phc_y pe ea eb hru ch q00 p00 n T Z (Nat.le_refl _) x2 pc rr
    exact ⟨i1, x2, f8, T, pc, eU, i3, i4, i5, i6⟩
  · obtain ⟨n, W', x1, pc, m, cs⟩ := r0 y0
    have nN : n < N := by
      by_cases c : n < N
      · exact c
      · exact absurd (m (N - 1) (by omega)) last
    obtain ⟨Y, y1, _, y3⟩ := rph_g v h0 ch kS kS5 N Z (Nat.le_refl _) rr n (by omega)
    obtain ⟨i1, i2, i3, _, _, _⟩ := phc_y pe ea eb hru ch q00 p00 n W' Y (by omega) x1 pc y1
    obtain ⟨Y1, z1, z2, z3⟩ := rph_g v h0 ch kS kS5 N Z (Nat.le_refl _) rr (n + 1) (by omega)
    obtain ⟨X', A', s1, FN, nA, FP, pm⟩ := id z1
    -- the chain up to the phrase is one
    obtain ⟨c1, c2, c3, c4, c5, c6⟩ := ch n nN
    have pn : Xi S 908 (Xi S 965 n).toNat = pc7 W (pP7 W a n) := by
      rw [kS, kS5, c3]
      exact (pc_r v.2.1 ⟨by omega, by omega⟩).symm
    obtain ⟨j1, j2, j3, _, _, _⟩ := phc_y pe ea eb hru ch q00 p00 n W' X' (by omega) x1 pc s1
    have FX := rph_f n X' s1
    have kA : KEP cPk cPf D A' := KEP.tr (FX.kep rfl) (FN.kep rfl)
    rcases cs with ⟨n8, ft, agW⟩ | ⟨n8, A, nx, ag, F, ph⟩
    · subst n8
      rw [if_neg (by omega), pn, j1] at nA
      have nA9 : NT3 A' = (9, pc7 W (pP7 W a 8), 0) := by
        rw [nA]
        unfold ntF
        rw [if_pos (Or.inl n1)]
        rfl
      have g1 := phg_r (env_p v kA) (b := pP7 W a 8) (by omega) c6 (by rw [kA.x 964 rfl]; exact c2) (phe_q kA c1) pm
      have g2 : NTG (pc7 W (pP7 W a 8)) (NT3 A') (NT3 Z) := by
        by_cases e : 8 + 1 = N
        · rw [z2 e] at g1; exact g1
        · have le : pc7 W (pP7 W a 8) ≤ pc7 W (pP7 W a 9) := by
            obtain ⟨_, _, _, d4, d5, d6⟩ := ch 9 (by omega)
            exact plo_le v (by omega) (pp_le (by omega) (fun j hj => (ch j (by omega)).2.2.2.2.1)) (by omega)
          exact ntg_t g1 (ntg_le (z3 (by omega)) le)
      obtain ⟨ll, hl, e⟩ := g2
      have e9 : NT3 Z = (9, pc7 W (pP7 W a 8), 0) := by rw [e, nA9]; exact ntg_9 ll hl
      have pw : pc7 W' (pP7 W a 8) = pc7 W (pP7 W a 8) := by
        have e6 := pe.2.2.2.2.2.2.1
        obtain ⟨kr, ⟨x6, x7⟩, _⟩ := agW
        unfold pc7
        rw [if_pos ⟨by omega, by omega⟩, if_pos ⟨by omega, by omega⟩]
        exact (kr (pP7 W a 8).toNat (by omega)).2.1
      rw [ft.1, ft.2, pw, e9]
      exact ⟨rfl, rfl⟩
    · have ecl : (Xi W' 246 5).toNat = base + n := by omega
      rw [ecl] at ph
      have b5 := pe.2.2.2.2.2.2.2.2.2.1
      obtain ⟨⟨_, _, pr⟩, _⟩ := phc_1 (cl := base + n) pe h0 ch nN n8 q00 (by omega) j3 j2 nx ag F ph (Or.inl rfl) FX FN pm
      rw [if_pos (by omega)] at nA
      obtain ⟨t1, t2, r, t3, t4, t5⟩ := pr rfl (by rw [nA, j1]; exact n1)
      by_cases e : n + 1 = N
      · rw [← z2 e]; exact t1
      · refine ntg_k (z3 (by omega)) t1 t2 ?_
        rw [t5]
        obtain ⟨_, _, _, d4, d5, d6⟩ := ch (n + 1) (by omega)
        have : pP7 W a (n + 1) = eP7 W a n + 1 := rfl
        exact v.2.2.2.2.2.2 r (pP7 W a (n + 1)) (by omega) (by omega) (by omega)
end
section
/-! tests of the class: where they end -/
def HTE (S S1 : sS) (a z : Int) : Prop := z = 1 → (a = -1 → Xi S1 899 5 = Xi S 899 5) ∧ (a ≠ -1 → ∃ n : Nat, 0 < n ∧ n ≤ 6 ∧ (∀ k : Nat, k + 1 < n → ty7 S (eT7 S a k) = 16) ∧ ty7 S (eT7 S a (n - 1)) ≠ 16 ∧ Xi S1 899 5 = eT7 S a (n - 1))
theorem hte_0 {S S1 : sS} {a z : Int} (h : z = 0) : HTE S S1 a z := fun q => absurd q (by omega)
theorem hte_1 {S S1 : sS} {a z v : Int} (t : TCK S S1 a v.toNat) (x : (v = 0 → Xi S1 899 5 = Xi S 899 5) ∧ (0 < v → Xi S1 899 5 = eT7 S a (v.toNat - 1))) (c : (a = -1 ∧ v = 0) ∨ (a ≠ -1 ∧ 0 < v ∧ ty7 S (eT7 S a (v.toNat - 1)) ≠ 16)) (hv : v ≤ 6) : HTE S S1 a z := fun _ => by
  rcases c with ⟨c1, c2⟩ | ⟨c1, c2, c3⟩
  · exact ⟨fun _ => x.1 c2, fun q => absurd c1 q⟩
  · exact ⟨fun q => absurd q c1, fun _ => ⟨v.toNat, by omega, by omega, t.2.2.2.1, c3, x.2 c2⟩⟩
theorem fun_hte {S S1 : sS} {a v : Int} (h : Xi S1 899 5 = Xi S 899 5) (hv : v = 0 := by omega) : Hid ((v = 0 → Xi S1 899 5 = Xi S 899 5) ∧ (0 < v → Xi S1 899 5 = eT7 S a (v.toNat - 1))) := Hid.i ⟨fun _ => h, fun q => absurd q (by omega)⟩

def md_rr_tests__q : List rec := [(246, 247, 5, 6), (276, 876, 0, 1), (276, 876, 1, 2), (276, 876, 2, 3), (276, 876, 3, 4), (276, 876, 4, 5), (276, 876, 5, 6), (276, 876, 6, 7), (876, 877, 8, 9), (876, 877, 9, 10), (895, 896, 5, 6), (895, 896, 6, 7), (895, 896, 7, 8), (895, 896, 8, 9), (895, 896, 9, 10), (895, 896, 10, 11), (895, 896, 11, 12), (899, 900, 5, 6), (899, 900, 6, 7)]
abbrev Q_rr_tests__q (S : sS) (from_ : Int) : pst := fun r S1 => RI S1 ∧ FR md_rr_tests__q S S1 ∧ (∃ z : Int, r = some (iv z) ∧ (0 ≤ z ∧ z ≤ 1) ∧ (TSS S S1 from_ z) ∧ (HTE S S1 from_ z))
set_option maxRecDepth 100000 in
theorem t_rr_tests__q {S : sS} (hH : RI S) (from_ : Int) (hfrom_ : -1 ≤ from_ ∧ from_ ≤ 5120) (h13 : 0 ≤ Xi S 1 3 ∧ Xi S 1 3 ≤ 200) (hCE : CEN S) (hf : Xi S 876 8 = 0) (hr : Xi S 876 7 ≤ 5130) (h7 : 0 ≤ Xi S 876 7) (hT : TOK S) (hS : SRX S) (hnv : Hid (NVL S)) (hpl : Hid (∀ j : Nat, 0 ≤ Xi S 878 j)) (h5 : Xi S 876 5 ≤ 5000) (hcc : 0 ≤ Xi S 246 5 ∧ Xi S 246 5 + 6 ≤ 600) (htp : Hid (from_ ≠ -1 → TPQ S from_)) (d : Nat) : Mp lay0 (d + 6) m_rr_tests [.ref 899, iv from_] S (Q_rr_tests__q S from_) := by
  refine Mp_R rfl rfl (fun fu => ?_)
  have hF : FR md_rr_tests__q S S := FR.rf
  have w1 : -2147483648 ≤ Xi S 1 3 ∧ Xi S 1 3 ≤ 2147483647 := Xi_rgI
  have w2 : -2147483648 ≤ Xi S 246 5 ∧ Xi S 246 5 ≤ 2147483647 := Xi_rgI
  have w3 : -2147483648 ≤ Xi S 876 5 ∧ Xi S 876 5 ≤ 2147483647 := Xi_rgI
  have w4 : -2147483648 ≤ Xi S 876 7 ∧ Xi S 876 7 ≤ 2147483647 := Xi_rgI
  have w5 : -2147483648 ≤ Xi S 876 8 ∧ Xi S 876 8 ≤ 2147483647 := Xi_rgI
  have w6 : -2147483648 ≤ Xi S 899 5 ∧ Xi S 899 5 ≤ 2147483647 := Xi_rgI
  have w7 : -2147483648 ≤ Xi S 899 6 ∧ Xi S 899 6 ≤ 2147483647 := Xi_rgI
  have C21 : ∀ (n21 : Nat) (_ : n21 ≤ fu) (T1 : sS) (_ : RI T1) (_ : FR md_rr_tests__q S T1) (v2 : Int) (v3 : Int) (v4 : Int), (-2 ≤ v2 ∧ v2 ≤ 5142) → (0 ≤ v3 ∧ v3 ≤ 1) → (0 ≤ v4 ∧ v4 ≤ 6) → (0 ≤ v4 ∧ v4 ≤ 6) → (0 ≤ v3 ∧ v3 ≤ 1) → (Hid (TCK S T1 from_ (v4).toNat)) → (Hid (v3 ≠ 0 → from_ ≠ -1 ∧ v2 = pT7 S from_ (v4).toNat ∧ (0 < (v4).toNat → ty7 S (eT7 S from_ ((v4).toNat - 1)) = 16))) → (Hid (v3 = 0 → (from_ = -1 ∧ v4 = 0) ∨ (from_ ≠ -1 ∧ 0 < v4 ∧ ty7 S (eT7 S from_ ((v4).toNat - 1)) ≠ 16))) → (Xi T1 876 8 = 0) → (Hid ((v4 = 0 → Xi T1 899 5 = Xi S 899 5) ∧ (0 < v4 → Xi T1 899 5 = eT7 S from_ ((v4).toNat - 1)))) → Pl n21 lay0 (d + 5) m_rr_tests 21 [(0, .ref 899), (2, iv v2), (3, iv v3), (4, iv v4)] [] T1 (Q_rr_tests__q S from_) := by
    intro n21
    induction n21 with
    | zero => intros; exact Pl_0
    | succ n21 ih21 =>
      intro hm21 T1 hHT1 hFT1 v2 v3 v4 w8 w9 w10 w11 w12 T21 m21 x21 w13 X21
      have w14 : Xi T1 1 3 = Xi S 1 3 := hFT1.x _ _ rfl
      have w15 : Xi T1 876 5 = Xi S 876 5 := hFT1.x _ _ rfl
      have w16 : Xi T1 876 7 = Xi S 876 7 := hFT1.x _ _ rfl
      have w17 : Xi T1 895 4 = Xi S 895 4 := hFT1.x _ _ rfl
      have w18 : -2147483648 ≤ Xi T1 246 5 ∧ Xi T1 246 5 ≤ 2147483647 := Xi_rgI
      have w19 : -2147483648 ≤ Xi T1 876 7 ∧ Xi T1 876 7 ≤ 2147483647 := Xi_rgI
      have w20 : -2147483648 ≤ Xi T1 876 8 ∧ Xi T1 876 8 ≤ 2147483647 := Xi_rgI
      have w21 : -2147483648 ≤ Xi T1 899 5 ∧ Xi T1 899 5 ≤ 2147483647 := Xi_rgI
      have w22 : -2147483648 ≤ Xi T1 899 6 ∧ Xi T1 899 6 ≤ 2147483647 := Xi_rgI
      refine ys_iload_n rfl rfl ?_
      refine y_if_eq rfl rfl (by unfold rg; omega) (fun w23 => ?_) (fun w24 => ?_)
      · refine y_iconst rfl ?_
        refine y_ireturn rfl rfl ?_
        exact ⟨hHT1, hFT1, _, rfl, ⟨by omega, by omega⟩, (by first | (have u := F71; exact tss_x (by omega) M43.1 T21.o M43.2.2 (by omega) (Or.inr ⟨by omega, O71.2.2 (by omega)⟩)) | (have u := Y39; have e6 : (v4).toNat = 6 := (by omega); exact tss_x (n := 6) (by omega) M25.1 (by have t := T21.o; rw [e6] at t; exact t) (by have t := M25.2.2; rw [e6] at t; exact t) (by omega) (Or.inl ⟨rfl, Y39⟩)) | exact tss_g T21.o (by omega) (by omega) (by have t := x21.o (by omega); omega)), (by first | (have u := F71; exact hte_0 (by omega)) | (have u := Y39; exact hte_0 (by omega)) | exact hte_1 T21.o X21.o (x21.o (by omega)) (by omega))⟩
      · refine y_iload rfl rfl ?_
        have M25 := m21.o (by omega)
        refine y_bipush rfl rfl ?_
        refine y_icmp_ne rfl rfl (by unfold rg; omega) (by unfold rg; omega) (fun w25 => ?_) (fun w26 => ?_)
        · refine y_aload_n rfl rfl ?_
          have M43 := M25
          have h43 := T21.o.2.1
          have n43 := T21.o.1
          have v43 := M43.2.1
          have Q43 := htp.o M43.1 (v4).toNat (by omega) (tck_m T21.o M43.2.2)
          have q43 := Q43.1
          refine y_aload_n rfl rfl ?_
          refine y_gfr rfl rfl rfl rfl rfl (hHT1.r 899 0 876 rfl) ?_
          refine y_iload_n rfl rfl ?_
          refine y_iconst rfl ?_
          refine y_callV rfl rfl rfl (t_to_testEnd__p hHT1 v2 0 ⟨by omega, by omega⟩ ⟨by omega, by omega⟩ (by first | assumption | omega) (by first | assumption | omega) _) ?_
          rintro _ _ ⟨rfl, z27, rfl, w27, g50, b50⟩
          show Pl _ _ _ _ _ _ [iv z27, .ref 899] _ _
          have gq50 := g50
          rw [FRT hFT1 rfl rfl] at gq50
          have E50 : z27 = eT7 S from_ (v4).toNat := by unfold eT7; rw [← v43]; exact gq50.symm
          refine y_pfi rfl rfl rfl rfl ?_
          obtain ⟨U2, eU2⟩ : ∃ T : sS, T = uI T1 899 5 (Int32.ofInt z27) := ⟨_, rfl⟩
          rw [← eU2]
          have hHU2 : RI U2 := by rw [eU2]; exact RI_w hHT1
          have hFU2 : FR md_rr_tests__q S U2 := by rw [eU2]; exact FR.wI hFT1 (mdf_i (r := (899, 900, 5, 6)) (List.mem_of_getElem? (i := 17) rfl) (inR_i (by omega) (by omega) (by omega) (by omega)))
          have w28 : Xi U2 899 5 = z27 := by rw [eU2]; exact Xi_same (by unfold rg; omega)
          have e53 := eU2
          have x53 : Xi U2 899 5 = eT7 S from_ (v4).toNat := by rw [e53, Xi_same (by unfold rg; omega)]; exact E50
          refine y_aload_n rfl rfl ?_
          refine y_iload_n rfl rfl ?_
          refine y_aload_n rfl rfl ?_
          refine y_gfi rfl rfl rfl rfl rfl ?_
          refine y_aload_n rfl rfl ?_
          refine y_gfr rfl rfl rfl rfl rfl (hHU2.r 899 3 246 rfl) ?_
          refine y_iconst rfl ?_
          have w29 : Xi U2 246 5 = Xi T1 246 5 := (show Xi U2 246 5 = Xi T1 246 5 from by rw [eU2]; exact Xi_ne (by omega))
          have w30 : Xi U2 876 7 = Xi T1 876 7 := (show Xi U2 876 7 = Xi T1 876 7 from by rw [eU2]; exact Xi_ne (by omega))
          have w31 : Xi U2 876 8 = Xi T1 876 8 := (show Xi U2 876 8 = Xi T1 876 8 from by rw [eU2]; exact Xi_ne (by omega))
          have w32 : Xi U2 899 6 = Xi T1 899 6 := (show Xi U2 899 6 = Xi T1 899 6 from by rw [eU2]; exact Xi_ne (by omega))
          refine y_callV rfl rfl rfl (t_bo_nextClause__p hHU2 0 ⟨by omega, by omega⟩ (by first | assumption | omega) _) ?_
          rintro _ T3 ⟨hHT3, w34, z33, rfl, w33, p67, q67, k67, c67⟩
          have hFT3 : FR md_rr_tests__q S T3 := FR.tr hFU2 w34 rfl
          show Pl _ _ _ _ _ _ [.ref (276 + z33), iv (Xi U2 899 5), iv v2, .ref 899] _ _
          have F67 := (by assumption : FR md_bo_nextClause__p U2 T3)
          have G67 : AGT S T3 := AGT_F hFT3 rfl rfl rfl rfl rfl rfl rfl rfl rfl rfl rfl rfl
          have u67 : Xi U2 246 5 = Xi T1 246 5 := by rw [e53]; exact Xi_ne (by omega)
          refine y_iconst rfl ?_
          have w35 : Xi T3 1 3 = Xi T1 1 3 := (show Xi T3 1 3 = Xi U2 1 3 from w34.x _ _ rfl).trans ((show Xi U2 1 3 = Xi T1 1 3 from by rw [eU2]; exact Xi_ne (by omega)))
          have w36 : Xi T3 876 5 = Xi T1 876 5 := (show Xi T3 876 5 = Xi U2 876 5 from w34.x _ _ rfl).trans ((show Xi U2 876 5 = Xi T1 876 5 from by rw [eU2]; exact Xi_ne (by omega)))
          have w37 : Xi T3 876 7 = Xi T1 876 7 := (show Xi T3 876 7 = Xi U2 876 7 from w34.x _ _ rfl).trans ((show Xi U2 876 7 = Xi T1 876 7 from by rw [eU2]; exact Xi_ne (by omega)))
          have w38 : Xi T3 876 8 = Xi T1 876 8 := (show Xi T3 876 8 = Xi U2 876 8 from w34.x _ _ rfl).trans ((show Xi U2 876 8 = Xi T1 876 8 from by rw [eU2]; exact Xi_ne (by omega)))
          have w39 : Xi T3 899 5 = Xi U2 899 5 := (show Xi T3 899 5 = Xi U2 899 5 from w34.x _ _ rfl)
          have w40 : Xi T3 899 6 = Xi T1 899 6 := (show Xi T3 899 6 = Xi U2 899 6 from w34.x _ _ rfl).trans ((show Xi U2 899 6 = Xi T1 899 6 from by rw [eU2]; exact Xi_ne (by omega)))
          refine y_callV rfl rfl rfl (t_rr_test__p hHT3 v2 (Xi U2 899 5) z33 0 ⟨by omega, by omega⟩ ⟨by omega, by omega⟩ (by omega) ⟨by omega, by omega⟩ (by first | assumption | omega) (by first | assumption | exact (CEN_FR hFT3 rfl rfl (by assumption : CEN S))) (by first | assumption | omega) (by first | assumption | omega) (by first | assumption | omega) (by first | assumption | exact (TOK_FR hFT3 rfl rfl rfl (by assumption : TOK S))) (by first | assumption | exact (SRX_FR hFT3 rfl (by assumption : SRX S))) (NVL_F hFT3 rfl rfl rfl hnv.o) (fun j => by rw [(hFT3.cx 878 rfl _).1]; exact hpl.o j) (by first | assumption | omega) (by first | assumption | omega) (by rw [isP_A G67, v43, x53]; exact Q43.2.1) (by rw [isP_A G67, numT_A G67, v43, x53, G67.2.2.2.2.2.2.2.1, show Xi T3 876 7 = Xi S 876 7 by omega]; exact Q43.2.2) (⟨0, c67⟩) _) ?_
          rintro _ T4 ⟨hHT4, w42, z41, rfl, w41, o71⟩
          have hFT4 : FR md_rr_tests__q S T4 := FR.tr hFT3 w42 rfl
          show Pl _ _ _ _ _ _ [iv z41] _ _
          have F71 := (by assumption : FR md_rr_test__p T3 T4)
          have O71 := tso_T G67 v43 x53 o71
          clear o71
          refine y_if_ne rfl rfl (by unfold rg; omega) (fun w43 => ?_) (fun w44 => ?_)
          · refine y_aload_n rfl rfl ?_
            refine y_dup rfl rfl ?_
            refine y_gfi rfl rfl rfl rfl rfl ?_
            have w45 : (Xi T4 899 6) = (Xi T1 899 6) := (show Xi T4 899 6 = Xi T3 899 6 from w42.x _ _ rfl).trans ( (show Xi T3 899 6 = Xi U2 899 6 from w34.x _ _ rfl).trans ((show Xi U2 899 6 = Xi T1 899 6 from by rw [eU2]; exact Xi_ne (by omega))))
            rw [w45]
            refine y_iconst rfl ?_
            refine y_iadd rfl ?_
            refine y_pfi rfl rfl rfl rfl ?_
            obtain ⟨U5, eU5⟩ : ∃ T : sS, T = uI T4 899 6 (Int32.ofInt ((Xi T1 899 6) + 1)) := ⟨_, rfl⟩
            rw [← eU5]
            have hHU5 : RI U5 := by rw [eU5]; exact RI_w hHT4
            have hFU5 : FR md_rr_tests__q S U5 := by rw [eU5]; exact FR.wI hFT4 (mdf_i (r := (899, 900, 6, 7)) (List.mem_of_getElem? (i := 18) rfl) (inR_i (by omega) (by omega) (by omega) (by omega)))
            have w46 : Xi U5 899 6 = ((Xi T1 899 6) + 1) := by rw [eU5]; exact Xi_same (by unfold rg; omega)
            have e86 := eU5
            have c86 : KCL T1 U5 _ := kcl_o e86 (by omega) (kcl_tr (kcl_tr (kcl_o e53 (by omega) KCL.rf) k67) O71.1)
            have n86 := T21.o.1
            have h86 := T21.o.2.1
            have z86 : Xi U5 876 8 = 0 := by rw [e86, Xi_ne (by omega)]; exact (O71.2.1 (by omega)).1
            have v86 : Xi U5 246 5 = Xi T1 246 5 + 1 := by rw [e86, Xi_ne (by omega), F71.x 246 5 rfl]; omega
            have T86 : Hid (TCK S U5 from_ ((v4).toNat + 1)) := tck_s T21.o c86 (by omega) (by omega) M43.2.2 (by obtain ⟨f, n, w, h, t, q, m, y, c⟩ := (O71.2.1 (by omega)).2; exact ⟨f, n, w, h, t, q, m, y, clm_e (fun j => by rw [e86, Xi_ne (by omega)]) c⟩) (by rw [e86, Xi_same (by unfold rg; omega)]; omega) v86
            have x86 : Xi U5 899 5 = eT7 S from_ (v4).toNat := by rw [e86, Xi_ne (by omega), F71.x 899 5 rfl, F67.x 899 5 rfl]; exact x53
            refine y_aload_n rfl rfl ?_
            refine y_gfr rfl rfl rfl rfl rfl (hHU5.r 899 0 876 rfl) ?_
            refine y_aload_n rfl rfl ?_
            refine y_gfi rfl rfl rfl rfl rfl ?_
            have w47 : (Xi U5 899 5) = (Xi U2 899 5) := (show Xi U5 899 5 = Xi T4 899 5 from by rw [eU5]; exact Xi_ne (by omega)).trans ( (show Xi T4 899 5 = Xi T3 899 5 from w42.x _ _ rfl).trans ((show Xi T3 899 5 = Xi U2 899 5 from w34.x _ _ rfl)))
            rw [w47]
            have w49 : Xi U5 876 7 = Xi T1 876 7 := (show Xi U5 876 7 = Xi T4 876 7 from by rw [eU5]; exact Xi_ne (by omega)).trans ( (show Xi T4 876 7 = Xi T3 876 7 from w42.x _ _ rfl).trans ( (show Xi T3 876 7 = Xi U2 876 7 from w34.x _ _ rfl).trans ((show Xi U2 876 7 = Xi T1 876 7 from by rw [eU2]; exact Xi_ne (by omega)))))
            have w51 : Xi U5 899 5 = Xi U2 899 5 := (show Xi U5 899 5 = Xi T4 899 5 from by rw [eU5]; exact Xi_ne (by omega)).trans ( (show Xi T4 899 5 = Xi T3 899 5 from w42.x _ _ rfl).trans ((show Xi T3 899 5 = Xi U2 899 5 from w34.x _ _ rfl)))
            refine y_callV rfl rfl rfl (t_to_typeAt__p hHU5 (Xi U2 899 5) ⟨by omega, by omega⟩ _) ?_
            rintro _ _ ⟨rfl, z54, rfl, w54, w52, w53⟩
            show Pl _ _ _ _ _ _ [iv z54] _ _
            have gq97 := w52
            rw [FRT hFU5 rfl rfl] at gq97
            try rw [show Xi U5 890 1 = Xi T1 890 1 by omega] at gq97
            try rw [show (Xi U2 899 5) = z27 by omega] at gq97
            clear w52
            refine y_bipush rfl rfl ?_
            refine y_icmp_ne rfl rfl (by unfold rg; omega) (by unfold rg; omega) (fun w55 => ?_) (fun w56 => ?_)
            · refine y_iconst rfl ?_
              refine y_istore_n rfl rfl rfl ?_
              refine y_aload_n rfl rfl ?_
              refine y_gfi rfl rfl rfl rfl rfl ?_
              have w57 : (Xi U5 899 5) = (Xi U2 899 5) := (show Xi U5 899 5 = Xi T4 899 5 from by rw [eU5]; exact Xi_ne (by omega)).trans ( (show Xi T4 899 5 = Xi T3 899 5 from w42.x _ _ rfl).trans ((show Xi T3 899 5 = Xi U2 899 5 from w34.x _ _ rfl)))
              rw [w57]
              refine y_iconst rfl ?_
              refine y_iadd rfl ?_
              refine y_istore_n rfl rfl rfl ?_
              refine y_iinc rfl rfl rfl rfl ?_
              have N118 : (v4 + 1).toNat = (v4).toNat + 1 := by omega
              have T118 : Hid (TCK S U5 from_ (v4 + 1).toNat) := by rw [N118]; exact T86
              have m118 : Hid (((0 : Int) ≠ 0 → from_ ≠ -1 ∧ ((Xi U2 899 5) + 1) = pT7 S from_ (v4 + 1).toNat ∧ (0 < (v4 + 1).toNat → ty7 S (eT7 S from_ ((v4 + 1).toNat - 1)) = 16))) := fun q => ⟨M43.1, by rw [N118]; show _ = eT7 S from_ (v4).toNat + 1; omega, fun _ => by rw [N118, Nat.add_sub_cancel, ← E50]; omega⟩
              have x118 : Hid (((0 : Int) = 0 → (from_ = -1 ∧ v4 + 1 = 0) ∨ (from_ ≠ -1 ∧ 0 < v4 + 1 ∧ ty7 S (eT7 S from_ ((v4 + 1).toNat - 1)) ≠ 16))) := fun q => Or.inr ⟨M43.1, by omega, by rw [N118, Nat.add_sub_cancel, ← E50]; omega⟩
              have X118 : Hid ((v4 + 1 = 0 → Xi U5 899 5 = Xi S 899 5) ∧ (0 < v4 + 1 → Xi U5 899 5 = eT7 S from_ ((v4 + 1).toNat - 1))) := Hid.i ⟨fun q => absurd q (by omega), fun _ => by rw [N118, Nat.add_sub_cancel]; exact x86⟩
              refine y_goto rfl rfl ?_
              have w58 : Xi U5 246 5 = Xi T3 246 5 := (show Xi U5 246 5 = Xi T4 246 5 from by rw [eU5]; exact Xi_ne (by omega)).trans ((show Xi T4 246 5 = Xi T3 246 5 from w42.x _ _ rfl))
              have w60 : Xi U5 876 8 = Xi T4 876 8 := (show Xi U5 876 8 = Xi T4 876 8 from by rw [eU5]; exact Xi_ne (by omega))
              exact Pl_weak (ih21 (by omega) U5 hHU5 hFU5 (((Xi U2 899 5) + 1)) (0) ((v4 + 1)) (by omega) (by omega) (by omega) (by omega) (by omega) (by first | exact T118 | exact tck_0 (by rw [e15]; exact Xi_same (by unfold rg; omega)) (by rw [e15]; exact Xi_ne (by omega)) (fun c j _ => by rw [e15, Xi_ne (by omega)])) (by first | exact m118 | exact fun q => ⟨by omega, rfl, fun w => absurd w (by omega)⟩) (by first | exact x118 | exact fun q => Or.inl ⟨by omega, rfl⟩) (by omega) (by first | exact X118 | exact fun_hte (by rw [e15]; exact Xi_ne (by omega)))) (by omega) (And.intro rfl (And.intro rfl (And.intro rfl (And.intro rfl (True.intro)))))
            · refine y_iconst rfl ?_
              refine y_goto rfl rfl ?_
              refine y_istore_n rfl rfl rfl ?_
              refine y_aload_n rfl rfl ?_
              refine y_gfi rfl rfl rfl rfl rfl ?_
              have w62 : (Xi U5 899 5) = (Xi U2 899 5) := (show Xi U5 899 5 = Xi T4 899 5 from by rw [eU5]; exact Xi_ne (by omega)).trans ( (show Xi T4 899 5 = Xi T3 899 5 from w42.x _ _ rfl).trans ((show Xi T3 899 5 = Xi U2 899 5 from w34.x _ _ rfl)))
              rw [w62]
              refine y_iconst rfl ?_
              refine y_iadd rfl ?_
              refine y_istore_n rfl rfl rfl ?_
              refine y_iinc rfl rfl rfl rfl ?_
              have N118 : (v4 + 1).toNat = (v4).toNat + 1 := by omega
              have T118 : Hid (TCK S U5 from_ (v4 + 1).toNat) := by rw [N118]; exact T86
              have m118 : Hid (((1 : Int) ≠ 0 → from_ ≠ -1 ∧ ((Xi U2 899 5) + 1) = pT7 S from_ (v4 + 1).toNat ∧ (0 < (v4 + 1).toNat → ty7 S (eT7 S from_ ((v4 + 1).toNat - 1)) = 16))) := fun q => ⟨M43.1, by rw [N118]; show _ = eT7 S from_ (v4).toNat + 1; omega, fun _ => by rw [N118, Nat.add_sub_cancel, ← E50]; omega⟩
              have x118 : Hid (((1 : Int) = 0 → (from_ = -1 ∧ v4 + 1 = 0) ∨ (from_ ≠ -1 ∧ 0 < v4 + 1 ∧ ty7 S (eT7 S from_ ((v4 + 1).toNat - 1)) ≠ 16))) := fun q => Or.inr ⟨M43.1, by omega, by rw [N118, Nat.add_sub_cancel, ← E50]; omega⟩
              have X118 : Hid ((v4 + 1 = 0 → Xi U5 899 5 = Xi S 899 5) ∧ (0 < v4 + 1 → Xi U5 899 5 = eT7 S from_ ((v4 + 1).toNat - 1))) := Hid.i ⟨fun q => absurd q (by omega), fun _ => by rw [N118, Nat.add_sub_cancel]; exact x86⟩
              refine y_goto rfl rfl ?_
              have w63 : Xi U5 246 5 = Xi T3 246 5 := (show Xi U5 246 5 = Xi T4 246 5 from by rw [eU5]; exact Xi_ne (by omega)).trans ((show Xi T4 246 5 = Xi T3 246 5 from w42.x _ _ rfl))
              have w65 : Xi U5 876 8 = Xi T4 876 8 := (show Xi U5 876 8 = Xi T4 876 8 from by rw [eU5]; exact Xi_ne (by omega))
              exact Pl_weak (ih21 (by omega) U5 hHU5 hFU5 (((Xi U2 899 5) + 1)) (1) ((v4 + 1)) (by omega) (by omega) (by omega) (by omega) (by omega) (by first | exact T118 | exact tck_0 (by rw [e15]; exact Xi_same (by unfold rg; omega)) (by rw [e15]; exact Xi_ne (by omega)) (fun c j _ => by rw [e15, Xi_ne (by omega)])) (by first | exact m118 | exact fun q => ⟨by omega, rfl, fun w => absurd w (by omega)⟩) (by first | exact x118 | exact fun q => Or.inl ⟨by omega, rfl⟩) (by omega) (by first | exact X118 | exact fun_hte (by rw [e15]; exact Xi_ne (by omega)))) (by omega) (And.intro rfl (And.intro rfl (And.intro rfl (And.intro rfl (True.intro)))))
          · refine y_iconst rfl ?_
            refine y_ireturn rfl rfl ?_
            have w67 : Xi T4 246 5 = Xi T3 246 5 := (show Xi T4 246 5 = Xi T3 246 5 from w42.x _ _ rfl)
            have w68 : Xi T4 876 7 = Xi T1 876 7 := (show Xi T4 876 7 = Xi T3 876 7 from w42.x _ _ rfl).trans ( (show Xi T3 876 7 = Xi U2 876 7 from w34.x _ _ rfl).trans ((show Xi U2 876 7 = Xi T1 876 7 from by rw [eU2]; exact Xi_ne (by omega))))
            have w69 : Xi T4 899 5 = Xi U2 899 5 := (show Xi T4 899 5 = Xi T3 899 5 from w42.x _ _ rfl).trans ((show Xi T3 899 5 = Xi U2 899 5 from w34.x _ _ rfl))
            have w70 : Xi T4 899 6 = Xi T1 899 6 := (show Xi T4 899 6 = Xi T3 899 6 from w42.x _ _ rfl).trans ( (show Xi T3 899 6 = Xi U2 899 6 from w34.x _ _ rfl).trans ((show Xi U2 899 6 = Xi T1 899 6 from by rw [eU2]; exact Xi_ne (by omega))))
            exact ⟨hHT4, hFT4, _, rfl, ⟨by omega, by omega⟩, (by first | (have u := F71; exact tss_x (by omega) M43.1 T21.o M43.2.2 (by omega) (Or.inr ⟨by omega, O71.2.2 (by omega)⟩)) | (have u := Y39; have e6 : (v4).toNat = 6 := (by omega); exact tss_x (n := 6) (by omega) M25.1 (by have t := T21.o; rw [e6] at t; exact t) (by have t := M25.2.2; rw [e6] at t; exact t) (by omega) (Or.inl ⟨rfl, Y39⟩)) | exact tss_g T21.o (by omega) (by omega) (by have t := x21.o (by omega); omega)), (by first | (have u := F71; exact hte_0 (by omega)) | (have u := Y39; exact hte_0 (by omega)) | exact hte_1 T21.o X21.o (x21.o (by omega)) (by omega))⟩
        · refine y_aload_n rfl rfl ?_
          refine y_gfr rfl rfl rfl rfl rfl (hHT1.r 899 0 876 rfl) ?_
          refine y_bipush rfl rfl ?_
          refine y_iload_n rfl rfl ?_
          refine y_callV rfl rfl rfl (t_to_wrong__p hHT1 9 v2 ⟨by omega, by omega⟩ ⟨by omega, by omega⟩ _) ?_
          rintro _ T6 ⟨hHT6, w74, z73, rfl, w73, w71, f39, w72⟩
          have hFT6 : FR md_rr_tests__q S T6 := FR.tr hFT1 w74 rfl
          show Pl _ _ _ _ _ _ [iv z73] _ _
          have Y39 : FTO S T6 9 (pT7 S from_ 6) := by have u := f39 (by omega); have t := M25.2.1; rw [show (v4).toNat = 6 by omega] at t; rw [t] at u; exact ⟨u.1, u.2.trans (pc7_FR hFT1 rfl rfl rfl _)⟩
          refine y_ireturn rfl (retI_z (by omega)) ?_
          have w75 : Xi T6 246 5 = Xi T1 246 5 := (show Xi T6 246 5 = Xi T1 246 5 from w74.x _ _ rfl)
          have w76 : Xi T6 876 7 = Xi T1 876 7 := (show Xi T6 876 7 = Xi T1 876 7 from w74.x _ _ rfl)
          have w77 : Xi T6 899 5 = Xi T1 899 5 := (show Xi T6 899 5 = Xi T1 899 5 from w74.x _ _ rfl)
          have w78 : Xi T6 899 6 = Xi T1 899 6 := (show Xi T6 899 6 = Xi T1 899 6 from w74.x _ _ rfl)
          exact ⟨hHT6, hFT6, _, rfl, ⟨by omega, by omega⟩, (by first | (have u := F71; exact tss_x (by omega) M43.1 T21.o M43.2.2 (by omega) (Or.inr ⟨by omega, O71.2.2 (by omega)⟩)) | (have u := Y39; have e6 : (v4).toNat = 6 := (by omega); exact tss_x (n := 6) (by omega) M25.1 (by have t := T21.o; rw [e6] at t; exact t) (by have t := M25.2.2; rw [e6] at t; exact t) (by omega) (Or.inl ⟨rfl, Y39⟩)) | exact tss_g T21.o (by omega) (by omega) (by have t := x21.o (by omega); omega)), (by first | (have u := F71; exact hte_0 (by omega)) | (have u := Y39; exact hte_0 (by omega)) | exact hte_1 T21.o X21.o (x21.o (by omega)) (by omega))⟩
  refine y_iload_n rfl rfl ?_
  refine y_istore_n rfl rfl rfl ?_
  refine y_iload_n rfl rfl ?_
  refine y_iconst rfl ?_
  refine y_icmp_eq rfl rfl (by unfold rg; omega) (by unfold rg; omega) (fun w79 => ?_) (fun w80 => ?_)
  · refine y_iconst rfl ?_
    refine y_istore_n rfl rfl rfl ?_
    refine y_aload_n rfl rfl ?_
    refine y_iconst rfl ?_
    refine y_pfi rfl rfl rfl rfl ?_
    obtain ⟨U7, eU7⟩ : ∃ T : sS, T = uI S 899 6 (Int32.ofInt 0) := ⟨_, rfl⟩
    rw [← eU7]
    have hHU7 : RI U7 := by rw [eU7]; exact RI_w hH
    have hFU7 : FR md_rr_tests__q S U7 := by rw [eU7]; exact FR.wI hF (mdf_i (r := (899, 900, 6, 7)) (List.mem_of_getElem? (i := 18) rfl) (inR_i (by omega) (by omega) (by omega) (by omega)))
    have w81 : Xi U7 899 6 = 0 := by rw [eU7]; exact Xi_same (by unfold rg; omega)
    have e15 := eU7
    refine y_iconst rfl ?_
    refine y_istore rfl rfl rfl ?_
    have w82 : Xi U7 246 5 = Xi S 246 5 := (show Xi U7 246 5 = Xi S 246 5 from by rw [eU7]; exact Xi_ne (by omega))
    have w83 : Xi U7 876 7 = Xi S 876 7 := (show Xi U7 876 7 = Xi S 876 7 from by rw [eU7]; exact Xi_ne (by omega))
    have w84 : Xi U7 876 8 = Xi S 876 8 := (show Xi U7 876 8 = Xi S 876 8 from by rw [eU7]; exact Xi_ne (by omega))
    have w85 : Xi U7 899 5 = Xi S 899 5 := (show Xi U7 899 5 = Xi S 899 5 from by rw [eU7]; exact Xi_ne (by omega))
    exact Pl_weak (C21 fu (by omega) U7 hHU7 hFU7 (from_) (0) (0) (by omega) (by omega) (by omega) (by omega) (by omega) (by first | exact T118 | exact tck_0 (by rw [e15]; exact Xi_same (by unfold rg; omega)) (by rw [e15]; exact Xi_ne (by omega)) (fun c j _ => by rw [e15, Xi_ne (by omega)])) (by first | exact m118 | exact fun q => ⟨by omega, rfl, fun w => absurd w (by omega)⟩) (by first | exact x118 | exact fun q => Or.inl ⟨by omega, rfl⟩) (by omega) (by first | exact X118 | exact fun_hte (by rw [e15]; exact Xi_ne (by omega)))) (by omega) (And.intro rfl (And.intro rfl (And.intro rfl (And.intro rfl (True.intro)))))
  · refine y_iconst rfl ?_
    refine y_goto rfl rfl ?_
    refine y_istore_n rfl rfl rfl ?_
    refine y_aload_n rfl rfl ?_
    refine y_iconst rfl ?_
    refine y_pfi rfl rfl rfl rfl ?_
    obtain ⟨U8, eU8⟩ : ∃ T : sS, T = uI S 899 6 (Int32.ofInt 0) := ⟨_, rfl⟩
    rw [← eU8]
    have hHU8 : RI U8 := by rw [eU8]; exact RI_w hH
    have hFU8 : FR md_rr_tests__q S U8 := by rw [eU8]; exact FR.wI hF (mdf_i (r := (899, 900, 6, 7)) (List.mem_of_getElem? (i := 18) rfl) (inR_i (by omega) (by omega) (by omega) (by omega)))
    have w86 : Xi U8 899 6 = 0 := by rw [eU8]; exact Xi_same (by unfold rg; omega)
    have e15 := eU8
    refine y_iconst rfl ?_
    refine y_istore rfl rfl rfl ?_
    have w87 : Xi U8 246 5 = Xi S 246 5 := (show Xi U8 246 5 = Xi S 246 5 from by rw [eU8]; exact Xi_ne (by omega))
    have w88 : Xi U8 876 7 = Xi S 876 7 := (show Xi U8 876 7 = Xi S 876 7 from by rw [eU8]; exact Xi_ne (by omega))
    have w89 : Xi U8 876 8 = Xi S 876 8 := (show Xi U8 876 8 = Xi S 876 8 from by rw [eU8]; exact Xi_ne (by omega))
    have w90 : Xi U8 899 5 = Xi S 899 5 := (show Xi U8 899 5 = Xi S 899 5 from by rw [eU8]; exact Xi_ne (by omega))
    exact Pl_weak (C21 fu (by omega) U8 hHU8 hFU8 (from_) (1) (0) (by omega) (by omega) (by omega) (by omega) (by omega) (by first | exact T118 | exact tck_0 (by rw [e15]; exact Xi_same (by unfold rg; omega)) (by rw [e15]; exact Xi_ne (by omega)) (fun c j _ => by rw [e15, Xi_ne (by omega)])) (by first | exact m118 | exact fun q => ⟨by omega, rfl, fun w => absurd w (by omega)⟩) (by first | exact x118 | exact fun q => Or.inl ⟨by omega, rfl⟩) (by omega) (by first | exact X118 | exact fun_hte (by rw [e15]; exact Xi_ne (by omega)))) (by omega) (And.intro rfl (And.intro rfl (And.intro rfl (And.intro rfl (True.intro)))))
end
