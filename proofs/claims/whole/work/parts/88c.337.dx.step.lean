section
/-! one sentence of both: what is no token, what the grammar forbids -/
/-- the same fault -/
def SMF (U1 S1 : sS) : Prop := Xi U1 876 8 ≠ 0 ∧ Xi S1 904 62 = Xi U1 876 8 ∧ Xi S1 904 63 = Xi U1 876 9
theorem txb_k {U V X : sS} {ts n : Nat} {e : Int} {l : List rec} (x : TXB U X ts n e) (ht : tp ts) (hV : HI V) (F : FR l U V) (e1 : kdis l [(902, 904)] = true) (e2 : kepC l [(880, 881)] [] = true) (e3 : mdf l 876 5 = false) : TXB V X ts n e := by
  obtain ⟨_, a, b, c, d⟩ := x
  refine ⟨hV, ?_, by rw [FRB F e1 ht]; exact b, by rw [F.x 876 5 e3]; exact c, d⟩
  have k : Xj V 880 = Xj U 880 := funext fun j => (F.kep e2).j 880 rfl j
  rw [k]; exact a
theorem st_pre {U V X : sS} {ts f n : Nat} {e a z a1 : Int} (x : TXB U X ts n e) (ht : tp ts) (hf : f < n) (hp : Xi X 908 f = a) (c : CS0 ts U a V z a1) : TXB V X ts n e ∧ SNK V X ts f n e z ∧ Xi V 876 8 = 0 ∧ 1 ≤ Xi V 876 7 := by
  obtain ⟨⟨_, _, _, _, a0, _, f0⟩, ⟨hV, F, _, _, ⟨_, _, r1⟩, _, sen⟩, _⟩ := c
  have x' : TXB V X ts n e := txb_k x ht hV F rfl rfl rfl
  exact ⟨x', snk_i x' hf hp a0 r1 sen, by rw [F.x 876 8 rfl]; exact f0, r1⟩
theorem st_pl {V X : sS} {ts f n : Nat} {e z i : Int} (k : SNK V X ts f n e z) (h0 : 0 ≤ i) (h1 : i < Xi V 876 7) : pc7 V i = Xi X 908 (f + i).toNat := by
  have t := (k.1 i.toNat (by omega)).2.1.1
  rw [show ((f : Int) + i).toNat = f + i.toNat by omega, t]
  exact if_pos ⟨h0, h1⟩
theorem st_ln {V X : sS} {ts f n : Nat} {e z : Int} (x : TXB V X ts n e) (k : SNK V X ts f n e z) (r1 : 1 ≤ Xi V 876 7) : NFR V ∧ Xi V 876 7 ≤ 5130 ∧ LST V ∧ 1 ≤ Xi V 876 7 := by
  have n5 := x.2.2.2.2.2.1
  have l := (k.1 (Xi V 876 7 - 1).toNat (by omega)).1
  refine ⟨fun r hr q => ?_, by omega, fun r hr => ⟨(k.2.1 r hr).1, (k.2.1 r hr).2.1⟩, r1⟩
  by_cases u : (r : Int) + 1 < Xi V 876 7
  · have := (k.2.1 r u).2.2.2.1; omega
  · have er : r = (Xi V 876 7 - 1).toNat := by omega
    rw [er] at q
    rcases k.2.2 with w | ⟨w, _⟩ | ⟨w | w, _⟩
    · omega
    · omega
    · omega
    · have w1 := w.1
      have w2 := w.2.1
      rw [show (Xi V 876 7 - 1).toNat = 0 by omega] at q
      omega
theorem st_a {U V U1 X S1 : sS} {ts f n : Nat} {e a z a1 : Int} (x : TXB U X ts n e) (ht : tp ts) (hf : f < n) (e8 : Xi X 904 8 = f) (hp : Xi X 908 f = a) (c : CS0 ts U a V z a1) (t : ty7 V (Xi V 876 6 - 1) = 108) (w : WRG V U1 1 (Xi V 876 7 - 1)) (r : RSS n X S1) : SMF U1 S1 := by
  obtain ⟨x', k, f0, r1⟩ := st_pre x ht hf hp c
  have e6 : Xi V 876 6 = Xi V 876 7 := c.2.1.2.2.2.2.1.1
  rw [e6, ty7_i (by omega) (by omega)] at t
  obtain ⟨rp, od, V', o, sn, r⟩ := r
  rw [e8] at o
  have od' := (odd_r x' k r1 hf o).1 t
  obtain ⟨u1, u2⟩ := w.2.2.1 f0
  have pl := st_pl k (i := Xi V 876 7 - 1) (by omega) (by omega)
  rcases r with ⟨q, fl⟩ | ⟨q, _⟩ | ⟨q, _⟩
  · refine ⟨by omega, by rw [fl.2.2.1, u1], ?_⟩
    have F : Xi V' 908 od.toNat = Xi X 908 od.toNat := sn.2.1.x 908 _ rfl
    rw [fl.2.2.2, F, u2, pl, od']
  · omega
  · omega
theorem chk_b0 {T : Int → Int} {b : Int} (h : chk T = (0, b)) : T 0 ≠ 102 := fun q => by
  unfold chk at h
  rw [if_pos q] at h
  cases h
theorem st_g0 {U V W U1 X S1 : sS} {ts f n : Nat} {e a z a1 : Int} (x : TXB U X ts n e) (ht : tp ts) (hf : f < n) (e8 : Xi X 904 8 = f) (hp : Xi X 908 f = a) (c : CS1 ts U a V W z a1 0) (w : WRG W U1 2 (Xi W 890 1)) (r : RSS n X S1) : SMF U1 S1 := by
  obtain ⟨c0, t8, hW, F, _, ck, _, _, _, _, _⟩ := c
  obtain ⟨x', k, f0, r1⟩ := st_pre x ht hf hp c0
  have e6 : Xi V 876 6 = Xi V 876 7 := c0.2.1.2.2.2.2.1.1
  rw [e6, ty7_i (by omega) (by omega)] at t8
  obtain ⟨ck, rg, _⟩ := ck (st_ln x' k r1)
  have h0 := chk_b0 ck
  have t0 : Xi V 877 0 ≠ 102 := fun q => h0 (by rw [ty7_i (Int.le_refl _) (by omega)]; exact q)
  obtain ⟨vl, tr, _, _, en, _⟩ := snk_v x' k r1 hf t8 t0
  have n5 := x'.2.2.2.2.2.1
  have l := (k.1 (Xi V 876 7 - 1).toNat (by omega)).1
  have ub := ub_chk en (by omega) ck
  have nb : Xi V 876 7 - 1 ≤ 5000 := by omega
  obtain ⟨rp, od, V', o, sn, r⟩ := r
  rw [e8] at o
  have od' := (odd_r x' k r1 hf o).2 t8
  have ef : (Xi X 904 8).toNat = f := by omega
  have sp := (sn.2.2.2.2.2.2.2.2.2.1 (Xi V 876 7 - 1).toNat (by rw [ef]; exact vl)).1
  rw [ef, tr] at sp
  have cu' := sp h0
  rw [chk_e (N := Xi V 876 7 - 1) en.2 nb h0, ck] at cu'
  have bad : Xi V' 904 65 ≠ 0 := fun q => by
    rw [cu_ok q] at cu'
    exact absurd (show (0 : Int) = 1 from congrArg Prod.fst cu') (by decide)
  rw [cu_bad bad] at cu'
  have eb : Xi W 890 1 = Xi V' 904 66 - f := congrArg Prod.snd cu'
  have fW : Xi W 876 8 = 0 := by rw [F.x 876 8 rfl]; exact f0
  obtain ⟨u1, u2⟩ := w.2.2.1 fW
  have pl := st_pl k (i := Xi W 890 1) (by omega) (by omega)
  have pW : pc7 W (Xi W 890 1) = pc7 V (Xi W 890 1) := by
    unfold pc7
    rw [F.x 876 7 rfl, F.x 878 _ rfl, F.x 876 5 rfl]
  rcases r with ⟨q, fl⟩ | ⟨q, _, fl⟩ | ⟨q, q2, _⟩
  · omega
  · refine ⟨by omega, by rw [fl.2.2.1, u1], ?_⟩
    have F2 : Xi V' 908 (Xi V' 904 66).toNat = Xi X 908 (Xi V' 904 66).toNat := sn.2.1.x 908 _ rfl
    rw [fl.2.2.2, F2, u2, pW, pl, show (f : Int) + Xi W 890 1 = Xi V' 904 66 by omega]
  · exact absurd q2 bad

/-! one sentence of both: what the grammar allows -/
theorem t7_rg {K B : Nat → Int} {e p : Int} : 0 ≤ t7 K B e p ∧ t7 K B e p ≤ 108 := by
  have r := kyF_r (K := K) (c := v7 B e p) (df := 100) 55 0 (by omega)
  constructor
  · unfold t7 ky7
    split
    · decide
    · split
      · omega
      · split
        · decide
        · split
          · decide
          · split
            · decide
            · split
              · decide
              · split <;> decide
  · unfold t7 ky7
    split
    · decide
    · split
      · omega
      · split
        · decide
        · split
          · decide
          · split
            · decide
            · split
              · decide
              · split <;> decide
theorem tk_tr {V X : sS} {ts n : Nat} {e : Int} (x : TXB V X ts n e) {i : Nat} (hi : i ≤ n) : ∃ t : Int, (0 ≤ t ∧ t ≤ 108) ∧ Xi X 907 i = tr7 t := by
  obtain ⟨hH, hK, hB, he, hC, tk⟩ := x
  by_cases q : i < n
  · have rm := hC.1.2.1 i (by omega)
    exact ⟨_, t7_rg, by rw [rm.2.2.1, m7_t hK, ← t7_c hB rm.1 rm.2.1]⟩
  · rw [show i = n by omega, tk.2.1]
    exact ⟨107, by decide, rfl⟩
theorem vlr_x {V X : sS} {ts n : Nat} {e : Int} (x : TXB V X ts n e) : ∀ (d f : Nat), f + d = n → ∃ m : Nat, f + m ≤ n ∧ VLR X f m
  | 0, f, h => by
    have n5 := x.2.2.2.2.2.1
    have t1 := x.2.2.2.2.2.2.1
    refine ⟨0, by omega, fun i hi => ?_, Or.inr (by rw [show f + 0 = n by omega]; exact t1), fun i hi => absurd hi (Nat.not_lt_zero _), by omega⟩
    rw [show f + i = n by omega]
    exact tk_tr x (Nat.le_refl _)
  | d + 1, f, h => by
    have n5 := x.2.2.2.2.2.1
    by_cases q : Xi X 907 f = 46 ∨ Xi X 907 f = 1
    · refine ⟨0, by omega, fun i hi => ?_, q, fun i hi => absurd hi (Nat.not_lt_zero _), by omega⟩
      rw [show f + i = f by omega]
      exact tk_tr x (by omega)
    · obtain ⟨m, hm, v1, v2, v3, v4⟩ := vlr_x x d (f + 1) (by omega)
      refine ⟨m + 1, by omega, fun i hi => tk_tr x (by omega), ?_, fun i hi => ?_, by omega⟩
      · rw [show f + (m + 1) = f + 1 + m by omega]; exact v2
      · by_cases w : i = 0
        · rw [w, Nat.add_zero]; exact ⟨fun y => q (Or.inl y), fun y => q (Or.inr y)⟩
        · have t := v3 (i - 1) (by omega)
          rw [show f + 1 + (i - 1) = f + i by omega] at t
          exact t
theorem sq_103 {T : Int → Int} {y : Int × Int} {x : Int} (h : gSq y (gT T 103) = (1, x)) : T (x - 1) = 103 := by
  unfold gSq at h
  by_cases q : y.1 = 0
  · rw [if_pos q] at h
    rw [h] at q
    exact absurd (show (1 : Int) = 0 from q) (by decide)
  · rw [if_neg q] at h
    unfold gT at h
    by_cases w : T y.2 = 103
    · rw [if_pos w] at h
      have e : y.2 + 1 = x := congrArg Prod.snd h
      rw [show x - 1 = y.2 by omega]
      exact w
    · rw [if_neg w] at h
      exact absurd (show (0 : Int) = 1 from congrArg Prod.fst h) (by decide)
theorem st_g1 {U V W X V' : sS} {ts f n : Nat} {e a z a1 : Int} (x : TXB U X ts n e) (ht : tp ts) (hf : f < n) (e8 : Xi X 904 8 = f) (hp : Xi X 908 f = a) (c : CS1 ts U a V W z a1 1) (sn : SNB n X V') : (chk (ty7 V) = (1, Xi W 890 1) ∧ CKS W (ty7 V)) ∧ (Xi V' 904 65 = 0 ∧ Xi V' 904 8 = f + Xi V 876 7) ∧ ((f : Int) + Xi V 876 7 ≤ n ∧ ((f : Int) + Xi V 876 7 < n → Xi X 908 ((f : Int) + Xi V 876 7).toNat = a1 ∧ a1 < e) ∧ ((f : Int) + Xi V 876 7 = n → e ≤ a1)) ∧ (ty7 V 0 ≠ 102 → (VLR X f (Xi V 876 7 - 1).toNat ∧ tR X f (Xi V 876 7 - 1).toNat = ty7 V ∧ SPO X V' f (Xi V 876 7 - 1).toNat) ∧ ty7 V (Xi V 876 7 - 1) = 103 ∧ ∀ i : Int, 0 ≤ i → i < Xi V 876 7 - 1 → ty7 V i ≠ 103) ∧ (ty7 V 0 = 102 → Xi V' 904 70 = 0 ∧ Xi V' 904 81 = f) := by
  obtain ⟨c0, t8, hW, F, _, ck, _, _, _, _, _⟩ := c
  obtain ⟨x', k, f0, r1⟩ := st_pre x ht hf hp c0
  have e6 : Xi V 876 6 = Xi V 876 7 := c0.2.1.2.2.2.2.1.1
  have ea : a1 = sk7 (Xi V ts) e z := by rw [c0.2.2, x'.2.2.2.1]
  rw [e6, ty7_i (by omega) (by omega)] at t8
  obtain ⟨ck, rg, cks⟩ := ck (st_ln x' k r1)
  have n5 := x'.2.2.2.2.2.1
  have l := (k.1 (Xi V 876 7 - 1).toNat (by omega)).1
  have ef : (Xi X 904 8).toNat = f := by omega
  have nd : ∀ i : Int, 0 ≤ i → i < Xi V 876 7 - 1 → ty7 V i ≠ 103 := fun i i0 i1 => by
    rw [ty7_i i0 (by omega)]
    exact (k.2.1 i.toNat (by omega)).1
  have key : (Xi V' 904 65 = 0 ∧ Xi V' 904 8 = f + Xi V 876 7) ∧ (Xi V 877 (Xi V 876 7 - 1).toNat ≠ 107) ∧ (ty7 V 0 ≠ 102 → (VLR X f (Xi V 876 7 - 1).toNat ∧ tR X f (Xi V 876 7 - 1).toNat = ty7 V ∧ SPO X V' f (Xi V 876 7 - 1).toNat) ∧ ty7 V (Xi V 876 7 - 1) = 103 ∧ ∀ i : Int, 0 ≤ i → i < Xi V 876 7 - 1 → ty7 V i ≠ 103) ∧ (ty7 V 0 = 102 → Xi V' 904 70 = 0 ∧ Xi V' 904 81 = f) := by
    by_cases h0 : ty7 V 0 = 102
    · have t0 : Xi V 877 0 = 102 := by rw [ty7_i (Int.le_refl _) (by omega)] at h0; exact h0
      obtain ⟨m, hm, vl⟩ := vlr_x x (n - f) f (by omega)
      have sp := sn.2.2.2.2.2.2.2.2.2.1 m (by rw [ef]; exact vl)
      rw [ef] at sp
      have tk0 : Xi X 907 f = 5 := by
        have t := (k.1 0 (by omega)).2.1.2.1
        rw [Nat.add_zero, t0] at t
        exact t
      have m0 : m ≠ 0 := fun q => by
        have v := vl.2.1
        rw [q, Nat.add_zero, tk0] at v
        omega
      have r0 : tR X f m 0 = 102 := by
        unfold tR
        rw [if_pos (by omega), show ((f : Int) + 0).toNat = f by omega, tk0]
        rfl
      obtain ⟨p1, p2, p3, p4, p5⟩ := sp.2.1 r0
      have r1' : tR X f m 1 = un7 (Xi X 907 (f + 1)) := by
        unfold tR
        rw [if_pos (by omega), show ((f : Int) + 1).toNat = f + 1 by omega]
      by_cases w : Xi V 876 7 = 1
      · have n46 : Xi X 907 (f + 1) ≠ 46 := by
          rcases k.2.2 with y | ⟨y, _⟩ | ⟨y | y, _⟩
          · rw [show (Xi V 876 7 - 1).toNat = 0 by omega] at y; omega
          · rw [show (Xi V 876 7 - 1).toNat = 0 by omega] at y; omega
          · rw [show (Xi V 876 7 - 1).toNat = 0 by omega] at y; omega
          · exact y.2.2
        have n103 : tR X f m 1 ≠ 103 := by
          rw [r1']
          obtain ⟨t, tr, et⟩ := tk_tr x (i := f + 1) (by omega)
          rw [et] at n46 ⊢
          rw [un_t8 tr]
          exact fun y => n46 ((tr_46 tr).1.2 y)
        have u := p5 n103
        exact ⟨⟨p1, by omega⟩, by rw [show (Xi V 876 7 - 1).toNat = 0 by omega, t0]; decide, fun y => absurd h0 y, fun _ => ⟨p2, p3⟩⟩
      · obtain ⟨w2, w3⟩ := (k.2.1 0 (by omega)).2.2.2.2 rfl t0
        have s46 : Xi X 907 (f + 1) = 46 := by
          have t := (k.1 1 (by omega)).2.1.2.1
          rw [w3] at t
          exact t
        have u := p4 (by rw [r1', s46]; rfl)
        exact ⟨⟨p1, by omega⟩, by rw [show (Xi V 876 7 - 1).toNat = 1 by omega, w3]; decide, fun y => absurd h0 y, fun _ => ⟨p2, p3⟩⟩
    · have t0 : Xi V 877 0 ≠ 102 := fun q => h0 (by rw [ty7_i (Int.le_refl _) (by omega)]; exact q)
      obtain ⟨vl, tr, _, _, en, la⟩ := snk_v x' k r1 hf t8 t0
      have sp := sn.2.2.2.2.2.2.2.2.2.1 (Xi V 876 7 - 1).toNat (by rw [ef]; exact vl)
      rw [ef] at sp
      have cu' := sp.1
      rw [tr] at cu'
      have cu' := cu' h0
      have c2 := chk_e (N := Xi V 876 7 - 1) en.2 (by omega) h0
      rw [c2, ck] at cu'
      rw [ck] at c2
      have t103 := sq_103 c2
      have inr := ty_in (U := V) (i := Xi W 890 1 - 1) (by omega)
      have ex : Xi W 890 1 = Xi V 876 7 := by
        by_cases q : Xi W 890 1 - 1 < Xi V 876 7 - 1
        · exact absurd t103 (nd _ inr.1 q)
        · omega
      have ok : Xi V' 904 65 = 0 := Classical.byContradiction (fun q => by
        rw [cu_bad q] at cu'
        exact absurd (show (1 : Int) = 0 from congrArg Prod.fst cu') (by decide))
      rw [cu_ok ok] at cu'
      have eb : Xi W 890 1 = Xi V' 904 8 - f := congrArg Prod.snd cu'
      rw [ex] at t103
      refine ⟨⟨ok, by omega⟩, fun q => ?_, fun _ => ⟨⟨vl, tr, sp⟩, t103, nd⟩, fun y => absurd y h0⟩
      rw [ty7_i (by omega) (by omega)] at t103
      omega
  obtain ⟨k1, k2, k3, k4⟩ := key
  refine ⟨⟨ck, cks rfl⟩, k1, ?_, k3, k4⟩
  rcases k.2.2 with y | ⟨y, _⟩ | ⟨_, y2, y3, y4⟩
  · exact absurd y t8
  · exact absurd y k2
  · refine ⟨y2, fun q => ?_, fun q => ?_⟩
    · have t := y3 q
      rw [ea, show ((f : Int) + Xi V 876 7).toNat = f + (Xi V 876 7).toNat by omega]
      exact t
    · rw [ea]; exact y4 q
/-- the states in which the sentence is told -/
theorem st_env {U V W X V' V1 : sS} {ts f n : Nat} {e a z a1 : Int} (x : TXB U X ts n e) (ht : tp ts) (hf : f < n) (hp : Xi X 908 f = a) (a0 : RLA U X) (c : CS1 ts U a V W z a1 1) (sn : SNB n X V') (F1 : FR [(891, 892, 9, 10), (891, 892, 11, 12)] W V1) (h1 : HI V1) (n9 : Xi V1 891 9 = 0) : CEV V1 V' ts f ∧ ENW V1 V' f ∧ TXB V1 X ts n e ∧ ty7 V1 = ty7 V ∧ (Xi V1 876 7 = Xi V 876 7 ∧ Xi V1 890 2 = Xi W 890 2 ∧ Xi V1 890 3 = Xi W 890 3) := by
  obtain ⟨c0, t8, hW, F, _, _, wi, tok, e67, srx, etx⟩ := c
  obtain ⟨x', k, f0, r1⟩ := st_pre x ht hf hp c0
  obtain ⟨⟨hU, _, _, _, _, _, _⟩, ⟨hV, FT, _, _, _, _, _⟩, _⟩ := c0
  obtain ⟨sc, nv, l7, po, fn⟩ := snk_g x' k r1
  have n5 := x'.2.2.2.2.2.1
  have kV : KEP [(877, 880)] [(876, 5), (876, 6), (876, 7), (876, 8), (20, 1)] V V1 := KEP.tr (F.kep rfl) (F1.kep rfl)
  have ra : RLA V1 V' := rla_k a0 (KEP.tr (FT.kep rfl) (KEP.tr (F.kep rfl) (F1.kep rfl))) (sn.2.1.kep rfl)
  have e7 : Xi V1 876 7 = Xi V 876 7 := kV.f 876 7 (by decide)
  have e7w : Xi W 876 7 = Xi V 876 7 := F.x 876 7 rfl
  have ty : ty7 V1 = ty7 V := by
    funext i
    unfold ty7
    rw [e7, kV.x 877 rfl]
  have pcx : ∀ i, pc7 V1 i = pc7 V i := fun i => by
    unfold pc7
    rw [e7, kV.x 878 rfl, kV.f 876 5 (by decide)]
  have sc1 : SCX V1 V' f := by
    refine ⟨fun r hr => ?_, by omega⟩
    have t := sc.1 r (by omega)
    unfold TKW at t ⊢
    rw [kV.x 877 rfl, kV.x 878 rfl, kV.j 879 rfl, sn.2.1.x 908 _ rfl, sn.2.1.x 907 _ rfl, sn.2.1.x 909 _ rfl, sn.2.1.xj 910 _ rfl]
    exact t
  have tok1 : TOK V1 := TOK_FR F1 rfl rfl rfl tok
  have srx1 : SRX V1 := by
    unfold SRX txr at srx ⊢
    rw [(F1 20 1 rfl).2.2]
    exact srx
  have tx1 : txr V1 = ts := by
    rw [← etx]
    unfold txr
    rw [(F1 20 1 rfl).2.2]
  have nv1 : NVL V1 := fun j hj q => by
    rw [kV.x 877 rfl] at q
    rw [kV.j 879 rfl]
    exact nv j (by omega) q
  have x1 : TXB V1 X ts n e := txb_k (txb_k x' ht hW F rfl rfl rfl) ht h1 F1 rfl rfl rfl
  have e8 : Xi V1 876 8 = 0 := by rw [kV.f 876 8 (by decide)]; exact f0
  have e6 : Xi V1 876 6 = Xi W 876 6 := F1.x 876 6 rfl
  refine ⟨⟨ra, ⟨h1, WI_FR hW F1 rfl rfl rfl rfl rfl rfl rfl rfl rfl wi⟩, ⟨tok1, srx1, tx1, nv1⟩, sc1, ⟨by omega, by omega, by omega⟩, e8, n9⟩, ⟨ra.1, sc1, fun i => ?_, ⟨⟨srx1, fun j hj => ?_⟩, tok1, fun j => (h1.c 878 j).1⟩, by rw [e7]; omega, fun i j i0 i1 i2 => ?_⟩, x1, ty, e7, F1.x 890 2 rfl, F1.x 890 3 rfl⟩
  · rw [ty]; exact ty_rg hV i
  · rw [tx1, sn.2.1.x 906 _ rfl]
    have b := x1.2.2.1
    have b5 := x1.2.2.2.1
    have t := b j (by omega)
    exact t
  · rw [pcx, pcx]
    exact po i j i0 i1 (by omega)
end
section
/-! what both have told of words, kinds and objects stays (the reference) -/
def LXG (S T : sS) : Prop := Xi S 904 15 ≤ Xi T 904 15 ∧ ∀ k : Nat, (k : Int) < Xi S 904 15 → (Xi S 914 k = 4 ∨ Xi S 914 k = 7) → Xi T 914 k = Xi S 914 k ∧ Xi T 915 k = Xi S 915 k ∧ Xi T 912 k = Xi S 912 k ∧ Xi T 916 k = Xi S 916 k ∧ ∀ t, t < 3 → Xj T 913 (3 * k + t) = Xj S 913 (3 * k + t)
theorem LXG.rf {S : sS} : LXG S S := ⟨Int.le_refl _, fun _ _ _ => ⟨rfl, rfl, rfl, rfl, fun _ _ => rfl⟩⟩
theorem LXG.tr {S T U : sS} (h : LXG S T) (g : LXG T U) : LXG S U := by
  obtain ⟨h1, h2⟩ := h
  obtain ⟨g1, g2⟩ := g
  refine ⟨by omega, fun k hk q => ?_⟩
  obtain ⟨a1, a2, a3, a4, a5⟩ := h2 k hk q
  obtain ⟨b1, b2, b3, b4, b5⟩ := g2 k (by omega) (by omega)
  exact ⟨b1.trans a1, b2.trans a2, b3.trans a3, b4.trans a4, fun t ht => (b5 t ht).trans (a5 t ht)⟩
theorem lxg_s {S T : sS} (h : SMR S T) : LXG S T := ⟨by have := h.1; omega, fun k _ _ => ⟨h.2.1 914 k (by omega), h.2.1 915 k (by omega), h.2.1 912 k (by omega), h.2.1 916 k (by omega), fun t _ => h.2.2.2 _⟩⟩
theorem lxg_k {S T : sS} (h : KEP [(912, 917)] [(904, 15)] S T) : LXG S T := ⟨by have := h.f 904 15 (by decide); omega, fun k _ _ => ⟨h.x 914 rfl k, h.x 915 rfl k, h.x 912 rfl k, h.x 916 rfl k, fun t _ => h.j 913 rfl _⟩⟩
theorem lxg_t {S T : sS} {so ix a b c n : Int} (h : TLR S T so ix a b c n) : LXG S T := ⟨by have := h.2.2; omega, fun k hk _ => h.2.1 k (by omega)⟩
theorem lxg_x {S T : sS} {so ix a b c n g : Int} (h : TLX S T so ix a b c n g) : LXG S T := by
  obtain ⟨W, h1, h2, h3, h4, _, h6⟩ := h
  obtain ⟨w1, w2⟩ := lxg_t h1
  refine ⟨by omega, fun k hk q => ?_⟩
  obtain ⟨a1, a2, a3, a4, a5⟩ := w2 k hk q
  exact ⟨(h2 914 k (by omega)).trans a1, (h2 915 k (by omega)).trans a2, (h2 912 k (by omega)).trans a3, (h6 k (by omega)).trans a4, fun t ht => (h3 _).trans (a5 t ht)⟩
theorem lxg_m {S T : sS} {i : Nat} {so ix a b c n : Int} (h : NMR S T i so ix a b c n) (hs : so = 1 ∨ so = 3) : LXG S T := by
  obtain ⟨_, h2, h3⟩ := h
  refine ⟨by omega, fun k hk q => h2 k (fun e => ?_)⟩
  subst e
  omega
theorem lxg_l {S : sS} {so c f : Int} : ∀ (n : Nat) (V : sS), TLL S so c f n V → LXG S V
  | 0, _, h => lxg_s h
  | n + 1, _, ⟨W, h1, h2⟩ => (lxg_l n W h1).tr (lxg_t h2)
theorem lxg_p {S B : sS} {so c f : Int} : ∀ (n : Nat) (V : sS), TPR S so c f B n V → LXG B V
  | 0, _, h => lxg_s h
  | n + 1, V, ⟨W, h1, h2⟩ => (lxg_p n W h1).tr (by
      by_cases q : lgI S (f + n) = 1 ∨ fdR W (wPa S (f + n)) (wPb S (f + n)) (wPc S (f + n)) (Xi S 951 (f + n : Int).toNat) (Xi W 904 15).toNat = -1
      · exact lxg_x (h2.1 q)
      · exact lxg_s (h2.2 q))
def KDG (S T : sS) : Prop := Xi S 904 16 ≤ Xi T 904 16 ∧ ∀ k : Nat, (k : Int) < Xi S 904 16 → Xi T 917 k = Xi S 917 k ∧ ∀ p : Int, 0 ≤ p → p < 12 → Xi S 929 (12 * (k : Int) + p).toNat ≠ 0 → Xi T 929 (12 * (k : Int) + p).toNat ≠ 0
theorem kdg_k {S T : sS} (h : KEP [(917, 918), (929, 930)] [(904, 16)] S T) : KDG S T := ⟨by have := h.f 904 16 (by decide); omega, fun k _ => ⟨h.x 917 rfl k, fun p _ _ q => by rw [h.x 929 rfl]; exact q⟩⟩
theorem kdg_h {S T : sS} {k p : Int} (h : KEP [(917, 918)] [(904, 16)] S T) (g : KHR S T k p) : KDG S T := ⟨by have := h.f 904 16 (by decide); omega, fun i _ => ⟨h.x 917 rfl i, fun x _ _ q => by
  by_cases e : (12 * (i : Int) + x).toNat = (12 * k + p).toNat
  · rw [e, g.1]; decide
  · rw [g.2 _ e]; exact q⟩⟩
theorem kdg_n {S T : sS} {n : Nat} (h : KNR S T n) : KDG S T := by
  have r := it_rg (S := S)
  by_cases q : iT S = 1
  · obtain ⟨⟨a1, _⟩, a2, a3, _⟩ := h.1 q
    exact ⟨by omega, fun k _ => ⟨a2 k, fun p _ _ z => by rw [a3]; exact z⟩⟩
  · obtain ⟨⟨_, a1⟩, a2, a3, _⟩ := h.2 (by omega)
    exact ⟨by omega, fun k hk => ⟨a2.2 k hk, fun p p0 p1 z => by rw [(a3 _).2 (by omega)]; exact z⟩⟩
def OBG (S T : sS) : Prop := Xi S 904 19 ≤ Xi T 904 19 ∧ ∀ o : Nat, (o : Int) < Xi S 904 19 → Xi T 918 o = Xi S 918 o ∨ blR T (Xi T 918 o) (Xi S 918 o) ≠ 0
theorem obg_k {S T : sS} (h : KEP [(918, 919)] [(904, 19)] S T) : OBG S T := ⟨by have := h.f 904 19 (by decide); omega, fun o _ => Or.inl (h.x 918 rfl o)⟩
theorem bl_tr {S : sS} {b c : Int} (hB : ABV S) (h : blR S b c ≠ 0) : ∀ (n : Nat) (k : Int), k ≤ n → k ≤ 15 → blR S k b ≠ 0 → blR S k c ≠ 0
  | n, k, h1, h2, x => by
    by_cases q : k < 0
    · exact absurd (blR_n q) x
    · by_cases e : k = b
      · rw [e]; exact h
      · by_cases e2 : k = c
        · rw [blR_e (by omega) e2]; decide
        · rw [blR_s hB (by omega) h2 e2]
          rw [blR_s hB (by omega) h2 e] at x
          have a := hB k.toNat (by omega)
          cases n with
          | zero => exact absurd (blR_n (by omega)) x
          | succ n => exact bl_tr hB h n _ (by omega) (by omega) x
theorem blR_q {S T : sS} (x : ∀ j, Xi T 917 j = Xi S 917 j) (k o : Int) : blR T k o = blR S k o := by
  have e : ∀ (n : Nat) (i : Int), blN T o n i = blN S o n i := fun n => by
    induction n with
    | zero => intro i; rfl
    | succ n ih => intro i; unfold blN; rw [x, ih]
  unfold blR; exact e 17 k
/-- within a LIST of objects -/
def OBC (S V : sS) : Prop := LXG S V ∧ (∀ j, Xi V 917 j = Xi S 917 j) ∧ Xi S 904 19 ≤ Xi V 904 19 ∧ (∀ o : Nat, (o : Int) < Xi S 904 19 → Xi V 918 o = Xi S 918 o ∨ blR S (Xi V 918 o) (Xi S 918 o) ≠ 0) ∧ ∀ j : Nat, Xi V 918 j ≤ 15
theorem obc_k {S W V : sS} (h : OBC S W) (k : KEP [(912, 919)] [(904, 15), (904, 19)] W V) : OBC S V := by
  obtain ⟨h1, h2, h3, h4, h5⟩ := h
  exact ⟨h1.tr (lxg_k (k.le rfl (by decide))), fun j => (k.x 917 rfl j).trans (h2 j), by rw [k.f 904 19 (by decide)]; exact h3, fun o ho => by rw [k.x 918 rfl]; exact h4 o ho, fun j => by rw [k.x 918 rfl]; exact h5 j⟩
theorem kep_w1 {ks fs : List (Nat × Nat)} {S : sS} {c j : Nat} {v : Int} (e : inK ks c = false) (f : (c, j) ∉ fs) : KEP ks fs S (uI S c j (Int32.ofInt v)) := by
  refine ⟨fun k i q => ?_, fun x hx => ?_⟩
  · have n : k ≠ c := fun z => by rw [z] at q; rw [q] at e; exact absurd e (by decide)
    exact ⟨by unfold uI va_up; simp [n], rfl, rfl⟩
  · have n : ¬ (x.1 = c ∧ x.2 = j) := fun z => f (by rw [← z.1, ← z.2]; exact hx)
    refine ⟨?_, rfl, rfl⟩
    unfold uI va_up upd
    by_cases q : x.1 = c
    · have m : x.2 ≠ j := fun z => n ⟨q, z⟩
      simp [q, m]
    · simp [q]
theorem obc_o {S W V : sS} {z r k : Int} (h : OBC S W) (o : OTR W V z r k) (F : FR lOT W V) (hk : k ≤ 15) : OBC S V := by
  by_cases q : rnR W r 4 = -1
  · obtain ⟨_, t, a1, a2, a3, _⟩ := o.2 q
    obtain ⟨h1, h2, h3, h4, h5⟩ := h
    have k7 : ∀ j, Xi V 917 j = Xi W 917 j := (F.kep rfl : KEP [(917, 918)] [] W V).x 917 rfl
    refine ⟨h1.tr (lxg_t t), fun j => (k7 j).trans (h2 j), by omega, fun i hi => ?_, fun j => ?_⟩
    · rw [(a3 i (by omega)).1]; exact h4 i hi
    · by_cases e : j = (Xi W 904 19).toNat
      · rw [e, a2.1]; exact hk
      · rw [(a3 j e).1]; exact h5 j
  · rw [(o.1 q).2]; exact h
theorem obc_1 {S W V : sS} {o k : Int} (hB : ABV S) (h : OBC S W) (r : RK1 W V o k) (hk : -1 ≤ k ∧ k ≤ 15) : OBC S V := by
  rcases r with ⟨r1, r2⟩ | ⟨_, _, r2⟩
  · obtain ⟨h1, h2, h3, h4, h5⟩ := h
    rw [blR_q h2] at r1
    have e : ∀ c j : Nat, c ≠ 918 → Xi V c j = Xi W c j := fun c j q => by rw [r2, Xi_ne (by omega)]
    have ej : ∀ c j : Nat, Xj V c j = Xj W c j := fun c j => by rw [r2, Xj_I]
    have e8 : ∀ j : Nat, j ≠ o.toNat → Xi V 918 j = Xi W 918 j := fun j q => by rw [r2, Xi_ne (by omega)]
    have e9 : Xi V 918 o.toNat = k := by rw [r2]; exact Xi_same (by unfold rg; omega)
    refine ⟨h1.tr ⟨by rw [e 904 15 (by omega)]; exact Int.le_refl _, fun k _ _ => ⟨e 914 k (by omega), e 915 k (by omega), e 912 k (by omega), e 916 k (by omega), fun t _ => ej 913 _⟩⟩, fun j => (e 917 j (by omega)).trans (h2 j), by rw [e 904 19 (by omega)]; exact h3, fun i hi => ?_, fun j => ?_⟩
    · by_cases q : i = o.toNat
      · rw [q, e9]
        rw [q] at hi
        rcases h4 o.toNat hi with x | x
        · rw [x] at r1; exact Or.inr r1
        · exact Or.inr (bl_tr hB x 15 k hk.2 hk.2 r1)
      · rw [e8 i q]; exact h4 i hi
    · by_cases q : j = o.toNat
      · rw [q, e9]; exact hk.2
      · rw [e8 j q]; exact h5 j
  · rw [r2]; exact h
theorem trd_k {S S1 : sS} {z o a i : Int} (t : TRD S S1 z o a i) : KEP [(912, 919)] [(904, 15), (904, 19)] S S1 := by
  obtain ⟨t1, t2⟩ := t
  by_cases q : a < 100
  · obtain ⟨u1, u2⟩ := t1 q
    by_cases w : Xi S 925 (24 * o + a).toNat = (if i = 0 then 1 else 2)
    · rw [(u1 w).2]; exact KEP.rf
    · rw [(u2 w).2]
      unfold rIs
      split
      · exact kep_w1 rfl (by simp)
      · exact KEP.tr (kep_w1 rfl (by simp)) (kep_w1 rfl (by simp))
  · obtain ⟨u1, u2⟩ := t2 (by omega)
    by_cases w : Xi S 930 (12 * o + a % 100).toNat ≠ 0 ∧ otwR S (a % 100) (Xi S (930 + 1) (12 * o + a % 100).toNat) (Xi S (930 + 2) (12 * o + a % 100).toNat) (a / 100 - 1) 0
    · rw [(u1 w).2]; exact KEP.rf
    · rw [(u2 w).2]
      unfold tPR
      exact KEP.tr (KEP.tr (kep_w1 rfl (by simp)) (kep_w1 rfl (by simp))) (kep_w1 rfl (by simp))
theorem rac_g {S C : sS} {o : Int} : ∀ (n : Nat) (V : sS), RAC S C o n V → KEP [(912, 919)] [(904, 15), (904, 19)] C V
  | 0, V, h => by rw [show V = C from h]; exact KEP.rf
  | n + 1, V, ⟨W, h1, h2⟩ => (rac_g n W h1).tr (trd_k h2)
theorem obc_n {S : sS} (hB : ABV S) (h8 : ∀ j : Nat, Xi S 918 j ≤ 15) (hk : -1 ≤ Xi S 904 110 ∧ Xi S 904 110 ≤ 15) : ∀ (n : Nat) (V : sS), RDC S n V → OBC S V
  | 0, V, h => by rw [show V = S from h]; exact ⟨LXG.rf, fun _ => rfl, Int.le_refl _, fun _ _ => Or.inl rfl, h8⟩
  | n + 1, V, ⟨W, o, h1, B, ⟨A, ⟨A0, ⟨o1, o2, o3⟩⟩, r1, r2⟩, p1, p2⟩ => by
    have w := obc_n hB h8 hk n W h1
    have a0 : OBC S A0 := obc_o w o1 o2 (by split <;> omega)
    have a : OBC S A := by
      rw [o3]; unfold sD
      exact obc_k a0 (kep_w1 rfl (by simp))
    have b : OBC S B := by
      by_cases q : Xi S 904 70 = 13
      · rw [r1 q]; exact a
      · obtain ⟨C, c1, c2⟩ := r2 q
        exact obc_k (obc_1 hB a c1 hk) (rac_g _ _ c2)
    by_cases q : 0 < Xi S 904 73
    · rw [(p2 q).2.2]
      exact obc_k b (KEP.tr (kep_w1 rfl (by simp)) (kep_w1 rfl (by simp)))
    · rw [p1 (by omega)]; exact b
/-- what was told stays -/
def VG (S T : sS) : Prop := LXG S T ∧ KDG S T ∧ OBG S T
theorem vg_k {S T : sS} (h : KEP [(912, 919), (929, 930)] [(904, 15), (904, 16), (904, 19)] S T) : VG S T := ⟨lxg_k (h.le rfl (by decide)), kdg_k (h.le rfl (by decide)), obg_k (h.le rfl (by decide))⟩
theorem vg_x {S T : sS} (l : LXG S T) (h : KEP [(917, 919), (929, 930)] [(904, 16), (904, 19)] S T) : VG S T := ⟨l, kdg_k (h.le rfl (by decide)), obg_k (h.le rfl (by decide))⟩
theorem vg_b {S T : sS} (c : OBC S T) (h : KEP [(917, 918), (929, 930)] [(904, 16)] S T) : VG S T := ⟨c.1, kdg_k h, c.2.2.1, fun o ho => by rw [blR_q c.2.1]; exact c.2.2.2.1 o ho⟩

/-! what was told stays, whatever the reference is told -/
theorem vg_pre {S T W : sS} (k : KEP [(912, 919), (929, 930)] [(904, 15), (904, 16), (904, 19)] S T) (h : VG T W) : VG S W := by
  obtain ⟨⟨a1, a2⟩, ⟨b1, b2⟩, c1, c2⟩ := h
  have e15 := k.f 904 15 (by decide)
  have e16 := k.f 904 16 (by decide)
  have e19 := k.f 904 19 (by decide)
  refine ⟨⟨by omega, fun i hi q => ?_⟩, ⟨by omega, fun i hi => ?_⟩, by omega, fun o ho => ?_⟩
  · obtain ⟨x1, x2, x3, x4, x5⟩ := a2 i (by omega) (by rw [k.x 914 rfl]; exact q)
    exact ⟨x1.trans (k.x 914 rfl i), x2.trans (k.x 915 rfl i), x3.trans (k.x 912 rfl i), x4.trans (k.x 916 rfl i), fun t ht => (x5 t ht).trans (k.j 913 rfl _)⟩
  · obtain ⟨x1, x2⟩ := b2 i (by omega)
    exact ⟨x1.trans (k.x 917 rfl i), fun p p0 p1 q => x2 p p0 p1 (by rw [k.x 929 rfl]; exact q)⟩
  · have x := c2 o (by omega)
    rw [k.x 918 rfl] at x
    exact x
theorem vg_post {S T W : sS} (h : VG S T) (k : KEP [(912, 919), (929, 930)] [(904, 15), (904, 16), (904, 19)] T W) : VG S W := by
  obtain ⟨⟨a1, a2⟩, ⟨b1, b2⟩, c1, c2⟩ := h
  have e15 := k.f 904 15 (by decide)
  have e16 := k.f 904 16 (by decide)
  have e19 := k.f 904 19 (by decide)
  refine ⟨⟨by omega, fun i hi q => ?_⟩, ⟨by omega, fun i hi => ?_⟩, by omega, fun o ho => ?_⟩
  · obtain ⟨x1, x2, x3, x4, x5⟩ := a2 i hi q
    exact ⟨(k.x 914 rfl i).trans x1, (k.x 915 rfl i).trans x2, (k.x 912 rfl i).trans x3, (k.x 916 rfl i).trans x4, fun t ht => (k.j 913 rfl _).trans (x5 t ht)⟩
  · obtain ⟨x1, x2⟩ := b2 i hi
    exact ⟨(k.x 917 rfl i).trans x1, fun p p0 p1 q => by rw [k.x 929 rfl]; exact x2 p p0 p1 q⟩
  · rw [k.x 918 rfl, blR_q (k.x 917 rfl)]
    exact c2 o ho
section
variable {T W : sS} {n f : Nat}
theorem vg_0 (h : QX_mo_does_0 T W f) (_ : RTV T n) (_ : (NT3 W).1 = 0) : VG T W := vg_k (h.2.2.kep rfl)
theorem vg_1 (h : QX_mo_does_1 T W f) (_ : RTV T n) (_ : (NT3 W).1 = 0) : VG T W := vg_k (h.2.2.kep rfl)
theorem vg_2 (h : QX_mo_does_2 T W f) (_ : RTV T n) (_ : (NT3 W).1 = 0) : VG T W := by
  obtain ⟨A, B, a1, _, b1, t, _⟩ := h.1
  refine vg_x (LXG.tr (lxg_k (a1.kep rfl)) (LXG.tr ?_ (lxg_t t))) (h.2.2.kep rfl)
  rw [b1]
  exact lxg_k (KEP.tr (KEP.tr (kep_w1 rfl (by simp)) (kep_w1 rfl (by simp))) (kep_w1 rfl (by simp)))
theorem vg_3 (h : QX_mo_does_3 T W f) (_ : RTV T n) (_ : (NT3 W).1 = 0) : VG T W := by rw [h.1]; exact vg_k KEP.rf
theorem vg_7 (h : QX_mo_does_7 T W f) (_ : RTV T n) (_ : (NT3 W).1 = 0) : VG T W := by
  obtain ⟨_, ⟨V, t1, t2⟩, _⟩ := h.1
  exact vg_x (LXG.tr (lxg_t t1) (lxg_x t2)) (h.2.2.kep rfl)
theorem vg_8 (h : QX_mo_does_8 T W f) (_ : RTV T n) (_ : (NT3 W).1 = 0) : VG T W := by
  refine vg_x ?_ (h.2.2.kep rfl)
  by_cases q : r2R T 0 0 1 = -1
  · obtain ⟨i, t⟩ := h.1.2 q
    exact lxg_m t (Or.inr rfl)
  · obtain ⟨i, t⟩ := h.1.1 q
    exact lxg_m t (Or.inl rfl)
theorem vg_9 (h : QX_mo_does_9 T W f) (_ : RTV T n) (_ : (NT3 W).1 = 0) : VG T W := vg_k (h.2.2.kep rfl)
theorem vg_10 (h : QX_mo_does_10 T W f) (_ : RTV T n) (_ : (NT3 W).1 = 0) : VG T W := by
  obtain ⟨⟨B, b1, b2⟩, k⟩ := h.1
  exact ⟨LXG.tr (lxg_l _ _ b1) (lxg_p _ _ b2), kdg_n k, obg_k (h.2.2.kep rfl)⟩
theorem vg_11 (h : QX_mo_does_11 T W f) (_ : RTV T n) (_ : (NT3 W).1 = 0) : VG T W := vg_x (lxg_l _ _ h.1.2.1) (h.2.2.kep rfl)
theorem vg_rdb (h : RDB T W) (v : RTV T n) (r : (NT3 W).1 = 0) : OBC T W := by
  rcases h with ⟨_, h⟩ | ⟨h, _⟩
  · exact obc_n v.2.1.2 (fun j => (show 0 ≤ Xi T 918 j ∧ Xi T 918 j ≤ 15 from v.1.c 918 j).2) (by have t : 0 ≤ Xi T 904 110 ∧ Xi T 904 110 ≤ 15 := v.1.c 904 110; omega) _ _ h
  · exact absurd r h
theorem vg_12 (h : QX_mo_does_12 T W f) (v : RTV T n) (r : (NT3 W).1 = 0) : VG T W := vg_b (vg_rdb h.1 v r) (h.2.2.kep rfl)
theorem vg_13 (h : QX_mo_does_13 T W f) (v : RTV T n) (r : (NT3 W).1 = 0) : VG T W := vg_b (vg_rdb h.1 v r) (h.2.2.kep rfl)
theorem vg_14 (h : QX_mo_does_14 T W f) (v : RTV T n) (r : (NT3 W).1 = 0) : VG T W := by
  obtain ⟨A, o, a1, a2, c⟩ := h.1
  have h8 : ∀ j : Nat, Xi T 918 j ≤ 15 := fun j => (show 0 ≤ Xi T 918 j ∧ Xi T 918 j ≤ 15 from v.1.c 918 j).2
  have z : OBC T A := obc_o (⟨LXG.rf, fun _ => rfl, Int.le_refl _, fun _ _ => Or.inl rfl, h8⟩ : OBC T T) a1 a2 (by decide)
  refine vg_b ?_ (h.2.2.kep rfl)
  rcases c with ⟨k, _, _, _, c1, c2⟩ | ⟨_, c⟩
  · by_cases q : Xi T 945 k = o
    · rw [c1 q]; exact obc_k z (kep_w1 rfl (by simp))
    · have u := (c2 q).1
      rw [u] at r
      exact absurd r (by decide)
  · rw [c]
    exact obc_k z (KEP.tr (KEP.tr (KEP.tr (KEP.tr (kep_w1 rfl (by simp)) (kep_w1 rfl (by simp))) (kep_w1 rfl (by simp))) (kep_w1 rfl (by simp))) (kep_w1 rfl (by simp)))
theorem vg_15a (h : QX_mo_does_15a T W f) (_ : RTV T n) (_ : (NT3 W).1 = 0) : VG T W := vg_k (h.2.2.kep rfl)
theorem lxg_tc {S : sS} {tp : Int} : ∀ (n : Nat) (V : sS), RTC S tp n V → LXG S V
  | 0, V, h => by rw [show V = S from h]; exact LXG.rf
  | n + 1, V, ⟨Y, h1, A, B, a, _, t, b⟩ => by
    refine (lxg_tc n Y h1).tr (LXG.tr (T := A) ?_ (LXG.tr (lxg_t t) ?_))
    · rw [a]; exact lxg_k (kep_w1 rfl (by simp))
    · rw [b]; exact lxg_k (kep_w1 rfl (by simp))
theorem vg_15b (h : QX_mo_does_15b T W f) (_ : RTV T n) (_ : (NT3 W).1 = 0) : VG T W := vg_x (lxg_tc _ _ h.1) (h.2.2.kep rfl)
theorem vg_15c (h : QX_mo_does_15c T W f) (v : RTV T n) (r : (NT3 W).1 = 0) : VG T W := by
  have k : ∀ {ks fs : List (Nat × Nat)}, inK ks 904 = false → (904, 73) ∉ fs → KEP ks fs T (uI T 904 73 (Int32.ofInt 0)) := fun a b => kep_w1 a b
  have z : OBC (uI T 904 73 (Int32.ofInt 0)) W := by
    rcases h.1 with ⟨_, h⟩ | ⟨h, _⟩
    · refine obc_n (fun i hi => ?_) (fun j => ?_) ?_ _ _ h
      · rw [Xi_ne (by omega)]; exact v.2.1.2 i hi
      · rw [Xi_ne (by omega)]; exact (show 0 ≤ Xi T 918 j ∧ Xi T 918 j ≤ 15 from v.1.c 918 j).2
      · rw [Xi_ne (by omega)]; have t : 0 ≤ Xi T 904 110 ∧ Xi T 904 110 ≤ 15 := v.1.c 904 110; omega
    · exact absurd r h
  obtain ⟨z1, z2, z3, z4, z5⟩ := z
  refine vg_b ⟨LXG.tr (lxg_k (k rfl (by simp))) z1, fun j => (z2 j).trans (Xi_ne (by omega)), ?_, fun o ho => ?_, z5⟩ (h.2.2.kep rfl)
  · rw [Xi_ne (by omega)] at z3; exact z3
  · have x := z4 o (by rw [Xi_ne (by omega)]; exact ho)
    rw [blR_q (S := T) (fun j => Xi_ne (by omega)), Xi_ne (by omega)] at x
    exact x
theorem vg_15d (h : QX_mo_does_15d T W f) (_ : RTV T n) (_ : (NT3 W).1 = 0) : VG T W := vg_k (h.2.2.kep rfl)
theorem vg_17 (h : QX_mo_does_17 T W f) (_ : RTV T n) (r : (NT3 W).1 = 0) : VG T W := by
  obtain ⟨a1, a2, a3⟩ := h.1
  by_cases q : rnR T 2 7 = -1
  · obtain ⟨_, _, t, _, k⟩ := a1 q
    exact ⟨lxg_t t, kdg_h (h.2.2.kep rfl) k, obg_k (h.2.2.kep rfl)⟩
  · by_cases e : Xi T 928 (rnR T 2 7).toNat = r2R T 1 2 3
    · obtain ⟨_, t, _, _, k⟩ := a3 q e
      exact ⟨lxg_s t, kdg_h (h.2.2.kep rfl) k, obg_k (h.2.2.kep rfl)⟩
    · have u := (a2 q e).1
      rw [u] at r
      exact absurd r (by decide)
theorem vg_18 (h : QX_mo_does_18 T W f) (_ : RTV T n) (_ : (NT3 W).1 = 0) : VG T W := by
  obtain ⟨_, ⟨V, t1, t2⟩, _⟩ := h.1
  exact vg_x (LXG.tr (lxg_t t1) (lxg_t t2)) (h.2.2.kep rfl)
theorem vg_19 (h : QX_mo_does_19 T W f) (_ : RTV T n) (_ : (NT3 W).1 = 0) : VG T W := vg_x (lxg_t h.1.2.1) (h.2.2.kep rfl)
theorem vg_20 (h : QX_mo_does_20 T W f) (_ : RTV T n) (_ : (NT3 W).1 = 0) : VG T W := vg_k (h.2.2.kep rfl)
end
end
section
/-! one sentence that both tell: the same fault, or both worlds agree behind it -/
/-- the class's book of rules stays -/
def BKG (V U1 : sS) : Prop := (Xi U1 246 2 = Xi V 246 2 ∧ Xi U1 246 8 = Xi V 246 8) ∧ (∀ j, Xi U1 274 j = Xi V 274 j ∧ Xi U1 275 j = Xi V 275 j) ∧ (∀ r j : Nat, r < 24 → Xi U1 (248 + r) j = Xi V (248 + r) j) ∧ ∀ c j : Nat, (c : Int) < Xi V 246 5 → c < 600 → Xi U1 (276 + c) j = Xi V (276 + c) j
theorem bkg_k {V U1 : sS} (k : KEP [(248, 276), (276, 876)] [(246, 2), (246, 8)] V U1) : BKG V U1 :=
  ⟨⟨k.f 246 2 (by decide), k.f 246 8 (by decide)⟩, fun j => ⟨k.x 274 rfl j, k.x 275 rfl j⟩, fun r j hr => k.x _ (inK_i (a := 248) (b := 276) (List.mem_cons_self ..) (by omega) (by omega)) j, fun c j _ hc => k.x _ (inK_i (a := 276) (b := 876) (List.mem_cons_of_mem _ (List.mem_cons_self ..)) (by omega) (by omega)) j⟩
/-- a new rule -/
def RLNW (V U1 V' T : sS) (ts : Nat) : Prop := ∃ (ru N K : Nat) (s hd g : Int), RULF V U1 V' T ts ru N K s hd g ∧ ((ru : Int) = Xi V 246 2 ∧ ru < 24 ∧ 0 < K) ∧ (s = 3 ∨ s = 4 ∨ s = 5 ∨ s = 6) ∧ TXL V ∧ (Xi V' 904 94 = N ∧ Xi V' 904 98 = K)
def STB (V V' U1 T W : sS) (ts : Nat) : Prop := STA U1 T W ∧ ((NT3 T).1 = 0 → (NT3 W).1 = 0 → VG T W) ∧ (Xi U1 876 8 = 0 → BKG V U1 ∨ (RLNW V U1 V' T ts ∧ ((NT3 T).1 = 0 → W = T)))
def NV6 (V : sS) : Prop := ∀ j : Nat, (j : Int) < Xi V 876 7 → Xi V 877 j = 101 → 0 ≤ Xj V 879 j ∧ Xj V 879 j ≤ 999999
/-- both are about to tell a sentence -/
def TLE (V V' T W' : sS) (ts f n : Nat) : Prop := CEV V V' ts f ∧ ENW V V' f ∧ RPV V' n ∧ OVB V' ∧ ASB n V' T f ∧ (Xi T 904 106 = 0 → DSB n T W' f) ∧ KEYR (Xj V 880) (Xj V' 911) ∧ BE (Xi V ts) (Xi V' 906) (Xi V 876 5) ∧ NV6 V
theorem rtv_i {V V' T W' : sS} {ts f n : Nat} (t : TLE V V' T W' ts f n) (q : Xi T 904 106 = 0) : RTV T n ∧ OVB T := by
  obtain ⟨_, _, rp, ob, as, _⟩ := t
  have m := rpv_m rp
  exact ⟨⟨as.1, ⟨LXM_FR as.2.1 rfl m.1, ABV_FR as.2.1 rfl m.2⟩, SNQ_FR as.2.1 rfl rp.2.2.2.1.2.1, as.2.2.1 q, q⟩, ovb_k (as.2.1.kep rfl) ob⟩
theorem tle_70 {V V' T W' : sS} {ts f n : Nat} (t : TLE V V' T W' ts f n) : Xi T 904 70 = Xi V' 904 70 := t.2.2.2.2.1.2.1.x 904 70 rfl
theorem tle_a {V V' T W' : sS} {ts f n : Nat} (t : TLE V V' T W' ts f n) (d : Nat) (h : AKP V' d f) : AKQ V' T d f := t.2.2.2.2.1.2.2.2.2 d h
theorem tle_d {V V' T W' : sS} {ts f n : Nat} (t : TLE V V' T W' ts f n) (q : Xi T 904 106 = 0) (h : DKP T f) : DKQ T W' f ∧ GR W' T := ⟨(t.2.2.2.2.2.1 q).2.2.2.2 h, (t.2.2.2.2.2.1 q).2.2.2.1⟩
section
variable {V V' T W' U1 : sS} {ts f n m : Nat} {x z : Int}
theorem so_0 (t : TLE V V' T W' ts f n) (h70 : Xi V' 904 70 = 0) (ty0 : ty7 V 0 = 102) (e81 : Xi V' 904 81 = f) (zf : z = 0 → Xi U1 876 8 ≠ 0) (tc : (TDE V U1 z) ∧ FR md_re_describe__p V U1) : STB V V' U1 T W' ts := by
  have s := (tle_70 t).trans h70
  have aq := akq_0 (tle_a t 0 (akp_0 h70 (ak_0 h70))) h70
  have dd : Xi T 904 106 = 0 → QX_mo_does_0 T W' f ∧ GR W' T := fun q => ⟨dkq_0 (tle_d t q (dkp_0 s (dk_0 (rtv_i t q).1 (rtv_i t q).2 s))).1 s, (tle_d t q (dkp_0 s (dk_0 (rtv_i t q).1 (rtv_i t q).2 s))).2⟩
  have c := t.1
  have e := t.2.1
  refine ⟨sa_0 c.1 c.2.2.2.1 e.2.2.2.1.1 c.2.2.1.1 (e.2.2.2.1.2.2 0) (by have := c.2.2.2.2.1; omega) ty0 e81 c.2.2.2.2.2.1 zf tc.1 tc.2 aq.1 aq.2.2 (fun q => ⟨(dd q).1.1, (dd q).1.2.2, (dd q).2⟩), fun q r => vg_0 (dd q).1 (rtv_i t q).1 r, fun _ => Or.inl (bkg_k (tc.2.kep rfl))⟩
theorem so_1 (t : TLE V V' T W' ts f n) (s : SNT V V' f m n x) (t0 : ty7 V 0 = 33) (h70 : Xi V' 904 70 = 1) (e81 : Xi V' 904 81 = f + 1) (zf : z = 0 → Xi U1 876 8 ≠ 0) (tc : (TUN md_co_takeText__p md_co_suits__p V U1 ts z (fnd V 8 3 (re7 (ty7 V) 3)) (pc7 V 1 + 1) (pc7 V 1 + 1 + Xj V 879 1)) ∧ (KOC V U1) ∧ FR md_re_understand__a V U1) : STB V V' U1 T W' ts := by
  have s7 := (tle_70 t).trans h70
  have c := t.1
  have t1 := ty_102 (inv_1 s.2.2.2.1 t0).1
  have px := tok_px c (inv_1 s.2.2.2.1 t0).1
  have aq := akq_1 (tle_a t 0 (akp_1 h70 (ak_1 t.2.2.1 h70 c.2.2.2.1 c.2.2.1.1 (cev_5 c) (cev_pl c) (inv_1 s.2.2.2.1 t0).1 e81))) h70
  have dd : Xi T 904 106 = 0 → QX_mo_does_1 T W' f ∧ GR W' T := fun q => ⟨dkq_1 (tle_d t q (dkp_1 s7 (dk_1 (rtv_i t q).1 s7))).1 s7, (tle_d t q (dkp_1 s7 (dk_1 (rtv_i t q).1 s7))).2⟩
  have be : BE (Xi V ts) (Xi V' 906) (pc7 V 1 + 1 + Xj V 879 1) := fun j hj => by
    refine t.2.2.2.2.2.2.2.1 j ?_
    have tk := c.2.2.1.1 1 (by omega) t1.2.2
    have e : pc7 V 1 = Xi V 878 1 := if_pos ⟨by omega, by omega⟩
    omega
  refine ⟨sa_1 s t0 h70 t.2.2.2.2.2.2.1 be px e81 zf tc.1 tc.2.1 (tc.2.2.up rfl) aq.1 aq.2.2 (fun q => ⟨(dd q).1.1, (dd q).1.2.2, (dd q).2⟩), fun q r => vg_1 (dd q).1 (rtv_i t q).1 r, fun _ => Or.inl (bkg_k (tc.2.2.kep rfl))⟩
theorem so_2 (t : TLE V V' T W' ts f n) (h70 : Xi V' 904 70 = 2) (de : DFE (tkR V') V' 0 0 f (f + (Xi V 876 7 - 1))) (dot : ty7 V (Xi V 876 7 - 1) = 103) (zf : z = 0 → Xi U1 876 8 ≠ 0) (tc : BG2 V U1 z) : STB V V' U1 T W' ts := by
  have s7 := (tle_70 t).trans h70
  have c := t.1
  have aq := akq_2 (tle_a t 0 (akp_2 h70 (ak_2 t.2.2.1 h70 c.2.2.2.1 t.2.1.2.2.1 c.2.2.1.2.2.2 de))) h70
  have dd : Xi T 904 106 = 0 → QX_mo_does_2 T W' f ∧ GR W' T := fun q => ⟨dkq_2 (tle_d t q (dkp_2 s7 (dk_2 (rtv_i t q).1 s7))).1 s7, (tle_d t q (dkp_2 s7 (dk_2 (rtv_i t q).1 s7))).2⟩
  obtain ⟨A, B, x, y, hx, c1, F1, c0, c2, c3, c4⟩ := tc
  refine ⟨sa_2 c.1 t.2.1 de dot c.2.2.2.2.2.2 hx c1 F1 c0 c2 c3 c4 zf aq.1 aq.2.2 (fun q => ⟨(dd q).1.1, (dd q).1.2.2, (dd q).2⟩), fun q r => vg_2 (dd q).1 (rtv_i t q).1 r, fun u8 => ?_⟩
  obtain ⟨N, k0, k1, tq, hN, n94, _, _⟩ := po_2 t.2.1.2.1 t.2.1.2.2.1 de
  obtain ⟨st, gd⟩ := st_2 t.2.1 c.1.2.2.2.1 c.1.2.2.2.2.1 k0 k1 tq hN (by omega) (by rw [dot]; decide) n94 c.2.2.2.2.2.2 hx c1 F1 c0 c2 c3 c4 zf aq.1 aq.2.2 (fun q => ⟨(dd q).1.1, (dd q).1.2.2⟩)
  obtain ⟨_, ⟨cl, _, _, _⟩, x1, y1⟩ := gd u8
  have kU : KEP [(248, 276)] [(246, 2), (246, 8)] V U1 := KEP.tr (F1.kep rfl) (KEP.tr ((c2 x1).2.1.kep rfl) ((c4 x1 y1).2.kep rfl))
  exact Or.inl ⟨⟨kU.f 246 2 (by decide), kU.f 246 8 (by decide)⟩, fun j => ⟨kU.x 274 rfl j, kU.x 275 rfl j⟩, fun r j hr => kU.x _ (inK_i (a := 248) (b := 276) (List.mem_cons_self ..) (by omega) (by omega)) j, fun i j hc _ => cl i j hc⟩
theorem so_3 (t : TLE V V' T W' ts f n) {s : Int} (hs : s = 3 ∨ s = 4 ∨ s = 5 ∨ s = 6) (e89 : Xi V 890 2 = s) (h70 : Xi V' 904 70 = s) (rue : RUE (tkR V') V' 0 0 0 s f (f + (Xi V 876 7 - 1))) (dot : ty7 V (Xi V 876 7 - 1) = 103) (zf : z = 0 → Xi U1 876 8 ≠ 0) (tc : BG3 V U1 ts z) : STB V V' U1 T W' ts := by
  have s7 := (tle_70 t).trans h70
  have c := t.1
  have h7 := c.2.2.2.2.1
  have r3 : 3 ≤ Xi V' 904 70 ∧ Xi V' 904 70 ≤ 6 := by omega
  have r3' : 3 ≤ Xi T 904 70 ∧ Xi T 904 70 ≤ 6 := by omega
  have aq := akq_3 (tle_a t 0 (akp_3 r3 (ak_3 t.2.2.1 hs h70 c.2.2.2.1 t.2.1.2.2.1 c.2.2.1.2.2.2 rue))) r3
  have dd : Xi T 904 106 = 0 → QX_mo_does_3 T W' f := fun q => dkq_3 (tle_d t q (dkp_3 r3' r3')).1 r3'
  have tx : TXL V := by
    refine ⟨fun r r0 r1 q => ?_, by have := cev_5 c; omega, by omega⟩
    have t2 := ty_102 q
    have tk := c.2.2.1.1 r.toNat (by omega) t2.2.2
    have e : pc7 V r = Xi V 878 r.toNat := if_pos ⟨r0, r1⟩
    rw [e]
    omega
  obtain ⟨A, B, x, y, hx, c1, F1, c0, c2, c3, c4⟩ := tc
  rw [e89] at c1
  have b2 := c.1.2.2.2.1.2.2.2.1
  refine ⟨sa_3 (ru := (Xi V 246 2).toNat) c.1 t.2.1 hs h70 rue t.2.2.2.2.2.2.1 c.2.2.1.2.2.1.symm tx c.2.2.1.2.2.2 h7.2.2 dot (by omega) hx c1 F1 c0 c2 c3 c4 zf aq.1 (fun q => (dd q).1), fun q r => vg_3 (dd q) (rtv_i t q).1 r, fun u8 => ?_⟩
  obtain ⟨N, K, h0, g0, hde, wht, tg, hK, psq, te, _, n98⟩ := rue
  rw [Nat.zero_add] at psq
  obtain ⟨hd, ehd⟩ : ∃ hd, h0 = f + hd := ⟨h0 - f, by omega⟩
  obtain ⟨g, eg⟩ : ∃ g, g0 = f + g := ⟨g0 - f, by omega⟩
  rw [ehd] at hde wht
  rw [eg] at wht tg psq
  have eru : (((Xi V 246 2).toNat : Nat) : Int) = Xi V 246 2 := by omega
  obtain ⟨_, rf⟩ := st_3 (ru := (Xi V 246 2).toNat) t.2.1 c.1.2.2.2.1 hs h70 hde wht tg hK psq te (by omega) (by omega) t.2.2.2.2.2.2.1 c.2.2.1.2.2.1.symm tx c.2.2.1.2.2.2 h7.2.2 dot eru hx c1 F1 c0 c2 c3 c4 zf aq.1
  have n94 : Xi V' 904 94 = N := by rcases wht with ⟨_, _, _, k⟩ | ⟨_, k, _, k2⟩ <;> omega
  have hx1 : x = 1 := by rcases hx with q | q; exact absurd u8 (zf (c0 q).1); exact q
  have hru : (Xi V 246 2).toNat < 24 := by
    by_cases q : 24 ≤ Xi V 246 2
    · have := (c1.1 q).1; omega
    · omega
  exact Or.inr ⟨⟨(Xi V 246 2).toNat, N, K, s, hd, g, rf u8, ⟨eru, hru, hK⟩, hs, tx, n94, by omega⟩, fun q => (dd q).1⟩
theorem so_7 (t : TLE V V' T W' ts f n) (s : SNT V V' f m n x) (t0 : ty7 V 0 = 2) (t1 : ty7 V 1 = 25) (h70 : Xi V' 904 70 = 7) (zf : z = 0 → Xi U1 876 8 ≠ 0) (tc : (TVB V U1 z (re7 (ty7 V) 3) ((re7 (ty7 V) 3) + 2) (re7 (ty7 V) ((re7 (ty7 V) 3) + 2))) ∧ FR md_re_tellVerb__p V U1) : STB V V' U1 T W' ts := by
  have s7 := (tle_70 t).trans h70
  have aq := akq_7 (tle_a t 0 (akp_7 h70 (ak_7 t.2.2.1 (snt_pro s) h70))) h70
  have dd : Xi T 904 106 = 0 → QX_mo_does_7 T W' f ∧ GR W' T := fun q => ⟨dkq_7 (tle_d t q (dkp_7 s7 (dk_7 (rtv_i t q).1 s7))).1 s7, (tle_d t q (dkp_7 s7 (dk_7 (rtv_i t q).1 s7))).2⟩
  exact ⟨sa_7 s t0 t1 h70 zf tc.1 tc.2 aq.1 aq.2.2 (fun q => ⟨(dd q).1.1, (dd q).1.2.2, (dd q).2⟩), fun q r => vg_7 (dd q).1 (rtv_i t q).1 r, fun _ => Or.inl (bkg_k (tc.2.kep rfl))⟩
theorem so_8 (t : TLE V V' T W' ts f n) (s : SNT V V' f m n x) (t0 : ty7 V 0 = 2) (t1 : ty7 V 1 = 19) (h70 : Xi V' 904 70 = 8) (zf : z = 0 → Xi U1 876 8 ≠ 0) (tc : (TPL V U1 z (bA (ty7 V) 3) (re7 (ty7 V) (bA (ty7 V) 3)) ((re7 (ty7 V) (bA (ty7 V) 3)) + 1) (re7 (ty7 V) ((re7 (ty7 V) (bA (ty7 V) 3)) + 1))) ∧ FR md_re_tellPlural__p V U1) : STB V V' U1 T W' ts := by
  have s7 := (tle_70 t).trans h70
  have aq := akq_8 (tle_a t 0 (akp_8 h70 (ak_8 t.2.2.1 (snt_pro s) h70))) h70
  have dd : Xi T 904 106 = 0 → QX_mo_does_8 T W' f ∧ GR W' T := fun q => ⟨dkq_8 (tle_d t q (dkp_8 s7 (dk_8 (rtv_i t q).1 s7))).1 s7, (tle_d t q (dkp_8 s7 (dk_8 (rtv_i t q).1 s7))).2⟩
  exact ⟨sa_8 s t0 t1 h70 zf tc.1 tc.2 aq.1 aq.2.2 (fun q => ⟨(dd q).1.1, (dd q).1.2.2, (dd q).2⟩), fun q r => vg_8 (dd q).1 (rtv_i t q).1 r, fun _ => Or.inl (bkg_k (tc.2.kep rfl))⟩
theorem so_17 (t : TLE V V' T W' ts f n) (s : SNT V V' f m n x) (g : NBG (ty7 V)) (k : kt7 (ty7 V) = 12) (h70 : Xi V' 904 70 = 17) (tel : Xi V 890 3 = tk7 (ty7 V)) (zf : z = 0 → Xi U1 876 8 ≠ 0) (tc : (THAS V U1 z (bA (ty7 V) 0) (re7 (ty7 V) (bA (ty7 V) 0)) (Xi V 890 3 + 2) (re7 (ty7 V) (Xi V 890 3 + 2)) ((re7 (ty7 V) (Xi V 890 3 + 2)) + 1) (re7 (ty7 V) ((re7 (ty7 V) (Xi V 890 3 + 2)) + 1))) ∧ FR md_re_tellHas__p V U1) : STB V V' U1 T W' ts := by
  have s7 := (tle_70 t).trans h70
  have aq := akq_17 (tle_a t 0 (akp_17 h70 (ak_17 t.2.2.1 (snt_pro s) h70))) h70
  have dd : Xi T 904 106 = 0 → QX_mo_does_17 T W' f ∧ GR W' T := fun q => ⟨dkq_17 (tle_d t q (dkp_17 s7 (dk_17 (rtv_i t q).1 s7))).1 s7, (tle_d t q (dkp_17 s7 (dk_17 (rtv_i t q).1 s7))).2⟩
  exact ⟨sa_17 s g k h70 tel zf tc.1 tc.2 aq.1 aq.2.2 (fun q => ⟨(dd q).1.1, (dd q).1.2.2, (dd q).2⟩), fun q r => vg_17 (dd q).1 (rtv_i t q).1 r, fun _ => Or.inl (bkg_k (tc.2.kep rfl))⟩
theorem so_18 (t : TLE V V' T W' ts f n) (s : SNT V V' f m n x) (g : NBG (ty7 V)) (k : kt7 (ty7 V) = 13) (h70 : Xi V' 904 70 = 18) (tel : Xi V 890 3 = tk7 (ty7 V)) (zf : z = 0 → Xi U1 876 8 ≠ 0) (tc : (TCAN V U1 z (bA (ty7 V) 0) (re7 (ty7 V) (bA (ty7 V) 0)) (Xi V 890 3 + 2) (re7 (ty7 V) (Xi V 890 3 + 2)) (re7 (ty7 V) ((re7 (ty7 V) (Xi V 890 3 + 2)) + 1))) ∧ FR md_re_tellCan__p V U1) : STB V V' U1 T W' ts := by
  have s7 := (tle_70 t).trans h70
  have aq := akq_18 (tle_a t 0 (akp_18 h70 (ak_18 t.2.2.1 (snt_pro s) h70))) h70
  have dd : Xi T 904 106 = 0 → QX_mo_does_18 T W' f ∧ GR W' T := fun q => ⟨dkq_18 (tle_d t q (dkp_18 s7 (dk_18 (rtv_i t q).1 s7))).1 s7, (tle_d t q (dkp_18 s7 (dk_18 (rtv_i t q).1 s7))).2⟩
  exact ⟨sa_18 s g k h70 tel zf tc.1 tc.2 aq.1 aq.2.2 (fun q => ⟨(dd q).1.1, (dd q).1.2.2, (dd q).2⟩), fun q r => vg_18 (dd q).1 (rtv_i t q).1 r, fun _ => Or.inl (bkg_k (tc.2.kep rfl))⟩
theorem so_19 (t : TLE V V' T W' ts f n) (s : SNT V V' f m n x) (g : NBG (ty7 V)) (k : kt7 (ty7 V) = 21) (h70 : Xi V' 904 70 = 19) (tel : Xi V 890 3 = tk7 (ty7 V)) (on : ONR V' (ty7 V)) (zf : z = 0 → Xi U1 876 8 ≠ 0) (tc : (TREL V U1 z (bA (ty7 V) 0) (re7 (ty7 V) (bA (ty7 V) 0)) (Xi V 890 3 + 2) (re7 (ty7 V) (Xi V 890 3 + 2)) ((re7 (ty7 V) (Xi V 890 3 + 2)) + 2) (re7 (ty7 V) ((re7 (ty7 V) (Xi V 890 3 + 2)) + 2)) (ty7 V ((Xi V 890 3 + 2) - 1)) (ty7 V (((re7 (ty7 V) (Xi V 890 3 + 2)) + 2) - 1))) ∧ FR md_re_tellRelation__p V U1) : STB V V' U1 T W' ts := by
  have s7 := (tle_70 t).trans h70
  have aq := akq_19 (tle_a t 0 (akp_19 h70 (ak_19 t.2.2.1 (snt_pro s) h70))) h70
  have dd : Xi T 904 106 = 0 → QX_mo_does_19 T W' f ∧ GR W' T := fun q => ⟨dkq_19 (tle_d t q (dkp_19 s7 (dk_19 (rtv_i t q).1 s7))).1 s7, (tle_d t q (dkp_19 s7 (dk_19 (rtv_i t q).1 s7))).2⟩
  exact ⟨sa_19 s g k h70 tel on zf tc.1 tc.2 aq.1 aq.2.2 (fun q => ⟨(dd q).1.1, (dd q).1.2.2, (dd q).2⟩), fun q r => vg_19 (dd q).1 (rtv_i t q).1 r, fun _ => Or.inl (bkg_k (tc.2.kep rfl))⟩
theorem so_20 (t : TLE V V' T W' ts f n) (h70 : Xi V' 904 70 = 20) (dot : ty7 V (Xi V 876 7 - 1) = 103) (nd : ∀ i : Int, 0 ≤ i → i < Xi V 876 7 - 1 → ty7 V i ≠ 103) (zf : z = 0 → Xi U1 876 8 ≠ 0) (tc : (TLQ V U1 z) ∧ FR md_re_tellLoose__p V U1) : STB V V' U1 T W' ts := by
  have s7 := (tle_70 t).trans h70
  have c := t.1
  have e := t.2.1
  have h7 := c.2.2.2.2.1
  have aq := akq_20 (tle_a t (f + (Xi V 876 7 - 1).toNat) (akp_20 h70 (ak_20 t.2.2.1 h70 c.2.2.2.1 e.2.2.1 e.2.2.2.2.1 h7.1 dot nd rfl))) h70
  have dd : Xi T 904 106 = 0 → QX_mo_does_20 T W' f ∧ GR W' T := fun q => ⟨dkq_20 (tle_d t q (dkp_20 s7 (dk_20 (rtv_i t q).1 s7))).1 s7, (tle_d t q (dkp_20 s7 (dk_20 (rtv_i t q).1 s7))).2⟩
  have rc := aq.1
  rw [show ((f + (Xi V 876 7 - 1).toNat : Nat) : Int) = (f : Int) + (Xi V 876 7 - 1) by omega] at rc
  exact ⟨sa_20 c.1 c.2.2.2.1 c.2.2.2.2.2.1 e.2.2.1 h7.1 dot zf tc.1 tc.2 rc aq.2.2 (fun q => ⟨(dd q).1.1, (dd q).1.2.2, (dd q).2⟩), fun q r => vg_20 (dd q).1 (rtv_i t q).1 r, fun _ => Or.inl (bkg_k (tc.2.kep rfl))⟩
end

section
variable {V V' T W' U1 : sS} {ts f n m : Nat} {x z : Int}
theorem tle_loq (t : TLE V V' T W' ts f n) (r : LOQ V' (Xi V' 904 71) (Xi V' 904 72).toNat) : LOQ T (Xi T 904 71) (Xi T 904 72).toNat := by
  have F := t.2.2.2.2.1.2.1
  rw [F.x 904 71 rfl, F.x 904 72 rfl]
  exact (LOQ_sm (SMR_FR F rfl rfl) (F.x 904 19 rfl)).2 r
theorem so_9 (t : TLE V V' T W' ts f n) (s : SNT V V' f m n x) (g : NBG (ty7 V)) (k : kt7 (ty7 V) = 4 ∨ kt7 (ty7 V) = 5) (nb : bp7 (ty7 V) 0) (tel : Xi V 890 3 = tk7 (ty7 V)) (be : BES V (ty7 V)) (cr : C9S V' (ty7 V) f) (zf : z = 0 → Xi U1 876 8 ≠ 0) (tc : (TPY md_me_readWhat__p V U1 z (re7 (ty7 V) 1) (bA (ty7 V) (re7 (ty7 V) 1 + 1)) (re7 (ty7 V) (bA (ty7 V) (re7 (ty7 V) 1 + 1))) (Xi V 890 3 + 1)) ∧ FR md_re_tellProperty__p V U1) : STB V V' U1 T W' ts := by
  have c := t.1
  have e := t.2.1
  obtain ⟨⟨_, h70⟩, k0, k1, e3, i3, w3, k2, e78⟩ := po_9 s.2.2.1 s.2.2.2.1 g.2.1 g.2.2 k nb tel be cr s.2.2.2.2.1.2 (fun i i0 i1 => tkw_t s.2.1.1 i0 i1)
  have s7 := (tle_70 t).trans h70
  have sr := scx_s s.2.1 s.1.1.1
  have aq := akq_9 (tle_a t 0 (akp_9 h70 (ak_9 t.2.2.1 (snt_pro s) h70 c.2.2.2.1 sr e.2.2.1 c.2.2.1.2.2.2 e.2.2.2.2.2 k1 (by omega) i3 e78))) h70
  have dd : Xi T 904 106 = 0 → QX_mo_does_9 T W' f ∧ GR W' T := fun q => ⟨dkq_9 (tle_d t q (dkp_9 s7 (dk_9 (rtv_i t q).1 s7))).1 s7, (tle_d t q (dkp_9 s7 (dk_9 (rtv_i t q).1 s7))).2⟩
  refine ⟨sa_9 s g k nb tel be cr e.2.2.2.1.1 c.2.2.1.1 e.2.2.2.1.2.2 e.2.2.1 zf tc.1 tc.2 aq.1 aq.2.2.2.1 aq.2.1 (fun q => ⟨(dd q).1.1, (dd q).1.2.2, (dd q).2⟩), fun q r => vg_9 (dd q).1 (rtv_i t q).1 r, fun _ => Or.inl (bkg_k (tc.2.kep rfl))⟩
theorem so_10 (t : TLE V V' T W' ts f n) (s : SNT V V' f m n x) (b : BEX V V' f m x) (tt : ty7 V (Xi V 890 3 + 1) = 0 ∧ ty7 V (Xi V 890 3 + 1 + 1) = 18) (hz : z = 0 ∨ z = 1) (zf : z = 0 → Xi U1 876 8 ≠ 0) (tc : (TKN V U1 z) ∧ FR md_re_tellKinds__p V U1) : STB V V' U1 T W' ts := by
  have h70 := (po_10 b s.2.2.2.2.1.2 tt).2.1
  have s7 := (tle_70 t).trans h70
  have aq := akq_10 (tle_a t 0 (akp_10 h70 (ak_10 t.2.2.1 (snt_pro s) (rps_i b) h70))) h70
  have dd : Xi T 904 106 = 0 → QX_mo_does_10 T W' f ∧ GR W' T := fun q => ⟨dkq_10 (tle_d t q (dkp_10 s7 (dk_10 (rtv_i t q).1 s7))).1 s7, (tle_d t q (dkp_10 s7 (dk_10 (rtv_i t q).1 s7))).2⟩
  exact ⟨sa_10 s b tt hz zf tc.1 tc.2 aq.1 aq.2.2 (fun q => ⟨(dd q).1.1, (dd q).1.2.2, (dd q).2⟩), fun q r => vg_10 (dd q).1 (rtv_i t q).1 r, fun _ => Or.inl (bkg_k (tc.2.kep rfl))⟩
theorem so_11 (t : TLE V V' T W' ts f n) (s : SNT V V' f m n x) (b : BEX V V' f m x) (tt : ty7 V (Xi V 890 3 + 1) = 1 ∧ ty7 V (Xi V 890 3 + 1 + 1) = 27) (zf : z = 0 → Xi U1 876 8 ≠ 0) (tc : (TACT V U1 z) ∧ FR md_re_tellActions__p V U1) : STB V V' U1 T W' ts := by
  have h70 := (po_11 b s.2.2.2.2.1.2 tt).2.1
  have s7 := (tle_70 t).trans h70
  have w : -1 ≤ Xi T 904 78 := by
    rw [t.2.2.2.2.1.2.1.x 904 78 rfl]
    exact t.2.2.1.2.2.2.1.2.2.2.2.2.1 h70
  have aq := akq_11 (tle_a t 0 (akp_11 h70 (ak_11 t.2.2.1 (snt_pro s) (rps_i b) h70))) h70
  have dd : Xi T 904 106 = 0 → QX_mo_does_11 T W' f ∧ GR W' T := fun q => ⟨dkq_11 (tle_d t q (dkp_11 s7 (dk_11 (rtv_i t q).1 s7 w))).1 s7, (tle_d t q (dkp_11 s7 (dk_11 (rtv_i t q).1 s7 w))).2⟩
  exact ⟨sa_11 s b tt zf tc.1 tc.2 aq.1 aq.2.2 (fun q => ⟨(dd q).1.1, (dd q).1.2.2, (dd q).2⟩), fun q r => vg_11 (dd q).1 (rtv_i t q).1 r, fun _ => Or.inl (bkg_k (tc.2.kep rfl))⟩
theorem so_12 (t : TLE V V' T W' ts f n) (s : SNT V V' f m n x) (b : BEX V V' f m x) (t0 : ¬ (ty7 V (Xi V 890 3 + 1) = 0 ∧ ty7 V (Xi V 890 3 + 1 + 1) = 18)) (t1 : ¬ (ty7 V (Xi V 890 3 + 1) = 1 ∧ ty7 V (Xi V 890 3 + 1 + 1) = 27)) (tt : art7 (ty7 V (Xi V 890 3 + 1))) (hz : z = 0 ∨ z = 1) (zf : z = 0 → Xi U1 876 8 ≠ 0) (tc : (TOJ V U1 z) ∧ FR md_re_tellObjects__p V U1) : STB V V' U1 T W' ts := by
  have h70 := (po_12 b s.2.2.2.2.1.2 t0 t1 tt).1.2
  have s7 := (tle_70 t).trans h70
  have aq := akq_12 (tle_a t 0 (akp_12 h70 (ak_12 t.2.2.1 (snt_pro s) (rps_i b) h70))) h70
  have pp : Xi T 904 106 = 0 → DKP T f := fun q => dkp_12 s7 (dk_12 (rtv_i t q).1 (rtv_i t q).2 (tle_loq t (loq_n _ aq.1.1 q)) s7)
  have dd : Xi T 904 106 = 0 → QX_mo_does_12 T W' f ∧ GR W' T := fun q => ⟨dkq_12 (tle_d t q (pp q)).1 s7, (tle_d t q (pp q)).2⟩
  refine ⟨sa_12 s b t0 t1 tt hz zf tc.1 tc.2 aq.1 aq.2.2 (fun q => ⟨(dd q).1.1, (dd q).1.2.2, (dd q).2⟩), fun q r => vg_12 (dd q).1 (rtv_i t q).1 r, fun _ => Or.inl (bkg_k (tc.2.kep rfl))⟩
theorem so_13 (t : TLE V V' T W' ts f n) (s : SNT V V' f m n x) (b : BEX V V' f m x) (tt : ¬ art7 (ty7 V (Xi V 890 3 + 1))) (p : pl7 (ty7 V (Xi V 890 3 + 1))) (hz : z = 0 ∨ z = 1) (zf : z = 0 → Xi U1 876 8 ≠ 0) (tc : (TOJ V U1 z) ∧ FR md_re_tellObjects__p V U1) : STB V V' U1 T W' ts := by
  have h70 := (po_13 b s.2.2.2.2.1.2 tt p).1.2
  have s7 := (tle_70 t).trans h70
  have aq := akq_13 (tle_a t 0 (akp_13 h70 (ak_13 t.2.2.1 (snt_pro s) (rps_i b) h70))) h70
  have pp : Xi T 904 106 = 0 → DKP T f := fun q => dkp_13 s7 (dk_13 (rtv_i t q).1 (rtv_i t q).2 (tle_loq t (loq_n _ aq.1.1 q)) s7)
  have dd : Xi T 904 106 = 0 → QX_mo_does_13 T W' f ∧ GR W' T := fun q => ⟨dkq_13 (tle_d t q (pp q)).1 s7, (tle_d t q (pp q)).2⟩
  refine ⟨sa_13 s b tt p hz zf tc.1 tc.2 aq.1 aq.2.2 (fun q => ⟨(dd q).1.1, (dd q).1.2.2, (dd q).2⟩), fun q r => vg_13 (dd q).1 (rtv_i t q).1 r, fun _ => Or.inl (bkg_k (tc.2.kep rfl))⟩
theorem so_14 (t : TLE V V' T W' ts f n) (s : SNT V V' f m n x) (b : BEX V V' f m x) (tt : ty7 V (Xi V 890 3 + 1) = 100) (w : ty7 V (re7 (ty7 V) (Xi V 890 3 + 1)) = 7) (zf : z = 0 → Xi U1 876 8 ≠ 0) (tc : (TW14 V U1 z) ∧ FR md_re_tellWay__p V U1) : STB V V' U1 T W' ts := by
  have h70 := (po_14 b s.2.2.2.2.1.2 tt w).1.2
  have s7 := (tle_70 t).trans h70
  have wy := s.1.1.2.2.2.2.2.2.2.2.2.2.2.2.2.1.1
  have w51 : Xi T 904 51 ≤ 144 := by rw [t.2.2.2.2.1.2.1.x 904 51 rfl, ← wy.1]; exact wy.2.2
  have aq := akq_14 (tle_a t 0 (akp_14 h70 (ak_14 t.2.2.1 (snt_pro s) (rps_i b) h70))) h70
  have dd : Xi T 904 106 = 0 → QX_mo_does_14 T W' f ∧ GR W' T := fun q => ⟨dkq_14 (tle_d t q (dkp_14 s7 (dk_14 (rtv_i t q).1 w51 s7))).1 s7, (tle_d t q (dkp_14 s7 (dk_14 (rtv_i t q).1 w51 s7))).2⟩
  exact ⟨sa_14 s b tt w zf tc.1 tc.2 aq.1 aq.2.2 (fun q => ⟨(dd q).1.1, (dd q).1.2.2, (dd q).2⟩), fun q r => vg_14 (dd q).1 (rtv_i t q).1 r, fun _ => Or.inl (bkg_k (tc.2.kep rfl))⟩
theorem so_15u (t : TLE V V' T W' ts f n) (s : SNT V V' f m n x) (b : BEX V V' f m x) (tt : ty7 V (Xi V 890 3 + 1) = 32) (zf : z = 0 → Xi U1 876 8 ≠ 0) (tc : (TUS md_me_readAdjective__p V U1 z (bA (ty7 V) 0) (re7 (ty7 V) (bA (ty7 V) 0)) (Xi V 890 3 + 2) (re7 (ty7 V) (Xi V 890 3 + 2))) ∧ FR md_re_tellUsually__p V U1) : STB V V' U1 T W' ts := by
  obtain ⟨⟨_, h70⟩, _, _, h6⟩ := po_15 b s.2.2.2.2.1.2 (Or.inr tt)
  have h76 := (h6 tt).2
  have s7 := (tle_70 t).trans h70
  have cc : Xi V' 904 70 = 15 ∧ Xi V' 904 76 ≠ 0 := ⟨h70, by omega⟩
  have aq := akq_15a (tle_a t 0 (akp_15a cc (ak_15a t.2.2.1 (snt_pro s) (rps_i b) h70 cc.2))) cc
  have h142 : Xi T 904 142 = 1 := by obtain ⟨P, _, _, r⟩ := aq.1; exact r.2.2.2.2.2
  have c2 : (Xi T 904 70 = 15 ∨ Xi T 904 70 = 16) ∧ Xi T 904 142 = 1 := ⟨Or.inl s7, h142⟩
  have pp : Xi T 904 106 = 0 → DKP T f := fun q => dkp_15a c2 (dk_15a (rtv_i t q).1 (rtv_i t q).2 c2.1 h142)
  have dd : Xi T 904 106 = 0 → QX_mo_does_15a T W' f ∧ GR W' T := fun q => ⟨dkq_15a (tle_d t q (pp q)).1 c2, (tle_d t q (pp q)).2⟩
  refine ⟨sa_15u s b tt zf tc.1 tc.2 aq.1 aq.2.1 aq.2.2 (fun q => ⟨(dd q).1.1, (dd q).1.2.1, (dd q).1.2.2, (dd q).2⟩), fun q r => vg_15a (dd q).1 (rtv_i t q).1 r, fun _ => Or.inl (bkg_k (tc.2.kep rfl))⟩
/-- both ask whether values are told -/
theorem val_c (s : SNT V V' f m n x) (b : BEX V V' f m x) : (sn2 V = -1 ∧ tv5 V (bA (ty7 V) 0) (re7 (ty7 V) (bA (ty7 V) 0)) ≠ -1) ↔ (Xi V' 904 72 = 1 ∧ 1 < r2R V' (Xi V' 904 71) 2 3) := by
  have sr := scx_s s.2.1 s.1.1.1
  obtain ⟨k0, s1, s2⟩ := po_s b sr
  have l72 := b.2.2.2.2.1.2.2.2
  have k1 := k0
  obtain ⟨a0, a1, a2, a3, a4, a5⟩ := k1
  have mn := sr.1 _ _ a0 a2 a5
  rw [← a3, ← a4] at mn
  have h15 : 0 ≤ Xi V' 904 15 := by have := s.1.1.1.1.1; omega
  have tm := tm_r2 (r := Xi V' 904 71) mn s.1.1.1.2.2.2.1 h15
  unfold tv5
  rw [tm]
  constructor
  · rintro ⟨p, q⟩
    refine ⟨?_, ?_⟩
    · by_cases y : 1 < Xi V' 904 72
      · exact absurd p (s1 y).1
      · omega
    · by_cases y : 1 < r2R V' (Xi V' 904 71) 2 3
      · exact y
      · rw [if_neg y] at q; exact absurd rfl q
  · rintro ⟨p, q⟩
    refine ⟨s2 (by omega), ?_⟩
    rw [if_pos q]
    omega
theorem raw_142 {g : List rec} {P T : sS} (h : RAW g P T) : Xi T 904 142 = 2 := by
  obtain ⟨A, x1, _, ⟨a2, a8⟩, _, _, k, r⟩ := h
  rw [(av_c a8 _ T k r).1.x 904 142 rfl]
  exact a2
theorem so_15v (t : TLE V V' T W' ts f n) (s : SNT V V' f m n x) (b : BEX V V' f m x) (hd : ty7 V (Xi V 876 7 - 1) = 103) (kc : kr7 (ty7 V) (Xi V' 904 69).toNat = nf7 (ty7 V) (Xi V 876 7 - 1)) (tt : ty7 V (Xi V 890 3 + 1) = 100) (w : ty7 V (re7 (ty7 V) (Xi V 890 3 + 1)) ≠ 7) (h70 : Xi V' 904 70 = 15) (vc : Xi V' 904 72 = 1 ∧ 1 < r2R V' (Xi V' 904 71) 2 3) (zf : z = 0 → Xi U1 876 8 ≠ 0) (tc : (TVL V U1 z) ∧ FR md_re_tellValues__p V U1) : STB V V' U1 T W' ts := by
  have no := b.2.2.2.2.2.2.2.2.1 (Or.inl h70) tt
  have s7 := (tle_70 t).trans h70
  have cc : Xi V' 904 70 = 15 ∧ Xi V' 904 76 = 0 ∧ (Xi V' 904 72 = 1 ∧ 1 < r2R V' (Xi V' 904 71) 2 3 ∧ Xi V' 904 75 = 0) := ⟨h70, no.2, vc.1, vc.2, no.1⟩
  have aq := akq_15b (tle_a t 0 (akp_15b cc (ak_15b t.2.2.1 (rps_i b) h70 no.2 cc.2.2))) cc
  have h142 : Xi T 904 142 = 2 := by obtain ⟨P, _, _, r⟩ := aq.1; exact raw_142 r
  have c2 : (Xi T 904 70 = 15 ∨ Xi T 904 70 = 16) ∧ Xi T 904 142 = 2 := ⟨Or.inl s7, h142⟩
  have ct := s.1.1.2.2.1.2.2.2.2.1
  have c30 : Xi T 904 30 ≤ 48 := by rw [t.2.2.2.2.1.2.1.x 904 30 rfl, ← ct.1]; exact ct.2.2
  have pp : Xi T 904 106 = 0 → DKP T f := fun q => dkp_15b c2 (dk_15b (rtv_i t q).1 c30 c2.1 h142)
  have dd : Xi T 904 106 = 0 → QX_mo_does_15b T W' f ∧ GR W' T := fun q => ⟨dkq_15b (tle_d t q (pp q)).1 c2, (tle_d t q (pp q)).2⟩
  exact ⟨sa_15v s b hd kc tt w zf tc.1 tc.2 aq.1 rfl rfl aq.2.2 rfl rfl rfl rfl (fun q => ⟨(dd q).1.1, (dd q).1.2.2, (dd q).2⟩), fun q r => vg_15b (dd q).1 (rtv_i t q).1 r, fun _ => Or.inl (bkg_k (tc.2.kep rfl))⟩
theorem so_16 (t : TLE V V' T W' ts f n) (s : SNT V V' f m n x) (b : BEX V V' f m x) (hd : ty7 V (Xi V 876 7 - 1) = 103) (kc : kr7 (ty7 V) (Xi V' 904 69).toNat = nf7 (ty7 V) (Xi V 876 7 - 1)) (tt : ty7 V (Xi V 890 3 + 1) = 100) (w : ty7 V (re7 (ty7 V) (Xi V 890 3 + 1)) ≠ 7) (h70 : Xi V' 904 70 = 16) (zf : z = 0 → Xi U1 876 8 ≠ 0) (tc : (TVL V U1 z) ∧ FR md_re_tellValues__p V U1) : STB V V' U1 T W' ts := by
  have no := b.2.2.2.2.2.2.2.2.1 (Or.inr h70) tt
  have s7 := (tle_70 t).trans h70
  have aq := akq_16 (tle_a t 0 (akp_16 h70 (ak_16 t.2.2.1 no.2 h70))) h70
  have h142 : Xi T 904 142 = 2 := by obtain ⟨P, _, _, r⟩ := aq.1; exact raw_142 r
  have c2 : (Xi T 904 70 = 15 ∨ Xi T 904 70 = 16) ∧ Xi T 904 142 = 2 := ⟨Or.inr s7, h142⟩
  have ct := s.1.1.2.2.1.2.2.2.2.1
  have c30 : Xi T 904 30 ≤ 48 := by rw [t.2.2.2.2.1.2.1.x 904 30 rfl, ← ct.1]; exact ct.2.2
  have pp : Xi T 904 106 = 0 → DKP T f := fun q => dkp_15b c2 (dk_15b (rtv_i t q).1 c30 c2.1 h142)
  have dd : Xi T 904 106 = 0 → QX_mo_does_15b T W' f ∧ GR W' T := fun q => ⟨dkq_15b (tle_d t q (pp q)).1 c2, (tle_d t q (pp q)).2⟩
  exact ⟨sa_15v s b hd kc tt w zf tc.1 tc.2 aq.1 rfl rfl aq.2.2 rfl rfl rfl rfl (fun q => ⟨(dd q).1.1, (dd q).1.2.2, (dd q).2⟩), fun q r => vg_15b (dd q).1 (rtv_i t q).1 r, fun _ => Or.inl (bkg_k (tc.2.kep rfl))⟩
/-- a description: the objects are enough -/
theorem rax_3 {P T : sS} (r : RAX P T) (h : Xi T 904 142 = 3) (q : (NT3 T).1 = 0) : LOQ P (Xi P 904 71) (Xi P 904 72).toNat := by
  obtain ⟨r1, r2, r3, r4⟩ := r
  by_cases d : 0 < rd5 P
  · by_cases a : vA5 P
    · have := (r2 d a).1; omega
    · obtain ⟨_, A, B, nn, ⟨_, FA, _⟩, ro, nt, _⟩ := r1 d a
      by_cases w : 2 ≤ rd5 P
      · rw [if_pos w] at nt
        exfalso
        rw [nt] at q
        unfold ntF at q
        split at q
        · exact absurd (show (7 : Int) = 0 from q) (by decide)
        · next u => exact u (Or.inl q)
      · rw [if_neg w] at nt
        rw [nt] at q
        have l := loq_n _ ro.2.1 q
        have s1 : SMR P (uI A 904 142 (Int32.ofInt 3)) := SMR_w (SMR_FR FA rfl rfl) rfl (by omega) (by omega)
        have e19 : Xi (uI A 904 142 (Int32.ofInt 3)) 904 19 = Xi P 904 19 := by rw [Xi_ne (by omega)]; exact FA.x 904 19 rfl
        exact (LOQ_sm s1 e19).1 l
  · by_cases a : vA5 P
    · have := (r4 d a).1; omega
    · have := (r3 d a).1; omega
theorem rax_4 {P T : sS} (r : RAX P T) : Xi T 904 142 = 3 ∨ Xi T 904 142 = 4 := by
  obtain ⟨r1, r2, r3, r4⟩ := r
  by_cases d : 0 < rd5 P
  · by_cases a : vA5 P
    · exact Or.inr (r2 d a).1
    · exact Or.inl (r1 d a).1
  · by_cases a : vA5 P
    · exact Or.inr (r4 d a).1
    · exact Or.inr (r3 d a).1
theorem so_15p (t : TLE V V' T W' ts f n) (s : SNT V V' f m n x) (b : BEX V V' f m x) (h70 : Xi V' 904 70 = 15) (tt : ty7 V (Xi V 890 3 + 1) = 6 ∨ (ty7 V (Xi V 890 3 + 1) = 100 ∧ ty7 V (re7 (ty7 V) (Xi V 890 3 + 1)) ≠ 7)) (nv : ¬ (ty7 V (Xi V 890 3 + 1) ≠ 6 ∧ Xi V' 904 72 = 1 ∧ 1 < r2R V' (Xi V' 904 71) 2 3)) (w11 : Xi V 891 11 = 0) (hz : z = 0 ∨ z = 1) (zf : z = 0 → Xi U1 876 8 ≠ 0) (tc : (TPN md_me_countReadings__p md_me_readAdjective__p V U1 z) ∧ FR md_re_tellPlain__p V U1) : STB V V' U1 T W' ts := by
  have s7 := (tle_70 t).trans h70
  have h77 : 0 ≤ Xi V' 904 77 ∧ Xi V' 904 77 ≤ 1 := t.2.2.1.1.c 904 77
  have h75 : Xi V' 904 76 = 0 ∧ (ty7 V (Xi V 890 3 + 1) = 6 → Xi V' 904 75 = 1) := by
    rcases tt with tt | ⟨tt, w⟩
    · obtain ⟨_, _, h6, _⟩ := po_15 b s.2.2.2.2.1.2 (Or.inl tt)
      exact ⟨(h6 tt).2, fun _ => (h6 tt).1⟩
    · exact ⟨(b.2.2.2.2.2.2.2.2.1 (Or.inl h70) tt).2, fun q => by omega⟩
  have cc : Xi V' 904 70 = 15 ∧ Xi V' 904 76 = 0 ∧ ¬ (Xi V' 904 72 = 1 ∧ 1 < r2R V' (Xi V' 904 71) 2 3 ∧ Xi V' 904 75 = 0) := by
    refine ⟨h70, h75.1, fun y => nv ⟨fun q => ?_, y.1, y.2.1⟩⟩
    have := h75.2 q
    have := y.2.2
    omega
  have aq := akq_15c (tle_a t 0 (akp_15c cc (ak_15c t.2.2.1 (snt_pro s) h70 h75.1 cc.2.2))) cc
  have h142 : Xi T 904 142 = 3 ∨ Xi T 904 142 = 4 := by obtain ⟨P, _, _, r⟩ := aq.1; exact rax_4 r
  rcases h142 with h3 | h4
  · have c2 : (Xi T 904 70 = 15 ∨ Xi T 904 70 = 16) ∧ Xi T 904 142 = 3 := ⟨Or.inl s7, h3⟩
    have lq : Xi T 904 106 = 0 → LOQ V' (Xi V' 904 71) (Xi V' 904 72).toNat := fun q => by
      obtain ⟨P, FP, _, r⟩ := aq.1
      have l := rax_3 r h3 q
      rw [FP.x 904 71 rfl, FP.x 904 72 rfl] at l
      exact (LOQ_sm (SMR_FR FP rfl rfl) (FP.x 904 19 rfl)).1 l
    have pp : Xi T 904 106 = 0 → DKP T f := fun q => dkp_15c c2 (dk_15c (rtv_i t q).1 (rtv_i t q).2 (tle_loq t (lq q)) c2.1 h3)
    have dd : Xi T 904 106 = 0 → QX_mo_does_15c T W' f ∧ GR W' T := fun q => ⟨dkq_15c (tle_d t q (pp q)).1 c2, (tle_d t q (pp q)).2⟩
    refine ⟨sa_15p s b h70 (by omega) tt w11 hz zf tc.1 tc.2 aq.1 aq.2.2 (fun q => ⟨fun _ => (dd q).1.1, fun y => by omega, (dd q).1.2.2, (dd q).2⟩) rfl rfl, fun q r => vg_15c (dd q).1 (rtv_i t q).1 r, fun _ => Or.inl (bkg_k (tc.2.kep rfl))⟩
  · have c2 : (Xi T 904 70 = 15 ∨ Xi T 904 70 = 16) ∧ Xi T 904 142 = 4 := ⟨Or.inl s7, h4⟩
    have pp : Xi T 904 106 = 0 → DKP T f := fun q => dkp_15d c2 (dk_15d (rtv_i t q).1 (rtv_i t q).2 c2.1 h4)
    have dd : Xi T 904 106 = 0 → QX_mo_does_15d T W' f ∧ GR W' T := fun q => ⟨dkq_15d (tle_d t q (pp q)).1 c2, (tle_d t q (pp q)).2⟩
    refine ⟨sa_15p s b h70 (by omega) tt w11 hz zf tc.1 tc.2 aq.1 aq.2.2 (fun q => ⟨fun y => by omega, fun _ => (dd q).1.1, (dd q).1.2.2, (dd q).2⟩) rfl rfl, fun q r => vg_15d (dd q).1 (rtv_i t q).1 r, fun _ => Or.inl (bkg_k (tc.2.kep rfl))⟩
end
end
section
/-! one sentence of both, whatever it is -/
theorem cks_k {W V : sS} {T : Int → Int} (e2 : Xi V 890 2 = Xi W 890 2) (e3 : Xi V 890 3 = Xi W 890 3) (h : CKS W T) : CKS V T := by
  unfold CKS OTS BES at *
  rw [e2, e3]
  exact h
theorem st_tle {U V W X V' V1 T W' : sS} {ts f n : Nat} {e a z a1 : Int} (x : TXB U X ts n e) (ht : tp ts) (hf : f < n) (hp : Xi X 908 f = a) (a0 : RLA U X) (ob : OVB X) (rp : RP7 n X) (c : CS1 ts U a V W z a1 1) (sn : SNB n X V') (ok : Xi V' 904 65 = 0) (F1 : FR [(891, 892, 9, 10), (891, 892, 11, 12)] W V1) (h1 : HI V1) (n9 : Xi V1 891 9 = 0) (as : ASB n V' T f) (ds : Xi T 904 106 = 0 → DSB n T W' f) : TLE V1 V' T W' ts f n ∧ ty7 V1 = ty7 V ∧ (Xi V1 876 7 = Xi V 876 7 ∧ Xi V1 890 2 = Xi W 890 2 ∧ Xi V1 890 3 = Xi W 890 3) := by
  obtain ⟨cev, enw, x1, ty, e7, e2, e3⟩ := st_env x ht hf hp a0 c sn F1 h1 n9
  obtain ⟨c0, _, hW, F, _⟩ := c
  obtain ⟨x', k, _, r1⟩ := st_pre x ht hf hp c0
  have Fs := sn.2.1
  have m : LXM V' ∧ ABV V' := ⟨LXM_FR Fs rfl rp.2.2.2.1.2.2.1, ABV_FR Fs rfl rp.2.2.2.1.2.2.2.2.1⟩
  have kV : KEP [(877, 880)] [(876, 7)] V V1 := KEP.tr (F.kep rfl) (F1.kep rfl)
  have kX : KEP [(906, 907), (911, 912)] [] X V' := Fs.kep rfl
  refine ⟨⟨cev, enw, ⟨sn.1, m, ⟨TK_FR Fs rfl rp.2.1, TXK_FR Fs rfl rp.2.2.1⟩, ⟨sn.2.2.2.2.1, sn.2.2.2.2.2.1 ok, sn.2.2.2.2.2.2.1 ok⟩, sn.2.2.2.2.2.2.2.1 ok⟩, ovb_k (Fs.kep rfl) ob, as, ds, ?_, ?_, fun j hj q => ?_⟩, ty, e7, e2, e3⟩
  · have w : Xj V' 911 = Xj X 911 := funext fun j => kX.j 911 rfl j
    rw [w]; exact x1.2.1
  · have w : Xi V' 906 = Xi X 906 := funext fun j => kX.x 906 rfl j
    rw [w, x1.2.2.2.1]; exact x1.2.2.1
  · rw [kV.x 877 rfl] at q
    rw [kV.j 879 rfl]
    exact (k.1 j (by omega)).2.2 q
/-- the runs of a sentence without tests -/
theorem st_snt {V V1 X V' T W' : sS} {ts f n : Nat} {x : Int} (t : TLE V1 V' T W' ts f n) (ty : ty7 V1 = ty7 V) (e7 : Xi V1 876 7 = Xi V 876 7) (ck : chk (ty7 V) = (1, x)) (sn : SNB n X V') (ok : Xi V' 904 65 = 0) (tr : tR X f (Xi V 876 7 - 1).toNat = ty7 V) (sp : SPO X V' f (Xi V 876 7 - 1).toNat) (h0 : ty7 V 0 ≠ 102) (h93 : Xi V' 904 93 = 0) (h20 : Xi V' 904 70 ≠ 20) : SNT V1 V' f (Xi V 876 7 - 1).toNat n x := by
  have c := t.1
  have e := t.2.1
  have rt : tR V' f (Xi V 876 7 - 1).toNat = ty7 V := by
    rw [← tr]
    funext i
    unfold tR
    rw [sn.2.1.x 907 _ rfl]
  have kr := sp.2.2.2.1 (by rw [tr]; exact h0) ok h20 h93
  refine ⟨c.1, c.2.2.2.1, ⟨rt.trans ty.symm, by have := c.2.2.2.2.1; omega, kr⟩, by rw [ty]; exact ck, ⟨t.2.2.1.2.2.2.1.1, t.2.2.1.2.2.2.1.2.1⟩, ⟨c.2.2.2.2.2.2, c.2.2.2.2.2.1⟩, e.2.2.2.2.2⟩
theorem st_93 {X V' : sS} {f m : Nat} {T : Int → Int} (tr : tR X f m = T) (sp : SPO X V' f m) (h : T 0 ≠ 102 ∧ T 0 ≠ 35 ∧ T 0 ≠ 38 ∧ T 0 ≠ 40 ∧ T 0 ≠ 39 ∧ T 0 ≠ 41) : Xi V' 904 93 = 0 := by
  have t := sp.2.2.2.2.2.2.2.1
  rw [tr] at t
  exact t h.1 h.2.1 h.2.2.1 h.2.2.2.2.1 h.2.2.2.1 h.2.2.2.2.2
/-- sentences of 9 to 20 -/
theorem st_t9 {V V1 X V' T W' U1 : sS} {ts f n : Nat} {x z : Int} (t : TLE V1 V' T W' ts f n) (ty : ty7 V1 = ty7 V) (e7 : Xi V1 876 7 = Xi V 876 7) (ck : chk (ty7 V) = (1, x)) (so : CKS V1 (ty7 V)) (s9 : 9 ≤ Xi V1 890 2) (w11 : Xi V1 891 11 = 0) (sn : SNB n X V') (ok : Xi V' 904 65 = 0) (e8 : Xi V' 904 8 = f + Xi V 876 7) (tr : tR X f (Xi V 876 7 - 1).toNat = ty7 V) (sp : SPO X V' f (Xi V 876 7 - 1).toNat) (dot : ty7 V (Xi V 876 7 - 1) = 103) (nd : ∀ i : Int, 0 ≤ i → i < Xi V 876 7 - 1 → ty7 V i ≠ 103) (hz : z = 0 ∨ z = 1) (zf : z = 0 → Xi U1 876 8 ≠ 0) (tc : TSP V1 → TSV V1 U1 z) : STB V1 V' U1 T W' ts := by
  have c := t.1
  have tv := tc (tsp_all c (by rw [ty]; exact ck) (by rw [ty]; exact so) s9 w11)
  obtain ⟨g, o⟩ := cks_9 so s9
  obtain ⟨tel, be, s17, s18, s19, s20⟩ := o.2.2 g.2.1 g.2.2
  have h0 : ty7 V 0 ≠ 102 := g.1.1
  have h93 := st_93 tr sp ⟨h0, g.1.2.2.1, g.1.2.2.2.1, g.1.2.2.2.2.1, g.1.2.2.2.2.2.1, g.1.2.2.2.2.2.2⟩
  have cm : CMR V' (ty7 V) f := by
    have u := sp.2.2.2.2.1
    rw [tr] at u
    exact u h0 ok ⟨⟨g.1.2.1, g.1.2.2.1, g.1.2.2.2.1, g.1.2.2.2.2.1, g.1.2.2.2.2.2.1, g.1.2.2.2.2.2.2⟩, g.2.1, g.2.2⟩
  have snt : Xi V' 904 70 ≠ 20 → SNT V1 V' f (Xi V 876 7 - 1).toNat n x := fun q => st_snt t ty e7 ck sn ok tr sp h0 h93 q
  have kc : Xi V' 904 70 ≠ 20 → kr7 (ty7 V1) (Xi V' 904 69).toNat = nf7 (ty7 V1) (Xi V1 876 7 - 1) := fun q => by
    have u := sp.2.2.2.2.2.2.2.2
    rw [tr] at u
    have u := u h0 ok q h93
    rw [e8, show (f : Int) + Xi V 876 7 - 1 - f = Xi V 876 7 - 1 by omega] at u
    rw [ty, e7]
    exact u
  rw [← ty] at g o tel be s17 s18 s19 s20 cm so
  have dot1 : ty7 V1 (Xi V1 876 7 - 1) = 103 := by rw [ty, e7]; exact dot
  by_cases B : kt7 (ty7 V1) = 4 ∨ kt7 (ty7 V1) = 5
  · by_cases nb : bp7 (ty7 V1) 0
    · have cr := cm.2.1 B nb
      exact so_9 t (snt (by rw [cr.1]; decide)) g B nb tel (be B) cr zf (tv.1 ((be B).1 nb))
    · have cr := cm.1 B nb
      have h70 : 10 ≤ Xi V' 904 70 ∧ Xi V' 904 70 ≤ 16 := by
        obtain ⟨_, a, _, ⟨r10, r11, r12, r15, rf, r13⟩, _⟩ := cr
        generalize ty7 V1 = Q at *
        by_cases c10 : Q a = 0 ∧ Q (a + 1) = 18
        · have := (r10 c10).1; omega
        by_cases c11 : Q a = 1 ∧ Q (a + 1) = 27
        · have := (r11 c11).1; omega
        by_cases c12 : art7 (Q a)
        · have := (r12 c12 c10 c11).1; omega
        by_cases c15 : Q a = 6 ∨ Q a = 32
        · have := (r15 c15).1; omega
        by_cases cf : Q a = 100
        · obtain ⟨_, h2, h3, h4⟩ := rf cf
          by_cases u : Q (re7 Q a) = 7
          · have := (h2 u).1; omega
          · by_cases w : Q (re7 Q a) = 16 ∨ Q (re7 Q a) = 104
            · have := h3 w; omega
            · have := h4 u (by omega) (by omega); omega
        · have := (r13 cf (by omega) (by omega) c12).1; omega
      have s := snt (by omega)
      have lq := rpv_10 t.2.2.1 h70
      have b : BEX V1 V' f (Xi V 876 7 - 1).toNat x := bex_i s.2.2.1 s.2.2.2.1 g.1 g.2.1 g.2.2 B nb tel (be B) cr s.2.2.2.2.1.1 lq.2 lq.1
      have bs := b.2.2.2.2.2.2.2.2.2.2
      have bv := bes_v (T := ty7 V1) (a := Xi V1 890 3 + 1)
      rw [← bs] at bv
      obtain ⟨b10, b11, b12, b13, b15, bf⟩ := bv
      have ckT := b.2.2.1
      by_cases c10 : ty7 V1 (Xi V1 890 3 + 1) = 0 ∧ ty7 V1 (Xi V1 890 3 + 1 + 1) = 18
      · exact so_10 t s b c10 hz zf (tv.2.1 (b10 c10))
      by_cases c11 : ty7 V1 (Xi V1 890 3 + 1) = 1 ∧ ty7 V1 (Xi V1 890 3 + 1 + 1) = 27
      · exact so_11 t s b c11 zf (tv.2.2.1 (b11 c11))
      by_cases c12 : art7 (ty7 V1 (Xi V1 890 3 + 1))
      · exact so_12 t s b c10 c11 c12 hz zf (tv.2.2.2.1 (Or.inl (b12 c10 c11 c12)))
      by_cases c13 : pl7 (ty7 V1 (Xi V1 890 3 + 1))
      · exact so_13 t s b c12 c13 hz zf (tv.2.2.2.1 (Or.inr (b13 c12 c13)))
      obtain ⟨q1, q2⟩ := ckT_R c12 c13 ckT
      by_cases c32 : ty7 V1 (Xi V1 890 3 + 1) = 32
      · exact so_15u t s b c32 zf ((tv.2.2.2.2.2.1 (b15 (Or.inr c32))).1 c32)
      by_cases c6 : ty7 V1 (Xi V1 890 3 + 1) = 6
      · have h15 := (po_15 b s.2.2.2.2.1.2 (Or.inl c6)).1.2
        refine so_15p t s b h15 (Or.inl c6) (fun y => y.1 c6) w11 hz zf (((tv.2.2.2.2.2.1 (b15 (Or.inl c6))).2 c32).2 (fun y => y.1 c6))
      have cf := (q2 c6 c32).1
      obtain ⟨f7, f16, f15⟩ := bf cf
      by_cases c7 : ty7 V1 (re7 (ty7 V1) (Xi V1 890 3 + 1)) = 7
      · exact so_14 t s b cf c7 zf (tv.2.2.2.2.1 (f7 c7))
      by_cases c16 : ty7 V1 (re7 (ty7 V1) (Xi V1 890 3 + 1)) = 16 ∨ ty7 V1 (re7 (ty7 V1) (Xi V1 890 3 + 1)) = 104
      · have u := f16 c16
        have h16 : Xi V' 904 70 = 16 := by
          rcases (po_16 b s.2.2.2.2.1.2 cf c7).1 with y | y
          · omega
          · exact y.2
        exact so_16 t s b dot1 (kc (by omega)) cf c7 h16 zf (tv.2.2.2.2.2.2.1 u)
      · have u := f15 c7 (by omega) (by omega)
        have h15 : Xi V' 904 70 = 15 := by
          rcases (po_16 b s.2.2.2.2.1.2 cf c7).1 with y | y
          · exact y.2.1
          · omega
        have tv15 := (tv.2.2.2.2.2.1 u).2 c32
        have vc := val_c s b
        by_cases v : sn2 V1 = -1 ∧ tv5 V1 (bA (ty7 V1) 0) (re7 (ty7 V1) (bA (ty7 V1) 0)) ≠ -1
        · exact so_15v t s b dot1 (kc (by omega)) cf c7 h15 (vc.1 v) zf (tv15.1 ⟨c6, v⟩)
        · exact so_15p t s b h15 (Or.inr ⟨cf, c7⟩) (fun y => v (vc.2 y.2)) w11 hz zf (tv15.2 (fun y => v y.2))
  obtain ⟨r17, r18, r19, r20⟩ := cm.2.2 B
  by_cases H : kt7 (ty7 V1) = 12
  · exact so_17 t (snt (by rw [r17 H]; decide)) g H (r17 H) tel zf (tv.2.2.2.2.2.2.2.1 (s17 H))
  by_cases C : kt7 (ty7 V1) = 13
  · exact so_18 t (snt (by rw [r18 C]; decide)) g C (r18 C) tel zf (tv.2.2.2.2.2.2.2.2.1 (s18 C))
  by_cases R : kt7 (ty7 V1) = 21
  · have on : ONR V' (ty7 V1) := by
      have u := sp.2.2.2.2.2.2.1
      rw [tr] at u
      rw [ty] at R g ⊢
      exact u h0 ok ⟨⟨g.1.2.1, g.1.2.2.1, g.1.2.2.2.1, g.1.2.2.2.2.1, g.1.2.2.2.2.2.1, g.1.2.2.2.2.2.2⟩, g.2.1, g.2.2⟩ R
    exact so_19 t (snt (by rw [r19 R]; decide)) g R (r19 R) tel on zf (tv.2.2.2.2.2.2.2.2.2.1 (s19 R))
  · refine so_20 t (r20 H C R) dot1 (fun i i0 i1 => ?_) zf (tv.2.2.2.2.2.2.2.2.2.2 (s20 B H C R))
    rw [ty]
    exact nd i i0 (by omega)

/-! one sentence of both: those that are told by how they begin -/
theorem tkr_k {X V' : sS} {n : Nat} (sn : SNB n X V') : tkR V' = tkR X := by
  funext i
  unfold tkR
  exact sn.2.1.x 907 _ rfl
theorem st_tk0 {V V1 V' T W' : sS} {ts f n : Nat} (t : TLE V1 V' T W' ts f n) (ty : ty7 V1 = ty7 V) : tkR V' f = tr7 (ty7 V 0) := by
  have h7 := t.1.2.2.2.2.1
  have u := tkx t.1.2.2.2.1 (i := 0) ⟨Int.le_refl _, by omega⟩
  rw [ty, Int.add_zero] at u
  exact u
theorem st_de {V V1 X V' T W' : sS} {ts f n : Nat} (t : TLE V1 V' T W' ts f n) (ty : ty7 V1 = ty7 V) (e7 : Xi V1 876 7 = Xi V 876 7) (sn : SNB n X V') (ok : Xi V' 904 65 = 0) (eX : Xi X 904 8 = f) (e8 : Xi V' 904 8 = f + Xi V 876 7) (t0 : ty7 V 0 = 35) : DFE (tkR V') V' 0 0 f (f + (Xi V1 876 7 - 1)) := by
  have k := st_tk0 t ty
  rw [tkr_k sn, t0] at k
  have u := sn.2.2.2.2.2.2.2.2.2.2.1
  rw [eX] at u
  obtain ⟨e, d, _, h8⟩ := u k ok
  rw [show (f : Int) + (Xi V1 876 7 - 1) = e by omega, tkr_k sn]
  exact d
theorem st_ru {V V1 X V' T W' : sS} {ts f n : Nat} {s : Int} (t : TLE V1 V' T W' ts f n) (ty : ty7 V1 = ty7 V) (e7 : Xi V1 876 7 = Xi V 876 7) (sn : SNB n X V') (ok : Xi V' 904 65 = 0) (eX : Xi X 904 8 = f) (e8 : Xi V' 904 8 = f + Xi V 876 7) (t0 : (ty7 V 0 = 38 ∧ s = 3) ∨ (ty7 V 0 = 40 ∧ s = 4) ∨ (ty7 V 0 = 39 ∧ s = 5) ∨ (ty7 V 0 = 41 ∧ s = 6)) : RUE (tkR V') V' 0 0 0 s f (f + (Xi V1 876 7 - 1)) := by
  have k := st_tk0 t ty
  rw [tkr_k sn] at k
  have u := sn.2.2.2.2.2.2.2.2.2.2.2
  rw [eX] at u
  have ks : (138 ≤ tkR X f ∧ tkR X f ≤ 141) ∧ sKR (tkR X f) = s := by
    rw [k]
    rcases t0 with ⟨a, b⟩ | ⟨a, b⟩ | ⟨a, b⟩ | ⟨a, b⟩ <;> rw [a, b] <;> decide
  obtain ⟨e, d, _, h8⟩ := u ks.1 ok
  rw [ks.2] at d
  rw [show (f : Int) + (Xi V1 876 7 - 1) = e by omega, tkr_k sn]
  exact d
theorem st_t0 {V V1 X V' T W' U1 : sS} {ts f n : Nat} {x z : Int} (t : TLE V1 V' T W' ts f n) (ty : ty7 V1 = ty7 V) (e7 : Xi V1 876 7 = Xi V 876 7) (ck : chk (ty7 V) = (1, x)) (so : CKS V1 (ty7 V)) (s9 : Xi V1 890 2 < 9) (sn : SNB n X V') (ok : Xi V' 904 65 = 0) (eX : Xi X 904 8 = f) (e8 : Xi V' 904 8 = f + Xi V 876 7) (hN : ty7 V 0 ≠ 102 → (VLR X f (Xi V 876 7 - 1).toNat ∧ tR X f (Xi V 876 7 - 1).toNat = ty7 V ∧ SPO X V' f (Xi V 876 7 - 1).toNat) ∧ ty7 V (Xi V 876 7 - 1) = 103 ∧ ∀ i : Int, 0 ≤ i → i < Xi V 876 7 - 1 → ty7 V i ≠ 103) (h102 : ty7 V 0 = 102 → Xi V' 904 70 = 0 ∧ Xi V' 904 81 = f) (zf : z = 0 → Xi U1 876 8 ≠ 0) (tc : BGP V1 ts → BGV V1 U1 ts z) : STB V1 V' U1 T W' ts := by
  have c := t.1
  have e := t.2.1
  have ck1 : chk (ty7 V1) = (1, x) := by rw [ty]; exact ck
  have so1 : CKS V1 (ty7 V1) := by rw [ty]; exact so
  have dot1 : ty7 V 0 ≠ 102 → ty7 V1 (Xi V1 876 7 - 1) = 103 := fun q => by rw [ty, e7]; exact (hN q).2.1
  have sor : ty7 V 0 ≠ 102 → SOR V' (ty7 V) := fun q => by
    have u := (hN q).1.2.2.2.2.1
    rw [(hN q).1.2.1] at u
    exact u q
  have p2 : ty7 V1 0 = 35 → BP2 V1 := fun q => by
    have q' : ty7 V 0 = 35 := by rw [← ty]; exact q
    exact bp2_i c e q (st_de t ty e7 sn ok eX e8 q') (dot1 (by omega))
  have p3 : (ty7 V1 0 = 38 ∨ ty7 V1 0 = 40 ∨ ty7 V1 0 = 39 ∨ ty7 V1 0 = 41) → BP3 V1 ts := fun q => by
    have cl := cks_lt so1 s9 (fun o g => ots_9 c ck1 o g)
    have q2 : (ty7 V 0 = 38 ∧ Xi V1 890 2 = 3) ∨ (ty7 V 0 = 40 ∧ Xi V1 890 2 = 4) ∨ (ty7 V 0 = 39 ∧ Xi V1 890 2 = 5) ∨ (ty7 V 0 = 41 ∧ Xi V1 890 2 = 6) := by
      rw [← ty]
      omega
    exact bp3_i c e (s := Xi V1 890 2) (by omega) rfl (by omega) (st_ru t ty e7 sn ok eX e8 q2) (dot1 (by omega))
  have bv := tc (bgp_all c ck1 so1 s9 p2 p3)
  have snt : ty7 V 0 ≠ 102 → (ty7 V 0 = 33 ∨ ty7 V 0 = 2) → Xi V' 904 70 ≠ 20 → SNT V1 V' f (Xi V 876 7 - 1).toNat n x := fun a b q => st_snt t ty e7 ck sn ok (hN a).1.2.1 (hN a).1.2.2 a (st_93 (hN a).1.2.1 (hN a).1.2.2 (by omega)) q
  rcases cks_lt so1 s9 (fun o g => ots_9 c ck1 o g) with ⟨a, q⟩ | ⟨a, q⟩ | ⟨a, q⟩ | h | ⟨a, q⟩ | ⟨a, q⟩
  · have a' : ty7 V 0 = 102 := by rw [← ty]; exact a
    exact so_0 t (h102 a').1 a (h102 a').2 zf (bv.1 q)
  · have a' : ty7 V 0 = 33 := by rw [← ty]; exact a
    have h70 := (sor (by omega)).1 a'
    have e81 : Xi V' 904 81 = f + 1 := by
      have u := (hN (by omega)).1.2.2.2.2.2.2.2.1
      rw [(hN (by omega)).1.2.1] at u
      exact u a' ok
    exact so_1 t (snt (by omega) (Or.inl a') (by omega)) a h70 e81 zf (bv.2.1 q)
  · have a' : ty7 V 0 = 35 := by rw [← ty]; exact a
    have h70 := (sor (by omega)).2.1 a'
    exact so_2 t h70 (st_de t ty e7 sn ok eX e8 a') (dot1 (by omega)) zf (bv.2.2.1 q)
  · have h' : (ty7 V 0 = 38 ∧ Xi V1 890 2 = 3) ∨ (ty7 V 0 = 40 ∧ Xi V1 890 2 = 4) ∨ (ty7 V 0 = 39 ∧ Xi V1 890 2 = 5) ∨ (ty7 V 0 = 41 ∧ Xi V1 890 2 = 6) := by rw [← ty]; exact h
    have so' := sor (by omega)
    have h70 : Xi V' 904 70 = Xi V1 890 2 := by
      rcases h' with ⟨y, w⟩ | ⟨y, w⟩ | ⟨y, w⟩ | ⟨y, w⟩
      · rw [so'.2.2.1 y, w]
      · rw [so'.2.2.2.1 y, w]
      · rw [so'.2.2.2.2.1 y, w]
      · rw [so'.2.2.2.2.2.1 y, w]
    exact so_3 t (s := Xi V1 890 2) (by omega) rfl h70 (st_ru t ty e7 sn ok eX e8 h') (dot1 (by omega)) zf (bv.2.2.2.2.2 (by omega) (by omega))
  · have a' : ty7 V 0 = 2 ∧ ty7 V 1 = 25 := by rw [← ty]; exact a
    have h70 := (sor (by omega)).2.2.2.2.2.2.1 a'.1 a'.2
    exact so_7 t (snt (by omega) (Or.inr a'.1) (by omega)) a.1 a.2 h70 zf (bv.2.2.2.1 q)
  · have a' : ty7 V 0 = 2 ∧ ty7 V 1 = 19 := by rw [← ty]; exact a
    have h70 := (sor (by omega)).2.2.2.2.2.2.2 a'.1 a'.2
    exact so_8 t (snt (by omega) (Or.inr a'.1) (by omega)) a.1 a.2 h70 zf (bv.2.2.2.2.1 q)

/-! one sentence of both: the step -/
theorem cut_k {B K : Nat → Int} {e : Int} {X Y : sS} {n : Nat} (k : KEP [(907, 911)] [] X Y) (h : CUT B K e X n) : CUT B K e Y n := by
  unfold CUT CU RM7 at *
  simp only [k.x 907 rfl, k.x 908 rfl, k.x 909 rfl, k.j 910 rfl]
  exact h
/-- both stand ahead of a sentence (or at the end); k of them are told -/
def JOK (ts n : Nat) (e : Int) (U X : sS) (a k : Int) : Prop := (Xi U 876 8 = 0 ∧ Xi X 904 62 = 0 ∧ Xi X 904 61 = k) ∧ TXB U X ts n e ∧ RLA U X ∧ OVB X ∧ ∃ f : Nat, Xi X 904 8 = f ∧ f ≤ n ∧ (f < n → Xi X 908 f = a ∧ a < e) ∧ (f = n → e ≤ a)
/-- one sentence that both have told: the states on the way -/
def cMu : List (Nat × Nat) := [(2, 24), (245, 246), (248, 876), (880, 881), (902, 904)]
def cMf : List (Nat × Nat) := [(1, 3), (20, 1), (246, 2), (246, 5), (246, 8), (876, 5)]
def cMx : List (Nat × Nat) := [(906, 907), (911, 919), (922, 925), (928, 930), (942, 943)]
def cMg : List (Nat × Nat) := [(904, 15), (904, 16), (904, 18), (904, 19), (904, 23), (904, 30), (904, 32), (904, 41), (904, 47), (904, 49)]
def STD (U U1 X S1 : sS) (ts n : Nat) (e a a1 : Int) : Prop := ∃ (V V' T W' : sS) (f : Nat), TLE V V' T W' ts f n ∧ STB V V' U1 T W' ts ∧ KEP cMu cMf U V ∧ KEP [(245, 246), (902, 904)] [(20, 1)] V U1 ∧ (KEP cMx cMg X V' ∧ KEP cMx cMg V' T) ∧ VG T W' ∧ GR W' T ∧ KEP [(906, 907), (911, 912)] [] T W' ∧ KEP cMx cMg W' S1 ∧ (f < n ∧ Xi X 908 f = a ∧ KEP [(907, 911)] [] X V') ∧ ((f : Int) + Xi V 876 7 < n → Xi X 908 ((f : Int) + Xi V 876 7).toNat = a1) ∧ ((f : Int) + Xi V 876 7 = n → e ≤ a1) ∧ (f : Int) + Xi V 876 7 ≤ n ∧ ABV S1 ∧ (NT3 T).1 = 0
theorem st_mid {U U1 X S1 : sS} {ts n : Nat} {e a a1 k : Int} (j : JOK ts n e U X a k) (ht : tp ts) (c : CST ts U a U1 a1) (r : RSS n X S1) : SMF U1 S1 ∨ ((JOK ts n e U1 S1 a1 (k + 1) ∧ a < a1) ∧ STD U U1 X S1 ts n e a a1) := by
  obtain ⟨⟨f0, g0, hk⟩, x, a0, ob, f, e8, fn, p1, p2⟩ := j
  obtain ⟨V, z, h⟩ := c
  have lt : ∀ {V : sS} {z a1 : Int}, CS0 ts U a V z a1 → f < n := fun c0 => by
    by_cases q : f < n
    · exact q
    · have u := p2 (by omega)
      have v := c0.1.2.2.2.2.2.1
      rw [x.2.2.2.1] at v
      omega
  rcases h with ⟨c0, t, w⟩ | ⟨W, c, c1, w0, wb, wt⟩
  · have hf := lt c0
    exact Or.inl (st_a x ht hf e8 (p1 hf).1 c0 t w r)
  have hf := lt c1.1
  have hp := (p1 hf).1
  have hc := c1.2.2.2.2.1
  rcases hc with hc | hc
  · subst hc
    exact Or.inl (st_g0 x ht hf e8 hp c1 (w0 rfl) r)
  subst hc
  obtain ⟨x', kk, _, r1⟩ := st_pre x ht hf hp c1.1
  have t8 := c1.2.1
  have e6 : Xi V 876 6 = Xi V 876 7 := c1.1.2.1.2.2.2.2.1.1
  rw [e6, ty7_i (by omega) (by omega)] at t8
  have hW : HI W := c1.2.2.1
  obtain ⟨rp, od, V', o, sn, r⟩ := r
  rw [e8] at o
  have od' := (odd_r x' kk r1 hf o).2 t8
  obtain ⟨⟨ck, so⟩, ⟨ok, e8'⟩, ⟨ps0, ps1, ps2⟩, hN, h102⟩ := st_g1 x ht hf e8 hp c1 sn
  rcases r with ⟨q, _⟩ | ⟨_, q, _⟩ | ⟨_, _, T, W', Y, as, wt', ds, fy, ey, es⟩
  · exact absurd od' q
  · exact absurd ok q
  rw [e8] at as ds
  -- what the class tells
  have key : ∃ V1 : sS, (STB V1 V' U1 T W' ts ∧ TLE V1 V' T W' ts f n ∧ FR [(891, 892, 9, 10), (891, 892, 11, 12)] W V1 ∧ Xi V1 876 7 = Xi V 876 7) ∧ HI U1 ∧ KEP [(880, 881), (902, 904)] [(876, 5)] W U1 ∧ KEP [(245, 246), (902, 904)] [(20, 1)] W U1 := by
    by_cases s9 : 9 ≤ Xi W 890 2
    · obtain ⟨z', F, h1, hz, _, zf, imp⟩ := wt rfl s9
      have F1 : FR [(891, 892, 9, 10), (891, 892, 11, 12)] W (uI (uI W 891 9 (Int32.ofInt 0)) 891 11 (Int32.ofInt 0)) := FR.wI (FR.wI FR.rf rfl) rfl
      have hV1 : HI (uI (uI W 891 9 (Int32.ofInt 0)) 891 11 (Int32.ofInt 0)) := HI_w (HI_w hW (by decide) (by decide)) (by decide) (by decide)
      have n9 : Xi (uI (uI W 891 9 (Int32.ofInt 0)) 891 11 (Int32.ofInt 0)) 891 9 = 0 := by rw [Xi_ne (by omega)]; exact Xi_same (by unfold rg; omega)
      have n11 : Xi (uI (uI W 891 9 (Int32.ofInt 0)) 891 11 (Int32.ofInt 0)) 891 11 = 0 := Xi_same (by unfold rg; omega)
      obtain ⟨t, ty, e7, q2, q3⟩ := st_tle x ht hf hp a0 ob rp c1 sn ok F1 hV1 n9 as ds
      have so1 := cks_k q2 q3 so
      have h0 : ty7 V 0 ≠ 102 := (cks_9 so1 (by omega)).1.1.1
      obtain ⟨⟨_, tr, sp⟩, dot, nd⟩ := hN h0
      exact ⟨_, ⟨st_t9 t ty e7 ck so1 (by omega) n11 sn ok e8' tr sp dot nd hz zf imp, t, F1, e7⟩, h1, F.kep rfl, F.kep rfl⟩
    · obtain ⟨z', F, h1, hz, _, zf, imp⟩ := wb rfl (by omega)
      have F1 : FR [(891, 892, 9, 10), (891, 892, 11, 12)] W (uI W 891 9 (Int32.ofInt 0)) := FR.wI FR.rf rfl
      have hV1 : HI (uI W 891 9 (Int32.ofInt 0)) := HI_w hW (by decide) (by decide)
      have n9 : Xi (uI W 891 9 (Int32.ofInt 0)) 891 9 = 0 := Xi_same (by unfold rg; omega)
      obtain ⟨t, ty, e7, q2, q3⟩ := st_tle x ht hf hp a0 ob rp c1 sn ok F1 hV1 n9 as ds
      exact ⟨_, ⟨st_t0 t ty e7 ck (cks_k q2 q3 so) (by omega) sn ok e8 e8' hN h102 zf imp, t, F1, e7⟩, h1, F.kep rfl, F.kep rfl⟩
  obtain ⟨V1, ⟨stb, tle, FV, e7V⟩, h1, kU, kT⟩ := key
  obtain ⟨sta, vg, _⟩ := id stb
  have eS : ∀ j : Nat, j ≠ 8 → j ≠ 61 → Xi S1 904 j = Xi Y 904 j := fun j h8 h61 => by rw [es, Xi_ne (by omega), Xi_ne (by omega)]
  rcases sta with ⟨ne, nt⟩ | ⟨s1, s2, s3, s4⟩
  · refine Or.inl ⟨ne, ?_⟩
    have w : NTB (NT3 W') (Xi U1 876 8) (Xi U1 876 9) := by
      rcases nt with nt | ⟨_, nt⟩
      · have q : Xi T 904 106 ≠ 0 := fun y => ne (nt.1.symm.trans y)
        rw [wt' q]; exact nt
      · exact nt
    have w1 : Xi W' 904 106 = Xi U1 876 8 := w.1
    have w2 : Xi W' 904 105 = Xi U1 876 9 := w.2
    obtain ⟨_, _, y1, y2⟩ := fy (by rw [w1]; exact ne)
    exact ⟨by rw [eS 62 (by decide) (by decide), y1, w1], by rw [eS 63 (by decide) (by decide), y2, w2]⟩
  · refine Or.inr ?_
    have d := ds s2
    have eY := ey s3
    subst eY
    have FS : FR [(904, 905, 8, 9), (904, 905, 61, 62)] Y S1 := by rw [es]; exact FR.wI (FR.wI FR.rf rfl) rfl
    have kX : KEP [(906, 912)] [(904, 61), (904, 62)] X Y := KEP.tr (sn.2.1.kep rfl) (KEP.tr (as.2.1.kep rfl) (d.2.1.kep rfl))
    have kS : KEP [(906, 912)] [(904, 62)] X S1 := KEP.tr (kX.le rfl (by decide)) (FS.kep rfl)
    have r61 : 0 ≤ Xi Y 904 61 ∧ Xi Y 904 61 ≤ 5001 := d.1.c 904 61
    have r8 : 0 ≤ Xi V' 904 8 ∧ Xi V' 904 8 ≤ 5010 := sn.1.c 904 8
    have e61 : Xi S1 904 61 = Xi Y 904 61 + 1 := by rw [es]; exact Xi_same (by unfold rg; omega)
    have e88 : Xi S1 904 8 = Xi V' 904 8 := by rw [es, Xi_ne (by omega)]; exact Xi_same (by unfold rg; omega)
    have kV : KEP [(880, 881), (902, 904)] [(876, 5)] U W := KEP.tr (c1.1.2.1.2.1.kep rfl) (c1.2.2.2.1.kep rfl)
    have kUU : KEP [(880, 881), (902, 904)] [(876, 5)] U U1 := KEP.tr kV kU
    have x1 : TXB U1 S1 ts n e := by
      obtain ⟨_, y1, y2, y3, y4, y5⟩ := x
      have j1 : Xj U1 880 = Xj U 880 := funext fun j => kUU.j 880 rfl j
      have j2 : Xj S1 911 = Xj X 911 := funext fun j => kS.j 911 rfl j
      have j3 : Xi U1 ts = Xi U ts := by
        funext j
        rcases ht with q | q <;> rw [q]
        · exact kUU.x 902 rfl j
        · exact kUU.x 903 rfl j
      have j4 : Xi S1 906 = Xi X 906 := funext fun j => kS.x 906 rfl j
      refine ⟨h1, by rw [j1, j2]; exact y1, by rw [j3, j4]; exact y2, by rw [kUU.f 876 5 (by decide)]; exact y3, ?_, ?_⟩
      · rw [j4, j2]
        exact cut_k (kS.le rfl (by decide)) y4
      · unfold TK at y5 ⊢
        simp only [kS.x 907 rfl, kS.x 908 rfl]
        exact y5
    have up : a < a1 := by
      by_cases q : (f : Int) + Xi V 876 7 < n
      · have u := (ps1 q).1
        have v := tk_mono x.2.2.2.2.2 ((f : Int) + Xi V 876 7).toNat f (by omega) (by omega)
        omega
      · have u := ps2 (by omega)
        have v := (p1 hf).2
        omega
    refine ⟨⟨⟨⟨s1, by rw [kS.f 904 62 (by decide)]; exact g0, by rw [e61, kX.f 904 61 (by decide), hk]⟩, x1, rla_k s4 KEP.rf (FS.kep rfl), trivial, f + (Xi V 876 7).toNat, by omega, by omega, fun q => ?_, fun q => ps2 (by omega)⟩, up⟩, ?_⟩
    · have u := ps1 (by omega)
      rw [kS.x 908 rfl, show f + (Xi V 876 7).toNat = ((f : Int) + Xi V 876 7).toNat by omega]
      exact u
    · have kUV : KEP cMu cMf U V1 := KEP.tr (c1.1.2.1.2.1.kep rfl) (KEP.tr (c1.2.2.2.1.kep rfl) (FV.kep rfl))
      have kVU : KEP [(245, 246), (902, 904)] [(20, 1)] V1 U1 := by
        have kw : KEP [(245, 246), (902, 904)] [(20, 1)] W V1 := FV.kep rfl
        refine ⟨fun c j q => ?_, fun x q => ?_⟩
        · obtain ⟨a1, a2, a3⟩ := kT.1 c j q
          obtain ⟨b1, b2, b3⟩ := kw.1 c j q
          exact ⟨a1.trans b1.symm, a2.trans b2.symm, a3.trans b3.symm⟩
        · obtain ⟨a1, a2, a3⟩ := kT.2 x q
          obtain ⟨b1, b2, b3⟩ := kw.2 x q
          exact ⟨a1.trans b1.symm, a2.trans b2.symm, a3.trans b3.symm⟩
      exact ⟨V1, V', T, Y, f, tle, stb, kUV, kVU, ⟨sn.2.1.kep rfl, as.2.1.kep rfl⟩, vg s2 s3, d.2.2.2.1, d.2.1.kep rfl, FS.kep rfl, ⟨hf, hp, sn.2.1.kep rfl⟩, fun q => by rw [e7V] at q ⊢; exact (ps1 q).1, fun q => ps2 (by rw [← e7V]; exact q), by rw [e7V]; exact ps0, ABV_FR FS rfl d.2.2.1.2.2.2.2.1, s2⟩
theorem st_step {U U1 X S1 : sS} {ts n : Nat} {e a a1 k : Int} (j : JOK ts n e U X a k) (ht : tp ts) (c : CST ts U a U1 a1) (r : RSS n X S1) : SMF U1 S1 ∨ (JOK ts n e U1 S1 a1 (k + 1) ∧ a < a1) := by
  rcases st_mid j ht c r with h | h
  · exact Or.inl h
  · exact Or.inr h.1
end
section
/-! both readings, sentence by sentence -/
def PCS (ts : Nat) : Nat → sS → Int → sS → Int → Prop
  | 0, U, a, V, b => V = U ∧ b = a
  | n + 1, U, a, V, b => ∃ (X : sS) (c : Int), CST ts U a X c ∧ PCS ts n X c V b
theorem pcs_s {ts : Nat} : ∀ (n : Nat) {U V X : sS} {a b c : Int}, PCS ts n U a V b → CST ts V b X c → PCS ts (n + 1) U a X c
  | 0, U, V, X, a, b, c, h, s => by
    obtain ⟨rfl, rfl⟩ := h
    exact ⟨X, c, s, rfl, rfl⟩
  | n + 1, U, V, X, a, b, c, h, s => by
    obtain ⟨Y, d, s1, h1⟩ := h
    exact ⟨Y, d, s1, pcs_s n h1 s⟩
theorem pch_s {ts : Nat} {U0 : sS} {a0 : Int} : ∀ (n : Nat) {U : sS} {a : Int}, PCH ts U0 a0 n U a → PCS ts n U0 a0 U a
  | 0, U, a, h => h
  | n + 1, U, a, h => by
    obtain ⟨X, b, h1, s⟩ := h
    exact pcs_s n (pch_s n h1) s
def RCS (n : Nat) : Nat → sS → sS → Prop
  | 0, X, R => R = X
  | k + 1, X, R => ∃ Y : sS, RSS n X Y ∧ RCS n k Y R
theorem rcs_s {n : Nat} : ∀ (k : Nat) {X Y R : sS}, RCS n k X Y → RSS n Y R → RCS n (k + 1) X R
  | 0, X, Y, R, h, s => by
    have h : Y = X := h
    subst h
    exact ⟨R, s, rfl⟩
  | k + 1, X, Y, R, h, s => by
    obtain ⟨Z, s1, h1⟩ := h
    exact ⟨Z, s1, rcs_s k h1 s⟩
theorem rc7_s {n : Nat} {R0 : sS} : ∀ (k : Nat) {X : sS}, RC7 n R0 k X → RCS n k R0 X
  | 0, X, h => h
  | k + 1, X, h => by
    obtain ⟨Y, h1, s⟩ := h
    exact rcs_s k (rc7_s k h1) s
theorem cst_0 {ts : Nat} {U X : sS} {a c : Int} (h : CST ts U a X c) : a < Xi U 876 5 ∧ Xi U 876 8 = 0 := by
  obtain ⟨V, z, h | ⟨W, d, h, _⟩⟩ := h
  · exact h.1.1.2.2.2.2.2
  · exact h.1.1.2.2.2.2.2
/-- both read alike: as many sentences, and the same fault or both worlds agree -/
theorem rd_all {ts n : Nat} {e : Int} (ht : tp ts) : ∀ (N K : Nat) {U X U' R : sS} {a a' k : Int}, JOK ts n e U X a k → k ≤ a → PCS ts N U a U' a' → RCS n K X R → ¬ (a' < Xi U' 876 5 ∧ k + N < Xi U' 876 5 ∧ Xi U' 876 8 = 0) → ¬ (Xi R 904 62 = 0 ∧ Xi R 907 (Xi R 904 8).toNat ≠ 1) → N = K ∧ (SMF U' R ∨ (JOK ts n e U' R a' (k + N) ∧ Xi R 904 8 = n))
  | 0, K, U, X, U', R, a, a', k, j, ka, pc, rc, st, sr => by
    obtain ⟨rfl, rfl⟩ := pc
    have j' := j
    obtain ⟨⟨f0, g0, hk⟩, x, a0, ob, f, e8, fn, p1, p2⟩ := j
    have he := x.2.2.2.1
    have tk1 := x.2.2.2.2.2.2.1
    have ef : f = n := by
      by_cases q : f < n
      · have u := (p1 q).2
        exact absurd ⟨by omega, by omega, f0⟩ st
      · omega
    have o1 : Xi X 907 (Xi X 904 8).toNat = 1 := by rw [e8, ef, show ((n : Nat) : Int).toNat = n by omega]; exact tk1
    cases K with
    | zero =>
      have rc : R = X := rc
      subst rc
      refine ⟨rfl, Or.inr ⟨?_, by omega⟩⟩
      rw [show k + ((0 : Nat) : Int) = k by omega]
      exact j'
    | succ K =>
      obtain ⟨Y, s, _⟩ := rc
      exact absurd o1 s.1.2.2.2.2.2.2.2.2.1
  | N + 1, K, U, X, U', R, a, a', k, j, ka, pc, rc, st, sr => by
    obtain ⟨X1, c, cs, pc⟩ := pc
    have j' := j
    obtain ⟨⟨f0, g0, hk⟩, x, a0, ob, f, e8, fn, p1, p2⟩ := j
    have he := x.2.2.2.1
    have tkn := x.2.2.2.2.2.2.2.1
    have ca := (cst_0 cs).1
    cases K with
    | zero =>
      have rc : R = X := rc
      subst rc
      exfalso
      refine sr ⟨g0, fun q => ?_⟩
      rw [e8, show ((f : Nat) : Int).toNat = f by omega] at q
      by_cases w : f < n
      · exact tkn f w q
      · have u := p2 (by omega)
        omega
    | succ K =>
      obtain ⟨Y, s, rc⟩ := rc
      rcases st_step j' ht cs s with m | ⟨m, lt⟩
      · have n0 : N = 0 := by
          cases N with
          | zero => rfl
          | succ N =>
            obtain ⟨_, _, c2, _⟩ := pc
            exact absurd (cst_0 c2).2 m.1
        have k0 : K = 0 := by
          cases K with
          | zero => rfl
          | succ K =>
            obtain ⟨_, s2, _⟩ := rc
            have w := s2.1.2.2.2.2.2.2.2.2.2
            rw [m.2.1] at w
            exact absurd w m.1
        subst n0 k0
        obtain ⟨rfl, rfl⟩ := pc
        have rc : R = Y := rc
        subst rc
        exact ⟨rfl, Or.inl m⟩
      · obtain ⟨h1, h2⟩ := rd_all ht N K m (by omega) pc rc (by rw [show k + 1 + (N : Int) = k + ((N + 1 : Nat) : Int) by omega]; exact st) sr
        rw [show k + 1 + (N : Int) = k + ((N + 1 : Nat) : Int) by omega] at h2
        exact ⟨by omega, h2⟩
end
