section
/-! class and reference: one test, its shape -/
/-- what sentences are read with -/
def ENV (U S : sS) (f : Nat) : Prop := RLW U S ∧ SCX U S f ∧ (∀ i : Int, 0 ≤ ty7 U i ∧ ty7 U i ≤ 108) ∧ SLF U S ∧ (RST U S ∧ TOK U ∧ ∀ j : Nat, 0 ≤ Xi U 878 j) ∧ (f : Int) + Xi U 876 7 ≤ 5002 ∧ (∀ i j : Int, 0 ≤ i → i < j → j < Xi U 876 7 → pc7 U i < pc7 U j)
def THF (U S : sS) (a l e x y : Int) : Prop := wheC U a l = e ∧ a < e ∧ (a ≤ whrC U a ∧ whrC U a < e) ∧ pc7 U (whrC U a) = Xi S 908 (x % 10000).toNat ∧ (whoC U a l = -1 → mtV S x y = -9 ∧ whkC U a l = -1) ∧ (whoC U a l ≠ -1 → THR U S (whoC U a l) (whkC U a l) (mtV S x y))
theorem thf_r {U S : sS} {f : Nat} {a l e x y : Int} (v : ENV U S f) (h0 : 0 ≤ a) (t : THE (tkR S) S (f + a) (f + e) x y) (he : e ≤ l) (hr : e < Xi U 876 7) : THF U S a l e x y := by
  obtain ⟨h, sc, tb, sl, _, f5, _⟩ := v
  obtain ⟨so, ta, tr, t3, rfl, rfl⟩ := t
  obtain ⟨r1, r2, r3, r4, r5, r6, r7⟩ := th3_r (l := l) h sc tb sl h0 t3 he hr (by omega)
  refine ⟨r1, r2, r3, ?_, r6, r7⟩
  rw [r5]; exact r4
/-- a test of a property -/
def SHB (U S : sS) (f c : Nat) (a b now : Int) : Prop := bpP U a ∧ a < isP U a b ∧ isP U a b < b ∧ RNR U S f (Xi S 956 c) (a + 1) (re7 (ty7 U) (a + 1)) ∧ (re7 (ty7 U) (a + 1) + 1 ≤ isP U a b) ∧ THF U S (re7 (ty7 U) (a + 1) + 1) (Xi U 876 7 - 1) (isP U a b) (Xi S 954 c) (Xi S 955 c) ∧
  ((numT U (isP U a b) = 1 ∧ ((ty7 U (isP U a b + 1) = 51 ∧ Xi S 952 c = 1) ∨ (ty7 U (isP U a b + 1) = 52 ∧ Xi S 952 c = 2)) ∧ Xi S 953 c = 0 ∧ ty7 U (isP U a b + 3) = 101 ∧ Xi S 957 c = f + (isP U a b + 3) ∧ isP U a b + 3 < b) ∨
   (numT U (isP U a b) = 0 ∧ Xi S 952 c = 0 ∧ Xi S 953 c = ntT U (isP U a b) ∧ Xi S 957 c = f + (isP U a b + 1 + ntT U (isP U a b)) ∧ isP U a b + 1 + ntT U (isP U a b) < b ∧ (ty7 U (isP U a b + 1 + ntT U (isP U a b)) = 101 ∨ ty7 U (isP U a b + 1 + ntT U (isP U a b)) = 102 ∨ ty7 U (isP U a b + 1 + ntT U (isP U a b)) = 100) ∧ (ty7 U (isP U a b + 1 + ntT U (isP U a b)) = 100 → RNR U S f (Xi S 960 c) (isP U a b + 1 + ntT U (isP U a b)) (re7 (ty7 U) (isP U a b + 1 + ntT U (isP U a b))))))
/-- a test of a thing -/
def SHC (U S : sS) (f c : Nat) (a b now : Int) : Prop := ¬ bpP U a ∧ a < isP U a b ∧ isP U a b < b ∧ THF U S a b (isP U a b) (Xi S 954 c) (Xi S 955 c) ∧ Xi S 953 c = ntT U (isP U a b) ∧ wJ U a b < b ∧
  ((ty7 U (wJ U a b) = 100 ∧ Xi S 952 c = 3 ∧ RNR U S f (Xi S 956 c) (wJ U a b) b) ∨
   (ty7 U (wJ U a b) ≠ 100 ∧ now = 0 ∧ Xi S 952 c = 4 ∧ Xi S 958 c = wyC (ty7 U (wJ U a b)) ∧ (1 ≤ Xi S 958 c ∧ Xi S 958 c ≤ 5) ∧ wJ U a b < plR U (wJ U a b) ∧ THF U S (plR U (wJ U a b)) b b (Xi S 959 c) (Xi S 960 c)))
theorem shp_r {U S : sS} {f c : Nat} {a b now : Int} (v : ENV U S f) (h0 : 0 ≤ a) (hb : b < Xi U 876 7) (hn : now = 0 ∨ now = 1) (t : TSTR (tkR S) S c (f + a) (f + b) now) : Xi S 961 c = f + a ∧ Xi S 962 c = f + b ∧ a < b ∧ endT (ty7 U b) ∧ ((Xi S 952 c = 5 ∧ Xi S 953 c = 0 ∧ isP U a b = -1) ∨ SHB U S f c a b now ∨ SHC U S f c a b now) := by
  have v' := v
  obtain ⟨h, sc, tb, sl, _, f5, _⟩ := v'
  have n5 := sc.2
  obtain ⟨ab, _, et⟩ := te_r sc tb h0 hb t
  have key : ∀ (i k : Int), 0 ≤ i → i ≤ b → 100 ≤ k → k < 200 → (tkR S (f + i) = k ↔ ty7 U i = k - 100) := fun i k i0 i1 k0 k1 => by
    rw [tkx sc ⟨by omega, by omega⟩]
    exact tr_key (tb i) ⟨k0, k1⟩
  have free : ∀ i : Int, 0 ≤ i → i ≤ b → (tkR S (f + i) = 3 ↔ ty7 U i = 100) := fun i i0 i1 => by
    rw [tkx sc ⟨by omega, by omega⟩]
    exact (tr_k (tb i)).1
  have num : ∀ i : Int, 0 ≤ i → i ≤ b → (tkR S (f + i) = 4 ↔ ty7 U i = 101) ∧ (tkR S (f + i) = 5 ↔ ty7 U i = 102) := fun i i0 i1 => by
    rw [tkx sc ⟨by omega, by omega⟩]
    exact tr_101 (tb i)
  obtain ⟨t1, t2, _, tt⟩ := t
  refine ⟨t1, t2, ab, by unfold endT; have et : et7 now (ty7 U b) := et; omega, ?_⟩
  rcases tt with ⟨_, k1, k2, k3, k4⟩ | ⟨_, _, q, r, k1, k2, k3, k4⟩ | ⟨_, nb, r, g, k1, k2, k3, k4⟩
  · refine Or.inl ⟨k1, k2, fo7_n (b - a).toNat a (by omega) (fun j j1 j2 w => ?_)⟩
    exact (lse_n (now := now) (k4 (f + j) (by omega) (by omega))).2 ((key j 104 (by omega) (by omega) (by omega) (by omega)).2 (by omega))
  · refine Or.inr (Or.inl ?_)
    obtain ⟨q0, p1, p2, p3, p4, p5⟩ := k1
    obtain ⟨th1, th2⟩ := the_in k2
    obtain ⟨tw1, tw2⟩ := twe_in k4
    have p21 := p2.1
    obtain ⟨R, rfl⟩ : ∃ x : Int, r = f + x := ⟨r - f, by omega⟩
    obtain ⟨O, rfl⟩ : ∃ x : Int, q0 = f + x := ⟨q0 - f, by omega⟩
    subst p4
    have rqO := rq_r (a := a + 1) (e := O) sc tb (by omega) (by omega) (by rw [show (f : Int) + (a + 1) = f + a + 1 by omega]; exact p2)
    have eO : re7 (ty7 U) (a + 1) = O := re_u (by omega) (by omega) rqO.2.1 rqO.2.2
    have eR : isP U a b = R := by
      refine fo7_y ((key R 104 (by omega) (by omega) (by omega) (by omega)).1 k3) (R - a).toNat a (by omega) (by omega) (fun j j1 j2 w => ?_)
      have w4 := (key j 104 (by omega) (by omega) (by omega) (by omega)).2 (by omega)
      by_cases x : j ≤ O
      · have := (pre_in (now := now) (V := S) (x := Xi S 956 c) ⟨(f : Int) + O, p1, p2, p3, rfl, p5⟩).2 (f + j) (by omega) (by omega)
        exact this.2 w4
      · exact (lse_n (now := now) (th2 (f + j) (by omega) (by omega))).2 w4
    have bp : bpP U a := ⟨(key a 102 h0 (by omega) (by omega) (by omega)).1 p1, rqO.2.1 (a + 1) (by omega) (by omega), by rw [eO]; exact (key O 107 (by omega) (by omega) (by omega) (by omega)).1 p3⟩
    have rn := rr_rnr (U := U) (by omega) (by omega) ⟨rqO.1, rqO.2.1⟩ (by rw [show (f : Int) + (a + 1) = f + a + 1 by omega]; exact p5)
    unfold SHB
    rw [eO, eR]
    refine ⟨bp, by omega, by omega, rn, by omega, ?_, ?_⟩
    · rw [show (f : Int) + O + 1 = f + (O + 1) by omega] at k2
      exact thf_r v (by omega) k2 (by omega) (by omega)
    · rw [show (f : Int) + R + 1 = f + (R + 1) by omega] at k4
      rcases k4 with ⟨w0, w1, w2, w3, w4, w5, w6⟩ | ⟨w1, w2, B, w3, w4, w5⟩
      · have r3 : R + 3 < b := by omega
        rw [show (f : Int) + (R + 1) + 2 = f + (R + 3) by omega] at w3 w4
        left
        have a51 := key (R + 1) 151 (by omega) (by omega) (by omega) (by omega)
        have a52 := key (R + 1) 152 (by omega) (by omega) (by omega) (by omega)
        refine ⟨?_, ?_, w6, (num (R + 3) (by omega) (by omega)).1.1 w4, w3, r3⟩
        · unfold numT
          rw [if_pos]
          rcases w1 with w | w
          · exact Or.inl (by have := a51.1 w.1; omega)
          · exact Or.inr (by have := a52.1 w.1; omega)
        · rcases w1 with w | w
          · exact Or.inl ⟨by have := a51.1 w.1; omega, w.2⟩
          · exact Or.inr ⟨by have := a52.1 w.1; omega, w.2⟩
      · obtain ⟨we1, we2⟩ := whe_in (now := now) w5
        obtain ⟨X, rfl⟩ : ∃ x : Int, B = f + x := ⟨B - f, by omega⟩
        have nX : ntT U R = (if X = R + 2 then 1 else 0) ∧ (X = R + 1 ∨ X = R + 2) ∧ Xi S 953 c = ntT U R ∧ numT U R = 0 := by
          have a6 := key (R + 1) 106 (by omega) (by omega) (by omega) (by omega)
          have a51 := key (R + 1) 151 (by omega) (by omega) (by omega) (by omega)
          have a52 := key (R + 1) 152 (by omega) (by omega) (by omega) (by omega)
          rcases w3 with ⟨x1, x2, x3, x4⟩ | ⟨x1, x3, x4⟩
          · have e6 : ty7 U (R + 1) = 6 := by have := a6.1 x2; omega
            unfold ntT numT
            rw [if_pos e6, if_pos (by omega), if_neg (by omega)]
            exact ⟨rfl, by omega, x3, rfl⟩
          · have xe : X = R + 1 := by omega
            subst xe
            have nn : ty7 U (R + 1) ≠ 6 ∧ ty7 U (R + 1) ≠ 51 ∧ ty7 U (R + 1) ≠ 52 := by
              rcases w5 with ⟨y1, _⟩ | ⟨_, _, y3, _⟩
              · have z := num (R + 1) (by omega) (by omega)
                rcases y1 with y | y
                · have := z.1.1 y; omega
                · have := z.2.1 y; omega
              · have := (free (R + 1) (by omega) (by omega)).1 (y3.2.1 _ (Int.le_refl _) y3.1)
                omega
            unfold ntT numT
            rw [if_neg nn.1, if_neg (by omega), if_neg (by omega)]
            exact ⟨rfl, by omega, x3, rfl⟩
        obtain ⟨nx1, nx2, nx3, nx4⟩ := nX
        have eX : R + 1 + ntT U R = X := by rw [nx1]; split <;> omega
        right
        rw [eX]
        refine ⟨nx4, w2, nx3, w4, by omega, ?_, ?_⟩
        · rcases w5 with ⟨y1, _⟩ | ⟨_, _, y3, _⟩
          · have z := num X (by omega) (by omega)
            rcases y1 with y | y
            · exact Or.inl (z.1.1 y)
            · exact Or.inr (Or.inl (z.2.1 y))
          · exact Or.inr (Or.inr ((free X (by omega) (by omega)).1 (y3.2.1 _ (Int.le_refl _) y3.1)))
        · intro w100
          rcases w5 with ⟨y1, _⟩ | ⟨_, _, y3, y4⟩
          · have z := num X (by omega) (by omega)
            rcases y1 with y | y
            · have := z.1.1 y; omega
            · have := z.2.1 y; omega
          · have rq := rq_r (a := X) (e := b) sc tb (by omega) hb y3
            rw [re_u (by omega) (by omega) rq.2.1 rq.2.2]
            exact rr_rnr (by omega) (by omega) ⟨rq.1, rq.2.1⟩ y4
  · refine Or.inr (Or.inr ?_)
    obtain ⟨th1, th2⟩ := the_in k1
    obtain ⟨R, rfl⟩ : ∃ x : Int, r = f + x := ⟨r - f, by omega⟩
    obtain ⟨G, rfl⟩ : ∃ x : Int, g = f + x := ⟨g - f, by omega⟩
    have Gb : (G = R + 1 ∨ G = R + 2) ∧ G < b := by
      have x1 : G = R + 1 ∨ G = R + 2 := by rcases k3 with ⟨_, _, w⟩ | ⟨_, _, w⟩ <;> omega
      refine ⟨x1, ?_⟩
      rcases k4 with ⟨_, _, w, _⟩ | ⟨_, _, _, o, w1, w2⟩
      · have := w.1; omega
      · have := (ple_in (now := now) w1).1
        have := (the_in w2).1
        omega
    have eR : isP U a b = R := by
      refine fo7_y ((key R 104 (by omega) (by omega) (by omega) (by omega)).1 k2) (R - a).toNat a (by omega) (by omega) (fun j j1 j2 w => ?_)
      exact (lse_n (now := now) (th2 (f + j) (by omega) (by omega))).2 ((key j 104 (by omega) (by omega) (by omega) (by omega)).2 (by omega))
    have a6 := key (R + 1) 106 (by omega) (by omega) (by omega) (by omega)
    rw [show (f : Int) + (R + 1) = f + R + 1 by omega] at a6
    have eG : R + 1 + ntT U R = G ∧ Xi S 953 c = ntT U R := by
      unfold ntT
      rcases k3 with ⟨w1, w2, w3⟩ | ⟨w1, w2, w3⟩
      · rw [if_pos (by have := a6.1 w1; omega)]; omega
      · rw [if_neg (fun y => w1 (a6.2 (by omega)))]; omega
    have ew : wJ U a b = G := by unfold wJ; rw [eR]; exact eG.1
    unfold SHC
    rw [ew, eR]
    refine ⟨fun w => nb (bof_r sc tb h0 w), by omega, by omega, thf_r v h0 k1 (by omega) (by omega), eG.2, Gb.2, ?_⟩
    rcases k4 with ⟨w1, w2, w3, w4⟩ | ⟨w1, w2, w3, o, w4, w5⟩
    · have rq := rq_r (a := G) (e := b) sc tb (by omega) hb w3
      exact Or.inl ⟨(free G (by omega) (by omega)).1 w1, w2, rr_rnr (by omega) (by omega) ⟨rq.1, rq.2.1⟩ w4⟩
    · right
      have o1 := (ple_in (now := now) w4).1
      have o2 := (the_in w5).1
      obtain ⟨O, rfl⟩ : ∃ x : Int, o = f + x := ⟨o - f, by omega⟩
      have fin : Xi S 958 c = wyC (ty7 U G) ∧ (1 ≤ Xi S 958 c ∧ Xi S 958 c ≤ 5) ∧ plR U G = O := by
        unfold wyC plR
        have kk := fun k => key G k (by omega) (by omega)
        rcases w4 with ⟨x1, x2, x3⟩ | ⟨x1, x2, x3⟩ | ⟨x1, _, x2, x3⟩ | ⟨x1, _, x2, x3⟩ | ⟨x1, _, x2, x3⟩
        · have := (kk 108 (by omega) (by omega)).1 x1
          rw [if_pos (by omega), if_pos (by omega)]; omega
        · have := (kk 109 (by omega) (by omega)).1 x1
          rw [if_neg (by omega), if_pos (by omega), if_pos (by omega)]; omega
        · have := (kk 129 (by omega) (by omega)).1 x1
          rw [if_neg (by omega), if_neg (by omega), if_pos (by omega), if_neg (by omega)]; omega
        · have := (kk 130 (by omega) (by omega)).1 x1
          rw [if_neg (by omega), if_neg (by omega), if_neg (by omega), if_pos (by omega), if_neg (by omega)]; omega
        · have := (kk 131 (by omega) (by omega)).1 x1
          rw [if_neg (by omega), if_neg (by omega), if_neg (by omega), if_neg (by omega), if_neg (by omega)]; omega
      rw [fin.2.2]
      refine ⟨fun y => w1 ((free G (by omega) (by omega)).2 y), w2, w3, fin.1, fin.2.1, by omega, thf_r v (by omega) w5 (Int.le_refl _) hb⟩
end
section
/-! class and reference: one test -/
theorem whr_q {U S : sS} {f : Nat} {w tp r : Int} (sc : SCX U S f) (v : RVO U S) (wh : WHC U) (ty : RTY U S) (hw : 0 ≤ w ∧ w < Xi U 876 7) (tb : 0 ≤ ty7 U w ∧ ty7 U w ≤ 108) (g : ty7 U w = 101 ∨ ty7 U w = 102 ∨ ty7 U w = 100) (k : ty7 U w = 100 → RNR U S f r w (re7 (ty7 U) w)) : (∀ x l : Int, WHR U w tp x l → wOKR S (f + w) r tp ∧ x = wvR S (f + w) r ∧ l = wlR S (f + w) ∧ (tp = 1 → ty7 U w = 102)) ∧ (wOKR S (f + w) r tp → ∃ x l : Int, WHR U w tp x l) := by
  have e : ((f : Int) + w).toNat = f + w.toNat := by omega
  obtain ⟨k1, k2, k3, k4, k5⟩ := sc.1 w.toNat (by omega)
  have et : ty7 U w = Xi U 877 w.toNat := ty7_i hw.1 hw.2
  rw [← et] at k2 k3 k4 k5
  have tr := tr_101 tb
  have pc : pc7 U w = Xi U 878 w.toNat := by unfold pc7; rw [if_pos hw]
  have hx := v.2.2.2.1
  have h15 : 0 ≤ Xi S 904 15 := by have := v.1.1; omega
  unfold WHR wOKR wvR wlR
  rw [e, k2]
  have fk : ty7 U w = 100 → fnd U 4 w (re7 (ty7 U) w) = rnR S r 6 := fun q => rn_fnd (s := 6) (scx_s sc v) (k q) hx h15 (by omega)
  have fv : ∀ {x : Int}, mnV U w (re7 (ty7 U) w) / 256 = 4 → fnd U 4 w (re7 (ty7 U) w) = mnV U w (re7 (ty7 U) w) % 256 := fun q => by unfold fnd; rw [if_pos q]
  refine ⟨fun x l q => ?_, fun q => ?_⟩
  · rcases q with ⟨a, b, c, d⟩ | ⟨a, b, c, d⟩ | ⟨a1, a2, a, b, c, d, d2⟩
    · have t4 := tr.1.2 b
      refine ⟨Or.inl ⟨t4, a⟩, ?_, ?_, by omega⟩
      · rw [if_pos t4, c, k4 b]
      · rw [if_neg (by omega), d]
    · have t5 := tr.2.2 b
      refine ⟨Or.inr (Or.inl ⟨t5, a⟩), ?_, ?_, fun _ => b⟩
      · rw [if_neg (by omega), if_pos t5, c, pc, k1]
      · rw [if_pos t5, d, k5 b]
    · rw [mn_4] at b c d
      have n4 : tr7 (ty7 U w) ≠ 4 := fun y => by have := tr.1.1 y; omega
      have n5 : tr7 (ty7 U w) ≠ 5 := fun y => by have := tr.2.1 y; omega
      have f1 := fk a
      have f2 := fv (x := 0) b
      have ne : rnR S r 6 ≠ -1 := by rw [← f1, f2]; omega
      have lt : 0 ≤ fnd U 4 w (re7 (ty7 U) w) ∧ fnd U 4 w (re7 (ty7 U) w) < Xi U 5 4 := fnd_wc (by omega) v.2.2.1 wh (by rw [f1]; exact ne)
      have tv := ty.1 (fnd U 4 w (re7 (ty7 U) w)).toNat (by omega)
      rw [← f2] at c d
      refine ⟨Or.inr (Or.inr ⟨n4, n5, ne, by rw [← f1, ← tv.1]; exact c⟩), ?_, ?_, by omega⟩
      · rw [if_neg n4, if_neg n5, d, f1]
      · rw [if_neg n5, d2]
  · rcases q with ⟨a, b⟩ | ⟨a, b⟩ | ⟨a1, a2, a, b⟩
    · exact ⟨_, _, Or.inl ⟨b, tr.1.1 a, rfl, rfl⟩⟩
    · exact ⟨_, _, Or.inr (Or.inl ⟨b, tr.2.1 a, rfl, rfl⟩)⟩
    · have t100 : ty7 U w = 100 := by
        rcases g with g | g | g
        · exact absurd (tr.1.2 g) a1
        · exact absurd (tr.2.2 g) a2
        · exact g
      have f1 := fk t100
      have ne : fnd U 4 w (re7 (ty7 U) w) ≠ -1 := by rw [f1]; exact a
      have m4 : mnV U w (re7 (ty7 U) w) / 256 = 4 := by
        apply Classical.byContradiction
        intro y
        unfold fnd at ne
        rw [if_neg y] at ne
        exact ne rfl
      have f2 := fv (x := 0) m4
      have lt : 0 ≤ fnd U 4 w (re7 (ty7 U) w) ∧ fnd U 4 w (re7 (ty7 U) w) < Xi U 5 4 := fnd_wc (by omega) v.2.2.1 wh ne
      have tv := ty.1 (fnd U 4 w (re7 (ty7 U) w)).toNat (by omega)
      refine ⟨_, _, Or.inr (Or.inr ⟨fun y => by omega, fun y => by omega, t100, by rw [mn_4]; exact m4, ?_, rfl, rfl⟩)⟩
      rw [mn_4, ← f2, tv.1, f1]; exact b

def TMK (sk n w t : Int) : Prop := (w = -2 ∧ t = (if sk = 54 then -1 else -2)) ∨ ((0 ≤ w ∧ w < n) ∧ t = w)
/-- a test of the class (its clause's fields) is a test of the reference (its entries) -/
def TQF (U S : sS) (q : Nat) (sk fm n w h t g m : Int) : Prop := (Xi S 970 q = n ∧ (n = 0 ∨ n = 1)) ∧ TMK sk (Xi U 5 2) w (Xi S 971 q) ∧
  ((fm = 6 ∧ Xi S 969 q = 5 ∧ n = 0 ∧ TMK sk (Xi U 5 2) m (Xi S 975 q) ∧ Xi S 972 q = h ∧ 0 ≤ h ∧ h < Xi U 5 6) ∨
   (fm = 5 ∧ Xi S 969 q = 4 ∧ TMK sk (Xi U 5 2) m (Xi S 975 q) ∧ Xi S 973 q = t ∧ 1 ≤ t ∧ t ≤ 5) ∨
   (fm = 0 ∧ Xi S 969 q = 3 ∧ Xi S 973 q = h ∧ 0 ≤ h ∧ h < Xi U 5 3 ∧ h < 24) ∨
   (fm = 1 ∧ Xi S 969 q = 3 ∧ n = 0 ∧ g = 0 ∧ Xi S 973 q = 100 + 100 * t + h ∧ (0 ≤ h ∧ h < Xi U 5 5 ∧ h < 12) ∧ (0 ≤ t ∧ t < Xi U 5 4) ∧ Xi U 9 h.toNat ≠ 1) ∨
   (((fm = 2 ∧ Xi S 969 q = 1) ∨ (fm = 3 ∧ Xi S 969 q = 2)) ∧ n = 0 ∧ Xi S 972 q = h ∧ (0 ≤ h ∧ h < Xi U 5 5) ∧ Xi U 9 h.toNat = 0 ∧ Xi S 973 q = t) ∨
   (fm = 1 ∧ Xi S 969 q = 0 ∧ Xi S 972 q = h ∧ (0 ≤ h ∧ h < Xi U 5 5) ∧ Xi U 9 h.toNat ≠ 1 ∧ Xi S 973 q = t ∧ g = 0 ∧ Xi S 974 q = 0) ∨
   (fm = 4 ∧ Xi S 969 q = 0 ∧ Xi S 972 q = h ∧ (0 ≤ h ∧ h < Xi U 5 5) ∧ Xi U 9 h.toNat = 1 ∧ TXQ U S t g (Xi S 973 q) (Xi S 974 q)))
theorem plo_le {U S : sS} {f : Nat} {i j : Int} (v : ENV U S f) (h0 : 0 ≤ i) (h1 : i ≤ j) (h2 : j < Xi U 876 7) : pc7 U i ≤ pc7 U j := by
  by_cases q : i = j
  · rw [q]; exact Int.le_refl _
  · have := v.2.2.2.2.2.2 i j h0 (by omega) h2; omega
/-- the property that a RUN means -/
theorem pok_r {U S : sS} {f : Nat} {r x y w k th : Int} (v : ENV U S f) (rn : RNR U S f r x y) (t1 : w = -1 → th = -9 ∧ k = -1) (t2 : w ≠ -1 → THR U S w k th) : (mnV U x y / 256 = 5 → rnR S r 7 = mnV U x y % 256 ∧ (0 ≤ mnV U x y % 256 ∧ mnV U x y % 256 < Xi U 5 5 ∧ Xi U 5 5 ≤ 12) ∧ Xi U 9 (mnV U x y % 256).toNat = Xi S 928 (rnR S r 7).toNat) ∧ (mnV U x y / 256 ≠ 5 → rnR S r 7 = -1) ∧ ((mnV U x y / 256 = 5 ∧ (k = -1 ∨ iandF (ishrF (pps U k) (mnV U x y % 256)) 1 ≠ 0)) ↔ pmK S r th) ∧ (w ≠ -1 → (pmK S r th → pmZ S r th = mnV U x y % 256) ∧ (¬ pmK S r th → pmZ S r th = -1)) ∧ (w = -1 → pmZ S r th = -1) := by
  obtain ⟨h, sc, _⟩ := v
  have h15 : 0 ≤ Xi S 904 15 := by have := h.1.1.1; omega
  have fe : fnd U 5 x y = rnR S r 7 := rn_fnd (s := 7) (scx_s sc h.1) rn h.1.2.2.2.1 h15 (by omega)
  have c5 := h.2.2.1.2.2.2.2.2.1
  have a5 : mnV U x y / 256 = 5 → rnR S r 7 = mnV U x y % 256 := fun q => by rw [← fe]; unfold fnd; rw [if_pos q]
  have n5 : mnV U x y / 256 ≠ 5 → rnR S r 7 = -1 := fun q => by rw [← fe]; unfold fnd; rw [if_neg q]
  have rg5 : mnV U x y / 256 = 5 → 0 ≤ mnV U x y % 256 ∧ mnV U x y % 256 < Xi U 5 5 := fun q => by
    have t := fnd_wc (U := U) (s := 5) (a := x) (b := y) (by omega) h.1.2.2.1 h.2.1 (by rw [fe, a5 q]; omega)
    rw [fe, a5 q] at t
    exact t
  have bit : mnV U x y / 256 = 5 → w ≠ -1 → (iandF (ishrF (pps U k) (mnV U x y % 256)) 1 ≠ 0 ↔ hsR S (ktC S th) (rnR S r 7) ≠ 0) := fun q q2 => by
    obtain ⟨_, e, k0, k1⟩ := t2 q2
    have g := rg5 q
    rw [a5 q, ← e]
    exact pps_hs h.2.2.2.1 k1 (by omega)
  refine ⟨fun q => ⟨a5 q, ⟨(rg5 q).1, (rg5 q).2, c5.2.2⟩, by rw [a5 q]; exact (h.2.2.2.2.1.2.1 _ (by have := rg5 q; omega)).1⟩, n5, ?_, fun q2 => ⟨fun pk => ?_, fun pk => ?_⟩, fun q2 => ?_⟩
  · unfold pmK
    by_cases q : mnV U x y / 256 = 5
    · have ne : rnR S r 7 ≠ -1 := by rw [a5 q]; omega
      by_cases q2 : w = -1
      · obtain ⟨e1, e2⟩ := t1 q2
        exact ⟨fun _ => ⟨ne, Or.inl e1⟩, fun _ => ⟨q, Or.inl e2⟩⟩
      · have b := bit q q2
        have t := t2 q2
        have n9 := (tmp_9 t.1).1
        refine ⟨fun z => ⟨ne, Or.inr (b.1 (z.2.resolve_left (by have := t.2.2.1; omega)))⟩, fun z => ⟨q, Or.inr (b.2 (z.2.resolve_left n9))⟩⟩
    · exact ⟨fun z => absurd z.1 q, fun z => absurd (n5 q) z.1⟩
  · have q : mnV U x y / 256 = 5 := Classical.byContradiction (fun z => pk.1 (n5 z))
    unfold pmZ
    have n9 := (tmp_9 (t2 q2).1).1
    rw [if_pos ⟨pk.1, n9, pk.2.resolve_left n9⟩]
    exact a5 q
  · unfold pmZ
    rw [if_neg (fun z => pk ⟨z.1, Or.inr z.2.2⟩)]
  · unfold pmZ
    rw [if_neg (fun z => z.2.1 (t1 q2).1)]
theorem ad_0 {U S : sS} {t n k d v : Int} (h : RLW U S) (hk : 0 ≤ k ∧ k < Xi U 5 0) : 0 ≤ adR S t n k d v := by
  unfold adR
  by_cases q : nmR S t n = -1
  · rw [if_pos q]; exact Int.le_refl _
  rw [if_neg q]
  by_cases q2 : Xi S 914 (nmR S t n).toNat = 5 ∧ blR S k (Xi S 921 (Xi S 915 (nmR S t n).toNat).toNat) = 1 ∧ (d ≠ 0 ∨ Xi S 924 (Xi S 915 (nmR S t n).toNat).toNat = 0)
  · rw [if_pos q2]; decide
  rw [if_neg q2]
  by_cases q3 : Xi S 914 (nmR S t n).toNat = 6 ∧ v ≠ 0
  · rw [if_pos q3]; exact (val_r h.2.2.2.1 h.2.2.2.2.1 h.2.2.1 hk).2.2
  · rw [if_neg q3]; exact Int.le_refl _
/-- ADJECTIVES of a test -/
theorem a3_r {U S : sS} {f c : Nat} {a b k th now n : Int} (v : ENV U S f) (rn : RNR U S f (Xi S 956 c) a b) (hk : 0 ≤ k ∧ k < Xi U 5 0) (e1 : mT1 S c = th) (e2 : k = ktC S th) (e3 : Xi S 953 c = n) : aT3 S c now = raF U k a b (1 - n) (1 - now) ∧ 0 ≤ aT3 S c now ∧ (aT3 S c now = 1 → COD (mnV U a b % 256) (rlF U k a b (1 - n)) (cT3 S c now) ∧ (rlF U k a b (1 - n) = -1 → mnV U a b % 256 < Xi U 5 3) ∧ (rlF U k a b (1 - n) ≠ -1 → rlF U k a b (1 - n) < Xi U 5 5 ∧ mnV U a b % 256 < Xi U 5 4 ∧ Xi U 8 (mnV U a b % 256).toNat ≠ 1 ∧ Xi U 9 (rlF U k a b (1 - n)).toNat = Xi U 8 (mnV U a b % 256).toNat)) := by
  obtain ⟨h, sc, _⟩ := v
  have ec : ((c : Nat) : Int).toNat = c := by omega
  obtain ⟨r0, r1, r2, r3, r4, r5⟩ := rn
  have m := (scx_s sc h.1).1 a b r0 r2 r5
  have ad := adj_r (d := 1 - now) (v := 1 - n) h m hk
  have a0 := ad_0 (t := f + a) (n := b - a) (d := 1 - now) (v := 1 - n) h hk
  unfold aT3 cT3 rT3
  rw [ec, e1, e3, ← e2, r3, r4]
  have big : (if 3 < b - a then 0 else adR S (f + a) (b - a) k (1 - now) (1 - n)) = adR S (f + a) (b - a) k (1 - now) (1 - n) := by
    by_cases q : 3 < b - a
    · rw [if_pos q]
      unfold adR nmR
      rw [if_pos (show b - a < 1 ∨ 3 < b - a from Or.inr q), if_pos rfl]
    · rw [if_neg q]
  rw [big]
  exact ⟨ad.1.symm, a0, ad.2⟩
end
section
/-! class and reference: one test, good or not -/
theorem tsg_r {U S S1 : sS} {f c : Nat} {a b q now : Int} (v : ENV U S f) (h0 : 0 ≤ a) (hb : b < Xi U 876 7) (hn : now = 0 ∨ now = 1) (rd : TSTR (tkR S) S c (f + a) (f + b) now) (tm : TMX S S1 c q now) : NTG (pc7 U a) (NT3 S) (NT3 S1) := by
  have ec : ((c : Nat) : Int).toNat = c := by omega
  obtain ⟨e1, e2, ab, et, sh⟩ := shp_r v h0 hb hn rd
  have sc := v.2.1
  unfold TMX TM5 TM4 TM3 TM0 TM1 at tm
  rw [ec] at tm
  obtain ⟨m5, m4, m3, m0, m1, _⟩ := tm
  have n1 : ∀ r : Int, a ≤ r → r < Xi U 876 7 → pc7 U r = Xi S 908 (Xi S 954 c % 10000).toNat → NTG (pc7 U a) (NT3 S) (nT1 S c) := fun r r0 r1 r2 => by
    unfold nT1
    rw [ec]
    exact ntg_if ntg_0 (ntg_1 (by rw [← r2]; exact plo_le v h0 r0 r1))
  rcases sh with ⟨s1, _, _⟩ | sh | sh
  · obtain ⟨_, _, cc, _, nt⟩ := m5 s1
    rw [e1] at nt
    have pl : Xi S 908 ((f : Int) + a).toNat = pc7 U a := (pc_r sc ⟨h0, by omega⟩).symm
    rw [pl] at nt
    rw [nt]
    have g1 : NTG (pc7 U a) (NT3 S) (if 0 < cc then NT3 S else ntF (NT3 S) 4 (pc7 U a)) := ntg_if ntg_0 (ntg_1 (Int.le_refl _))
    exact ntg_if g1 (ntg_n g1 (Int.le_refl _))
  · obtain ⟨_, i1, i2, rn, i3, th, sh⟩ := sh
    have g1 := n1 _ (by have := th.2.2.1; have := rn.2.1; omega) (by have := th.2.2.1; omega) th.2.2.2.1
    have rp : pc7 U (a + 1) = pR S (Xi S 956 c) := rn_pc (scx_s sc v.1.1) rn
    have ra : pc7 U a ≤ pR S (Xi S 956 c) := by rw [← rp]; exact plo_le v h0 (by omega) (by omega)
    have g2 : NTG (pc7 U a) (NT3 S) (nT2 S c) := by
      unfold nT2
      rw [ec]
      by_cases w : pmK S (Xi S 956 c) (mT1 S c)
      · rw [if_pos w]; exact g1
      · rw [if_neg w]; exact ntg_n g1 ra
    rcases sh with ⟨_, s2, _⟩ | ⟨_, s2, _, s4, s5, _⟩
    · obtain ⟨_, _, _, t4, t5⟩ := m1 (by omega)
      by_cases w : rnR S (Xi S 956 c) 7 = -1 ∨ Xi S 928 (rnR S (Xi S 956 c) 7).toNat = 0
      · rw [t4 w]; exact g2
      · rw [t5 w]; exact ntg_n g2 ra
    · obtain ⟨_, _, t3, t4⟩ := m0 s2
      by_cases w : pT0 S c = -1
      · rw [t3 w]; exact g2
      · obtain ⟨t5, t6, _⟩ := t4 w
        by_cases y : wOKR S (Xi S 957 c) (Xi S 960 c) (Xi S 928 (pT0 S c).toNat)
        · rw [t5 y]; exact g2
        · rw [t6 y, s4]
          exact ntg_n g2 (by rw [← pc_r sc ⟨by have : 0 ≤ ntT U (isP U a b) := by { unfold ntT; split <;> omega }; omega, by omega⟩]; exact plo_le v h0 (by have : 0 ≤ ntT U (isP U a b) := by { unfold ntT; split <;> omega }; omega) (by omega))
  · obtain ⟨_, i1, i2, th, _, i3, sh⟩ := sh
    have g1 := n1 _ (by have := th.2.2.1; omega) (by have := th.2.2.1; omega) th.2.2.2.1
    have wj : isP U a b < wJ U a b := by unfold wJ; have : 0 ≤ ntT U (isP U a b) := by { unfold ntT; split <;> omega }; omega
    rcases sh with ⟨_, s2, rn⟩ | ⟨_, _, s2, _, _, s5, th2⟩
    · obtain ⟨_, t3, t4⟩ := m3 s2
      have rp : pc7 U (wJ U a b) = pR S (Xi S 956 c) := rn_pc (scx_s sc v.1.1) rn
      have ra : pc7 U a ≤ pR S (Xi S 956 c) := by rw [← rp]; exact plo_le v h0 (by omega) (by omega)
      by_cases w : mT1 S c = -9
      · rw [t3 w]; exact g1
      · obtain ⟨t5, _⟩ := t4 w
        unfold rT3 at t5
        rw [ec] at t5
        rw [t5]
        have g3 : NTG (pc7 U a) (NT3 S) (if 0 < aT3 S c now then nT1 S c else ntF (nT1 S c) 4 (pR S (Xi S 956 c))) := ntg_if g1 (ntg_n g1 ra)
        exact ntg_if g3 (ntg_n g3 ra)
    · obtain ⟨_, _, _, t4⟩ := m4 s2
      rw [t4]
      exact ntg_if g1 (ntg_n g1 (by rw [← th2.2.2.2.1]; exact plo_le v h0 (by have := th2.2.2.1; omega) (by have := th2.2.2.1; omega)))
/-- a test that is good to the class is good to the reference, and means the same -/
theorem tsy_r {U S S1 : sS} {f c : Nat} {a b q now fm n w h t g m : Int} (v : ENV U S f) (h0 : 0 ≤ a) (hb : b < Xi U 876 7) (hn : now = 0 ∨ now = 1) (hq : 0 ≤ q) (rd : TSTR (tkR S) S c (f + a) (f + b) now) (tm : TMX S S1 c q now) (s6 : ∀ j, Xi S1 906 j = Xi S 906 j) (y : TSY U a b now fm n w h t g m) : NT3 S1 = NT3 S ∧ TQF U S1 q.toNat (Xi U 895 3) fm n w h t g m := by
  have ec : ((c : Nat) : Int).toNat = c := by omega
  obtain ⟨e1, e2, ab, et, sh⟩ := shp_r v h0 hb hn rd
  have v' := v
  obtain ⟨hh, sc, tb, sl, ⟨st, tok, hpl⟩, f5, _⟩ := v'
  unfold TMX TM5 TM4 TM3 TM0 TM1 TMB at tm
  rw [ec] at tm
  obtain ⟨m5, m4, m3, m0, m1, _⟩ := tm
  rcases sh with ⟨s1, s2, s3⟩ | sh | sh
  · rcases y with ⟨y0, y1, rfl, rfl, rfl, rfl, rfl, rfl, rfl⟩ | ⟨y0, _⟩ | ⟨y0, _⟩
    · obtain ⟨t9, t0, cc, sy, nt⟩ := m5 s1
      rw [e1, e2] at sy
      obtain ⟨k1, k2, k3⟩ := say_r hh sc tb sl h0 ab hb et sy
      have c1 : cc = 1 := by rw [k1]; exact y1
      obtain ⟨x1, x2, x3, x4, x5⟩ := k3 c1
      rw [if_pos (by omega), if_pos (by omega)] at nt
      exact ⟨nt, ⟨by rw [t0]; exact s2, Or.inl rfl⟩, x1, Or.inl ⟨rfl, t9, rfl, x2, x3, x4, x5⟩⟩
    · exact absurd s3 y0
    · exact absurd s3 y0
  · obtain ⟨bp, i1, i2, rn, i3, th, sh⟩ := sh
    have ne : isP U a b ≠ -1 := by omega
    rcases y with ⟨y0, _⟩ | ⟨_, _, py, rfl⟩ | ⟨_, y0, _⟩
    · exact absurd y0 ne
    · obtain ⟨ok, rfl, wn, rfl, py⟩ := py
      obtain ⟨th1, th2, th3, th4, th5, th6⟩ := th
      have tt := th6 wn
      have mt : mT1 S c = mtV S (Xi S 954 c) (Xi S 955 c) := by unfold mT1; rw [ec]
      obtain ⟨p1, p2, p3, p4, p5⟩ := pok_r v rn th5 th6
      rw [← mt] at p3 p4 p5 tt
      obtain ⟨o1, o2, o3⟩ := ok
      have pk := p3.1 ⟨o1, o3⟩
      obtain ⟨q1, q2, q3⟩ := p1 o1
      have z := (p4 wn).1 pk
      have n9 := (tmp_9 tt.1).1
      have nt1 : nT1 S c = NT3 S := by unfold nT1; rw [if_pos n9]
      have nt2 : nT2 S c = NT3 S := by unfold nT2; rw [ec, if_pos pk]; exact nt1
      have pt : pT0 S c = mnV U (a + 1) (re7 (ty7 U) (a + 1)) % 256 := by unfold pT0; rw [ec]; exact z
      rcases sh with ⟨n1, n2, n3, n4, n5, n6⟩ | ⟨n1, n2, n3, n4, n5, n6, n7⟩
      · rcases py with ⟨y1, rfl, rfl, rfl, rfl⟩ | ⟨y1, _⟩
        · obtain ⟨⟨t9, t0, t1⟩, t2, t3, t4, _⟩ := m1 (by omega)
          have ty0 : Xi U 9 (mnV U (a + 1) (re7 (ty7 U) (a + 1)) % 256).toNat = 0 := o2.resolve_left (by omega)
          have nt := t4 (Or.inr (by rw [← q3]; exact ty0))
          rw [nt2] at nt
          have num : Xj S 910 (Xi S 957 c).toNat = Xj U 879 (isP U a b + 3).toNat := by
            rw [n5]
            have tk := (sc.1 (isP U a b + 3).toNat (by omega)).2.2.2.1
            rw [← ty7_i (by omega) (by omega)] at tk
            rw [show ((f : Int) + (isP U a b + 3)).toNat = f + (isP U a b + 3).toNat by omega]
            exact tk n4
          refine ⟨nt, ⟨by rw [t0]; exact n3, Or.inl rfl⟩, by rw [t1]; exact tt.1, Or.inr (Or.inr (Or.inr (Or.inr (Or.inl ⟨?_, rfl, by rw [t2]; exact pt, ⟨q2.1, q2.2.1⟩, ty0, by rw [t3]; exact num⟩))))⟩
          rcases n2 with ⟨x1, x2⟩ | ⟨x1, x2⟩
          · exact Or.inl ⟨by rw [if_pos x1], by rw [t9]; exact x2⟩
          · exact Or.inr ⟨by rw [if_neg (by omega)], by rw [t9]; exact x2⟩
        · omega
      · rcases py with ⟨y1, _⟩ | ⟨_, rfl, wh, rfl⟩
        · omega
        · obtain ⟨⟨t9, t0, t1⟩, t2, _, t4⟩ := m0 n2
          obtain ⟨t5, _, t7, t8⟩ := t4 (by rw [pt]; omega)
          rw [pt, ← q1, ← q3, n4] at t5
          rw [n4] at t7 t8
          have nn : 0 ≤ ntT U (isP U a b) := by unfold ntT; split <;> omega
          have wq := whr_q (tp := Xi U 9 (mnV U (a + 1) (re7 (ty7 U) (a + 1)) % 256).toNat) sc hh.1 hh.2.1 hh.2.2.2.2.1 ⟨by omega, by omega⟩ (tb _) n6 n7
          obtain ⟨w1, w2, w3, w4⟩ := wq.1 t g wh
          have nt := t5 w1
          rw [nt2] at nt
          refine ⟨nt, ⟨by rw [t0]; exact n3, by unfold ntT; split <;> omega⟩, by rw [t1]; exact tt.1, Or.inr (Or.inr (Or.inr (Or.inr (Or.inr ?_))))⟩
          by_cases tx : Xi U 9 (mnV U (a + 1) (re7 (ty7 U) (a + 1)) % 256).toNat = 1
          · right
            rw [if_pos tx]
            refine ⟨rfl, by rw [t9]; exact n2, by rw [t2]; exact pt, ⟨q2.1, q2.2.1⟩, tx, ?_⟩
            have t102 := w4 tx
            have xq := txt_r sc st tok (hpl _) ⟨by omega, by omega⟩ t102
            rw [t7, t8, ← w2, ← w3]
            have e7 : t = pc7 U (isP U a b + 1 + ntT U (isP U a b)) + 1 ∧ g = Xj U 879 (isP U a b + 1 + ntT U (isP U a b)).toNat := by
              rcases wh with ⟨u1, _⟩ | ⟨_, _, u3, u4⟩ | ⟨_, u2, _⟩
              · omega
              · exact ⟨u3, u4⟩
              · exact absurd ⟨tx, t102⟩ u2
            refine ⟨rfl, fun i i0 i1 => ?_⟩
            rw [s6]
            have xx := xq.2 i i0 (by omega)
            rw [show Xi S 908 (f + (isP U a b + 1 + ntT U (isP U a b)).toNat) = pc7 U (isP U a b + 1 + ntT U (isP U a b)) by
              rw [pc_r sc ⟨by omega, by omega⟩, show ((f : Int) + (isP U a b + 1 + ntT U (isP U a b))).toNat = f + (isP U a b + 1 + ntT U (isP U a b)).toNat by omega]] at xx
            rw [e7.1]; exact xx
          · left
            rw [if_neg tx]
            have g0 : g = 0 := by
              rcases wh with ⟨_, _, _, u4⟩ | ⟨u1, _⟩ | ⟨_, _, _, _, _, _, u7⟩
              · exact u4
              · exact absurd u1 tx
              · exact u7
            exact ⟨rfl, by rw [t9]; exact n2, by rw [t2]; exact pt, ⟨q2.1, q2.2.1⟩, tx, by rw [t7]; exact w2.symm, g0, by rw [t8, ← w3]; exact g0⟩
    · exact absurd bp y0
  · obtain ⟨nb, i1, i2, th, s53, i3, sh⟩ := sh
    have ne : isP U a b ≠ -1 := by omega
    rcases y with ⟨y0, _⟩ | ⟨_, y0, _⟩ | ⟨_, _, rfl, wn, rfl, rfl, y⟩
    · exact absurd y0 ne
    · exact absurd y0 nb
    · obtain ⟨th1, th2, th3, th4, th5, th6⟩ := th
      have tt := th6 wn
      have mt : mT1 S c = mtV S (Xi S 954 c) (Xi S 955 c) := by unfold mT1; rw [ec]
      rw [← mt] at tt
      have n9 := (tmp_9 tt.1).1
      have nt1 : nT1 S c = NT3 S := by unfold nT1; rw [if_pos n9]
      have nn : ntT U (isP U a b) = 0 ∨ ntT U (isP U a b) = 1 := by unfold ntT; split <;> omega
      rcases sh with ⟨u1, u2, u3⟩ | ⟨u1, _, u2, u3, u4, u5, th'⟩
      · rcases y with ⟨⟨y1, _⟩, _⟩ | ⟨_, y1, rfl, rfl, rfl, rfl⟩
        · exact absurd u1 y1
        · obtain ⟨⟨t9, t0, t1⟩, _, t4⟩ := m3 u2
          obtain ⟨t5, t6, _⟩ := t4 n9
          obtain ⟨a1, a2, a3⟩ := a3_r (now := now) v u3 ⟨tt.2.2.1, tt.2.2.2⟩ rfl tt.2.1 s53
          have ad1 : aT3 S c now = 1 := by rw [a1]; exact y1
          rw [if_pos (by omega), if_pos (by omega), nt1] at t5
          have t6 := t6 (by omega)
          obtain ⟨cd, ca, cb⟩ := a3 ad1
          refine ⟨t5, ⟨by rw [t0]; exact s53, nn⟩, by rw [t1]; exact tt.1, Or.inr (Or.inr ?_)⟩
          rcases cd with ⟨d1, d2, d3, d4⟩ | ⟨d1, d2, d3, d4⟩
          · rw [if_pos d1, if_pos d1]
            exact Or.inl ⟨rfl, by rw [t9]; exact u2, by rw [t6]; exact d2, d3, ca d1, d4⟩
          · have dn : rlF U (whkC U a b) (wJ U a b) b (1 - ntT U (isP U a b)) ≠ -1 := by omega
            rw [if_neg dn, if_neg dn]
            obtain ⟨b1, b2, b3, b4⟩ := cb dn
            refine Or.inr (Or.inl ⟨rfl, by rw [t9]; exact u2, ?_, rfl, by rw [t6]; exact d2, ⟨d1.1, b1, d1.2⟩, ⟨d3, b2⟩, by rw [b4]; exact b3⟩)
            apply Classical.byContradiction
            intro w
            have n1 : ntT U (isP U a b) = 1 := by omega
            unfold rlF at dn
            rw [n1, if_pos (Or.inr (by omega))] at dn
            exact dn rfl
      · rcases y with ⟨⟨_, rfl, rfl⟩, rfl, rfl, mn⟩ | ⟨y1, _⟩
        · obtain ⟨⟨t9, t0, t1⟩, t5, t3, t4⟩ := m4 u2
          have tt2 := th'.2.2.2.2.2 mn
          have mt2 : mT2 S c = mtV S (Xi S 959 c) (Xi S 960 c) := by unfold mT2; rw [ec]
          rw [← mt2] at tt2
          rw [if_pos (tmp_9 tt2.1).1, nt1] at t4
          exact ⟨t4, ⟨by rw [t0]; exact s53, nn⟩, by rw [t1]; exact tt.1, Or.inr (Or.inl ⟨rfl, by rw [t9]; exact u2, by rw [t5]; exact tt2.1, by rw [t3]; exact u3, by omega, by omega⟩)⟩
        · exact absurd y1 u1
/-- a test that isn't good: the same fault -/
theorem tsn_r {U S S1 : sS} {f c : Nat} {a b q now cc r : Int} (v : ENV U S f) (h0 : 0 ≤ a) (hb : b < Xi U 876 7) (hn : now = 0 ∨ now = 1) (rd : TSTR (tkR S) S c (f + a) (f + b) now) (tm : TMX S S1 c q now) (x0 : (NT3 S).1 = 0) (y : TSN U a b now cc r) : NTB (NT3 S1) cc (pc7 U r) ∧ cc ≠ 0 ∧ a ≤ r ∧ r < b := by
  have ec : ((c : Nat) : Int).toNat = c := by omega
  obtain ⟨e1, e2, ab, et, sh⟩ := shp_r v h0 hb hn rd
  have v' := v
  obtain ⟨hh, sc, tb, sl, ⟨st, tok, hpl⟩, f5, plo⟩ := v'
  unfold TMX TM5 TM4 TM3 TM0 TM1 TMB at tm
  rw [ec] at tm
  obtain ⟨m5, m4, m3, m0, m1, _⟩ := tm
  have mt : mT1 S c = mtV S (Xi S 954 c) (Xi S 955 c) := by unfold mT1; rw [ec]
  have over : ∀ (x : Int × Int × Int) (p p2 : Int), p < p2 → (x.1 = 0 ∨ NTB x 4 p2) → NTB (ntF x 4 p) 4 p := fun x p p2 lt hx => by
    unfold ntF
    rw [if_pos]
    · exact ⟨rfl, rfl⟩
    · rcases hx with w | w
      · exact Or.inl w
      · exact Or.inr (Or.inl (by rw [w.2]; exact lt))
  have same : ∀ (p : Int), NTB (ntF (4, p, 2) 4 p) 4 p := fun p => by rw [nt44]; exact ⟨rfl, rfl⟩
  have n1c : ∀ p2 : Int, p2 = Xi S 908 (Xi S 954 c % 10000).toNat → (nT1 S c).1 = 0 ∨ NTB (nT1 S c) 4 p2 := fun p2 e => by
    unfold nT1
    rw [ec]
    by_cases w : mT1 S c ≠ -9
    · rw [if_pos w]; exact Or.inl x0
    · rw [if_neg w, ← e]; exact Or.inr (ntb_1 x0)
  rcases sh with ⟨s1, s2, s3⟩ | sh | sh
  · rcases y with ⟨y0, y1, rfl, rfl⟩ | ⟨y0, _⟩ | ⟨y0, _⟩ | ⟨y0, _⟩ | ⟨y0, _⟩
    · obtain ⟨t9, t0, c1, sy, nt⟩ := m5 s1
      rw [e1, e2] at sy
      obtain ⟨k1, k2, _⟩ := say_r hh sc tb sl h0 ab hb et sy
      rw [← k1] at y1 ⊢
      rw [e1, ← pc_r sc ⟨h0, by omega⟩] at nt
      rw [nt]
      refine ⟨?_, by split <;> decide, Int.le_refl _, ab⟩
      by_cases w : c1 = 0
      · rw [if_pos w, if_pos (by omega), if_neg (by omega)]; exact ntb_1 x0
      · rw [if_neg w, if_neg (by omega), if_pos (by omega)]; exact ntb_1 x0
    all_goals exact absurd s3 y0
  · obtain ⟨bp, i1, i2, rn, i3, th, sh⟩ := sh
    have ne : isP U a b ≠ -1 := by omega
    obtain ⟨th1, th2, th3, th4, th5, th6⟩ := th
    obtain ⟨p1, p2, p3, p4, p5⟩ := pok_r v rn th5 th6
    rw [← mt] at p3 p4 p5 th5 th6
    have rp : pc7 U (a + 1) = pR S (Xi S 956 c) := rn_pc (scx_s sc hh.1) rn
    have rl := rn.2.1
    have lt : pc7 U (a + 1) < pc7 U (whrC U (re7 (ty7 U) (a + 1) + 1)) := plo _ _ (by omega) (by omega) (by omega)
    have n1 := n1c _ th4
    rcases y with ⟨y0, _⟩ | ⟨_, _, py⟩ | ⟨_, y0, _⟩ | ⟨_, y0, _⟩ | ⟨_, y0, _⟩
    · exact absurd y0 ne
    · rcases py with ⟨bad, rfl, rfl⟩ | ⟨ok, wn, rfl, rfl⟩ | ⟨ok, wn, nm, nw, rfl, rfl⟩
      · refine ⟨?_, by decide, by omega, by omega⟩
        rw [rp]
        by_cases pk : pmK S (Xi S 956 c) (mT1 S c)
        · have pq := p3.2 pk
          obtain ⟨q1, q2, q3⟩ := p1 pq.1
          have nt2 : nT2 S c = nT1 S c := by unfold nT2; rw [ec, if_pos pk]
          have nty : numT U (isP U a b) ≠ 0 ∧ Xi U 9 (mnV U (a + 1) (re7 (ty7 U) (a + 1)) % 256).toNat ≠ 0 := by
            constructor
            · intro w; exact bad ⟨pq.1, Or.inl w, pq.2⟩
            · intro w; exact bad ⟨pq.1, Or.inr w, pq.2⟩
          rcases sh with ⟨_, s2, _⟩ | ⟨s1, _⟩
          · obtain ⟨_, _, _, _, t5⟩ := m1 (by omega)
            rw [t5 (fun w => by
              rcases w with w | w
              · rw [q1] at w; omega
              · rw [← q3] at w; exact nty.2 w), nt2]
            exact over _ _ _ (by rw [← rp]; exact lt) n1
          · exact absurd s1 nty.1
        · have nt2 : nT2 S c = ntF (nT1 S c) 4 (pR S (Xi S 956 c)) := by unfold nT2; rw [ec, if_neg pk]
          have b2 : NTB (nT2 S c) 4 (pR S (Xi S 956 c)) := by rw [nt2]; exact over _ _ _ (by rw [← rp]; exact lt) n1
          have e2' : nT2 S c = (4, pR S (Xi S 956 c), 2) := by
            rw [nt2]
            unfold ntF
            rw [if_pos]
            · rfl
            · rcases n1 with w | w
              · exact Or.inl w
              · exact Or.inr (Or.inl (by rw [w.2, ← rp]; exact lt))
          have z0 : pT0 S c = -1 := by
            unfold pT0
            rw [ec]
            by_cases w : whoC U (re7 (ty7 U) (a + 1) + 1) (Xi U 876 7 - 1) = -1
            · exact p5 w
            · exact (p4 w).2 pk
          rcases sh with ⟨_, s2, _⟩ | ⟨_, s2, _⟩
          · obtain ⟨_, _, _, t4, t5⟩ := m1 (by omega)
            by_cases w : rnR S (Xi S 956 c) 7 = -1 ∨ Xi S 928 (rnR S (Xi S 956 c) 7).toNat = 0
            · rw [t4 w]; exact b2
            · rw [t5 w, e2']; exact same _
          · obtain ⟨_, _, t3, _⟩ := m0 s2
            rw [t3 z0]; exact b2
      · refine ⟨?_, by decide, by omega, by omega⟩
        obtain ⟨o1, o2, o3⟩ := ok
        have pk := p3.1 ⟨o1, o3⟩
        obtain ⟨q1, q2, q3⟩ := p1 o1
        have n9 := (th5 wn).1
        have nt2 : nT2 S c = ntF (NT3 S) 4 (pc7 U (whrC U (re7 (ty7 U) (a + 1) + 1))) := by
          unfold nT2
          rw [ec, if_pos pk]
          unfold nT1
          rw [if_neg (fun w => w n9), ec, ← th4]
        have b2 : NTB (nT2 S c) 4 (pc7 U (whrC U (re7 (ty7 U) (a + 1) + 1))) := by rw [nt2]; exact ntb_1 x0
        have z0 : pT0 S c = -1 := by unfold pT0; rw [ec]; exact p5 wn
        rcases sh with ⟨s1, s2, _⟩ | ⟨_, s2, _⟩
        · obtain ⟨_, _, _, t4, _⟩ := m1 (by omega)
          rw [t4 (Or.inr (by rw [← q3]; exact o2.resolve_left (by omega)))]; exact b2
        · obtain ⟨_, _, t3, _⟩ := m0 s2
          rw [t3 z0]; exact b2
      · obtain ⟨o1, o2, o3⟩ := ok
        have pk := p3.1 ⟨o1, o3⟩
        obtain ⟨q1, q2, q3⟩ := p1 o1
        have n9 := (tmp_9 (th6 wn).1).1
        have nt2 : nT2 S c = NT3 S := by
          unfold nT2
          rw [ec, if_pos pk]
          unfold nT1
          rw [if_pos n9]
        have pt : pT0 S c = mnV U (a + 1) (re7 (ty7 U) (a + 1)) % 256 := by unfold pT0; rw [ec]; exact (p4 wn).1 pk
        have nn : 0 ≤ ntT U (isP U a b) := by unfold ntT; split <;> omega
        rcases sh with ⟨s1, _⟩ | ⟨_, n2, n3, n4, n5, n6, n7⟩
        · omega
        · refine ⟨?_, by decide, by omega, by omega⟩
          obtain ⟨_, _, _, t4⟩ := m0 n2
          obtain ⟨_, t6, _⟩ := t4 (by rw [pt]; omega)
          rw [pt, ← q1, ← q3, n4, nt2] at t6
          have wq := whr_q (tp := Xi U 9 (mnV U (a + 1) (re7 (ty7 U) (a + 1)) % 256).toNat) sc hh.1 hh.2.1 hh.2.2.2.2.1 ⟨by omega, by omega⟩ (tb _) n6 n7
          rw [t6 (fun w => by obtain ⟨x, l, z⟩ := wq.2 w; exact nw x l z), ← pc_r sc ⟨by omega, by omega⟩]
          exact ntb_1 x0
    all_goals exact absurd bp y0
  · obtain ⟨nb, i1, i2, th, s53, i3, sh⟩ := sh
    have ne : isP U a b ≠ -1 := by omega
    obtain ⟨th1, th2, th3, th4, th5, th6⟩ := th
    rw [← mt] at th5 th6
    have wj : isP U a b < wJ U a b := by unfold wJ; have : 0 ≤ ntT U (isP U a b) := by { unfold ntT; split <;> omega }; omega
    rcases y with ⟨y0, _⟩ | ⟨_, y0, _⟩ | ⟨_, _, wn, rfl, rfl⟩ | ⟨_, _, wn, y1, y2, rfl, rfl⟩ | ⟨_, _, wn, y1, y2, rfl, rfl⟩
    · exact absurd y0 ne
    · exact absurd y0 nb
    · refine ⟨?_, by decide, by omega, by omega⟩
      have n9 := (th5 wn).1
      have nt1 : nT1 S c = ntF (NT3 S) 4 (pc7 U (whrC U a)) := by unfold nT1; rw [if_neg (fun w => w n9), ec, ← th4]
      rcases sh with ⟨_, u2, _⟩ | ⟨_, _, u2, _, _, u5, th'⟩
      · obtain ⟨_, t3, _⟩ := m3 u2
        rw [t3 n9, nt1]; exact ntb_1 x0
      · obtain ⟨_, _, _, t4⟩ := m4 u2
        rw [t4]
        by_cases w : mT2 S c ≠ -9
        · rw [if_pos w, nt1]; exact ntb_1 x0
        · rw [if_neg w, nt1, ← th'.2.2.2.1]
          exact ntb_k (ntb_1 x0) (by decide) (plo _ _ (by omega) (by have := th'.2.2.1; omega) (by have := th'.2.2.1; omega))
    · have n9 := (tmp_9 (th6 wn).1).1
      have nt1 : nT1 S c = NT3 S := by unfold nT1; rw [if_pos n9]
      rcases sh with ⟨u1, _⟩ | ⟨_, _, u2, _, _, u5, th'⟩
      · exact absurd u1 y1
      · refine ⟨?_, by decide, by have := th'.2.2.1; omega, by have := th'.2.2.1; omega⟩
        obtain ⟨_, _, _, t4⟩ := m4 u2
        have m2 : mT2 S c = -9 := by unfold mT2; rw [ec]; exact (th'.2.2.2.2.1 y2).1
        rw [t4, if_neg (fun w => w m2), nt1, ← th'.2.2.2.1]
        exact ntb_1 x0
    · have tt := th6 wn
      have n9 := (tmp_9 tt.1).1
      have nt1 : nT1 S c = NT3 S := by unfold nT1; rw [if_pos n9]
      rcases sh with ⟨u1, u2, u3⟩ | ⟨u1, _⟩
      · obtain ⟨_, _, t4⟩ := m3 u2
        obtain ⟨t5, _⟩ := t4 n9
        obtain ⟨a1, a2, _⟩ := a3_r (now := now) v u3 ⟨tt.2.2.1, tt.2.2.2⟩ rfl tt.2.1 s53
        have rp : pc7 U (wJ U a b) = pR S (Xi S 956 c) := rn_pc (scx_s sc hh.1) u3
        rw [← a1] at y2 ⊢
        unfold rT3 at t5
        rw [ec, nt1, ← rp] at t5
        rw [t5]
        refine ⟨?_, by split <;> decide, by omega, by omega⟩
        by_cases w : aT3 S c now = 0
        · rw [if_pos w, if_pos (by omega), if_neg (by omega)]; exact ntb_1 x0
        · rw [if_neg w, if_neg (by omega), if_pos (by omega)]; exact ntb_1 x0
      · exact absurd y1 u1
end
section
/-! class and reference: TESTS -/
theorem rst_3 {U S : sS} (h : RST U S) : TX3 U := by
  obtain ⟨⟨_, t⟩, _⟩ := h
  unfold TX3
  rcases t with q | q
  · exact Or.inr (Or.inl q)
  · exact Or.inr (Or.inr q)
theorem env_k {l : List rec} {U S T : sS} {f : Nat} (v : ENV U S f) (F : FR l S T) (e : kepC l [(906, 907), (912, 923), (924, 946), (907, 911)] [(904, 15), (904, 16), (904, 18), (904, 19), (904, 23), (904, 30), (904, 32), (904, 41), (904, 47), (904, 49), (904, 51), (904, 60), (904, 115), (904, 116)] = true) : ENV U T f := by
  obtain ⟨h, sc, tb, sl, ⟨st, tok, hpl⟩, f5, plo⟩ := v
  have k := F.kep e
  refine ⟨h.k (rst_3 st) KEP.rf (k.le rfl (by decide)), sc.kS (k.le rfl (by decide)), tb, ?_, ⟨⟨st.1, fun j hj => by rw [k.x 906 rfl j]; exact st.2 j hj⟩, tok, hpl⟩, f5, plo⟩
  unfold SLF
  rw [k.f 904 115 (by decide), k.f 904 116 (by decide)]
  exact sl
/-- what was kept of a test stays -/
theorem tstr_q {S T : sS} {c : Nat} {p e now : Int} (k : KEP [(907, 908), (950, 963)] [(904, 69)] S T) (h : TSTR (tkR S) S c p e now) : TSTR (tkR T) T c p e now := by
  have et : tkR T = tkR S := by funext i; unfold tkR; exact k.x 907 rfl _
  have u0 : ∀ j, Xi T 950 j = Xi S 950 j := k.x 950 rfl
  have u1 : ∀ j, Xi T 951 j = Xi S 951 j := k.x 951 rfl
  have u2 : ∀ j, Xi T 952 j = Xi S 952 j := k.x 952 rfl
  have u3 : ∀ j, Xi T 953 j = Xi S 953 j := k.x 953 rfl
  have u4 : ∀ j, Xi T 954 j = Xi S 954 j := k.x 954 rfl
  have u5 : ∀ j, Xi T 955 j = Xi S 955 j := k.x 955 rfl
  have u6 : ∀ j, Xi T 956 j = Xi S 956 j := k.x 956 rfl
  have u7 : ∀ j, Xi T 957 j = Xi S 957 j := k.x 957 rfl
  have u8 : ∀ j, Xi T 958 j = Xi S 958 j := k.x 958 rfl
  have u9 : ∀ j, Xi T 959 j = Xi S 959 j := k.x 959 rfl
  have ua : ∀ j, Xi T 960 j = Xi S 960 j := k.x 960 rfl
  have ub : ∀ j, Xi T 961 j = Xi S 961 j := k.x 961 rfl
  have uc : ∀ j, Xi T 962 j = Xi S 962 j := k.x 962 rfl
  have ud : Xi T 904 69 = Xi S 904 69 := k.f 904 69 (by decide)
  rw [et]
  unfold TSTR TSB PRE THE TH3 TWE WHE RR at h ⊢
  simp only [u0, u1, u2, u3, u4, u5, u6, u7, u8, u9, ua, ub, uc, ud]
  exact h
/-- a chain of tests, where the class finds them -/
theorem tsq_r {U S V : sS} {f c : Nat} {a : Int} (sc : SCX U S f) (tb : ∀ i : Int, 0 ≤ ty7 U i ∧ ty7 U i ≤ 108) (h0 : 0 ≤ a) : ∀ (n : Nat) (e : Int), TSQ (tkR S) V c (f + a) (n + 1) (f + e) → e < Xi U 876 7 → (∀ k : Nat, k ≤ n → TSTR (tkR S) V (c + k) (f + pT7 U a k) (f + eT7 U a k) 0 ∧ a ≤ pT7 U a k ∧ pT7 U a k < eT7 U a k ∧ eT7 U a k ≤ e) ∧ eT7 U a n = e ∧ (∀ k : Nat, k < n → ty7 U (eT7 U a k) = 16)
  | 0, e, t, he => by
    have t : TSTR (tkR S) V c (f + a) (f + e) 0 := t
    obtain ⟨r1, r2, _⟩ := te_r sc tb h0 he t
    have e0 : eT7 U a 0 = e := r2
    have p0 : pT7 U a 0 = a := rfl
    refine ⟨fun k hk => ?_, e0, fun k hk => absurd hk (Nat.not_lt_zero _)⟩
    have : k = 0 := by omega
    subst this
    rw [e0, p0, Nat.add_zero]
    exact ⟨t, Int.le_refl _, r1, Int.le_refl _⟩
  | n + 1, e, t, he => by
    obtain ⟨q, t1, t2, t3⟩ := t
    have in3 := (ts_in t3).1
    have qa : (f : Int) + a < q := by
      have g : ∀ (m : Nat) (x : Int), TSQ (tkR S) V c (f + a) (m + 1) x → (f : Int) + a < x := fun m => by
        induction m with
        | zero => intro x w; exact (ts_in w).1
        | succ m ih =>
          intro x w
          obtain ⟨y, w1, _, w3⟩ := w
          have := ih y w1
          have := (ts_in w3).1
          omega
      exact g n q t1
    obtain ⟨Q, rfl⟩ : ∃ x : Int, q = f + x := ⟨q - f, by omega⟩
    obtain ⟨i1, i2, i3⟩ := tsq_r sc tb h0 n Q t1 (by omega)
    have pn : pT7 U a (n + 1) = Q + 1 := by show eT7 U a n + 1 = Q + 1; rw [i2]
    rw [show (f : Int) + Q + 1 = f + (Q + 1) by omega] at t3
    obtain ⟨r1, r2, _⟩ := te_r sc tb (by omega) he t3
    have en : eT7 U a (n + 1) = e := by unfold eT7; rw [pn]; exact r2
    refine ⟨fun k hk => ?_, en, fun k hk => ?_⟩
    · by_cases w : k ≤ n
      · obtain ⟨x1, x2, x3, x4⟩ := i1 k w
        exact ⟨x1, x2, x3, by omega⟩
      · have : k = n + 1 := by omega
        subst this
        rw [en, pn]
        exact ⟨t3, by omega, r1, Int.le_refl _⟩
    · by_cases w : k < n
      · exact i3 k w
      · have : k = n := by omega
        subst this
        rw [i2]
        rw [tkx sc ⟨by omega, by omega⟩] at t2
        have := (tr_key (tb Q) (by omega)).1 t2
        omega
theorem pt_lt {U : sS} {a : Int} : ∀ (m k : Nat), (∀ j : Nat, j ≤ k + m → pT7 U a j < eT7 U a j) → eT7 U a k < pT7 U a (k + m + 1)
  | 0, k, h => by show eT7 U a k < eT7 U a k + 1; omega
  | m + 1, k, h => by
    have ih := pt_lt m k (fun j hj => h j (by omega))
    have := h (k + m + 1) (by omega)
    show eT7 U a k < eT7 U a (k + m + 1) + 1
    omega
theorem tsr_f {C : sS} : ∀ (n : Nat) (W : sS), TSR md_mo_need__p md_mo_testMeant__p C n W → FR md_mo_testMeant__p C W
  | 0, W, h => by have h : W = C := h; rw [h]; exact FR.rf
  | n + 1, W, h => by
    obtain ⟨X, A, h1, h2, _, h4, _⟩ := h
    exact ((tsr_f n X h1).tr h2 rfl).tr h4 rfl
/-- the tests as the reading has left them -/
def TCH (U C : sS) (f : Nat) (a : Int) (N : Nat) : Prop := ∀ k : Nat, k < N → TSTR (tkR C) C k (f + pT7 U a k) (f + eT7 U a k) 0 ∧ a ≤ pT7 U a k ∧ pT7 U a k < eT7 U a k ∧ eT7 U a k < Xi U 876 7
theorem tch_s {U C W X T A : sS} {f n N : Nat} {a : Int} (v : ENV U C f) (ch : TCH U C f a N) (hn : n < N) (F : FR md_mo_testMeant__p C A) : ENV U A f ∧ TSTR (tkR A) A n (f + pT7 U a n) (f + eT7 U a n) 0 := ⟨env_k v F rfl, tstr_q (F.kep rfl : KEP [(907, 908), (950, 963)] [(904, 69)] C A) (ch n hn).1⟩
theorem rk_nn {f : Int} : 0 ≤ rk7 f := by unfold rk7; (repeat' split) <;> decide
theorem ntg_9 {p : Int} : ∀ (l : List (Int × Int)), (∀ u ∈ l, p ≤ u.2) → l.foldl (fun x u => ntF x u.1 u.2) ((9, p, 0) : Int × Int × Int) = (9, p, 0)
  | [], _ => rfl
  | u :: l, k => by
    have hu := k u (List.mem_cons_self ..)
    have e : ntF (9, p, 0) u.1 u.2 = (9, p, 0) := by
      unfold ntF
      rw [if_neg]
      rintro (w | w | w)
      · exact absurd w (by show ¬ (9 : Int) = 0; decide)
      · have w : u.2 < p := w; omega
      · have w2 : rk7 u.1 < 0 := w.2
        have := rk_nn (f := u.1)
        omega
    show l.foldl (fun x u => ntF x u.1 u.2) (ntF (9, p, 0) u.1 u.2) = _
    rw [e]
    exact ntg_9 l (fun v hv => k v (List.mem_cons_of_mem _ hv))
/-- all notes of TESTS are at their places -/
theorem tsr_g {U C : sS} {f N : Nat} {a : Int} (v : ENV U C f) (h0 : 0 ≤ a) (ch : TCH U C f a N) : ∀ (n : Nat) (W : sS), n ≤ N → TSR md_mo_need__p md_mo_testMeant__p C n W → NTG (pc7 U a) (NT3 C) (NT3 W) ∧ ∀ k : Nat, k ≤ n → ∃ X : sS, TSR md_mo_need__p md_mo_testMeant__p C k X ∧ (k = n → X = W) ∧ (k < n → NTG (pc7 U (pT7 U a k)) (NT3 X) (NT3 W))
  | 0, W, hn, h => by
    have h : W = C := h
    subst h
    exact ⟨ntg_0, fun k hk => ⟨W, by have e : k = 0 := (by omega); subst e; rfl, fun _ => rfl, fun w => by omega⟩⟩
  | n + 1, W, hn, h => by
    have hw := h
    obtain ⟨X, A, h1, h2, h3, h4, h5⟩ := h
    obtain ⟨i1, i2⟩ := tsr_g v h0 ch n X (by omega) h1
    have FX := tsr_f n X h1
    obtain ⟨x1, x2, x3, x4⟩ := ch n (by omega)
    obtain ⟨vA, tA⟩ := tch_s (W := A) (X := A) (T := A) (n := n) v ch (by omega) (FX.tr h2 rfl)
    have g := tsg_r vA (by omega) x4 (Or.inl rfl) tA h5
    have pl : Xi C 908 (Xi C 961 n).toNat = pc7 U (pT7 U a n) := by rw [x1.1]; exact (pc_r v.2.1 ⟨by omega, by omega⟩).symm
    have gA : NTG (pc7 U (pT7 U a n)) (NT3 X) (NT3 A) := by
      rw [h3, pl]
      exact ntg_if ntg_0 (ntg_1 (Int.le_refl _))
    have gW := ntg_t gA g
    refine ⟨ntg_t i1 (ntg_le gW (plo_le v h0 x2 (by omega))), fun k hk => ?_⟩
    by_cases w : k = n + 1
    · exact ⟨W, by rw [w]; exact hw, fun _ => rfl, fun z => by omega⟩
    · obtain ⟨Y, y1, _, y2⟩ := i2 k (by omega)
      by_cases w2 : k = n
      · subst w2
        refine ⟨X, h1, fun w => by omega, fun _ => gW⟩
      · refine ⟨Y, y1, fun w => by omega, fun _ => ntg_t (y2 (by omega)) (ntg_le gW (plo_le v (by have := (ch k (by omega)).2.1; omega) ?_ (by omega)))⟩
        have e := pt_lt (U := U) (a := a) (n - k - 1) k (fun j hj => (ch j (by omega)).2.2.1)
        rw [show k + (n - k - 1) + 1 = n by omega] at e
        have := (ch k (by omega)).2.2.1
        omega
theorem tqf_k {U S T : sS} {q : Nat} {sk fm n w h t g m : Int} (e : ∀ k : Nat, 969 ≤ k → k ≤ 975 → Xi T k q = Xi S k q) (s6 : ∀ j, Xi T 906 j = Xi S 906 j) (x : TQF U S q sk fm n w h t g m) : TQF U T q sk fm n w h t g m := by
  have e9 := e 969 (by omega) (by omega)
  have e0 := e 970 (by omega) (by omega)
  have e1 := e 971 (by omega) (by omega)
  have e2 := e 972 (by omega) (by omega)
  have e3 := e 973 (by omega) (by omega)
  have e4 := e 974 (by omega) (by omega)
  have e5 := e 975 (by omega) (by omega)
  unfold TQF TXQ at x ⊢
  simp only [e9, e0, e1, e2, e3, e4, e5, s6]
  exact x
/-- TESTS that are good mean the same -/
theorem tsr_y {U C : sS} {f N : Nat} {a : Int} (v : ENV U C f) (h0 : 0 ≤ a) (ch : TCH U C f a N) (q0 : 0 ≤ Xi C 904 117) : ∀ (n : Nat) (W : sS), n ≤ N → n ≤ 6 → (∀ k : Nat, k < n → ∃ fm i w h t g m : Int, TSY U (pT7 U a k) (eT7 U a k) 0 fm i w h t g m) → TSR md_mo_need__p md_mo_testMeant__p C n W → NT3 W = NT3 C ∧ ∀ k : Nat, k < n → ∀ fm i w h t g m : Int, TSY U (pT7 U a k) (eT7 U a k) 0 fm i w h t g m → TQF U W (Xi C 904 117 + k).toNat (Xi U 895 3) fm i w h t g m
  | 0, W, _, _, _, h => by
    have h : W = C := h
    subst h
    exact ⟨rfl, fun k hk => absurd hk (Nat.not_lt_zero _)⟩
  | n + 1, W, hn, h6, gd, h => by
    obtain ⟨X, A, h1, h2, h3, h4, h5⟩ := h
    obtain ⟨i1, i2⟩ := tsr_y v h0 ch q0 n X (by omega) (by omega) (fun k hk => gd k (by omega)) h1
    have FX := tsr_f n X h1
    have FA := FX.tr h2 rfl
    obtain ⟨x1, x2, x3, x4⟩ := ch n (by omega)
    obtain ⟨vA, tA⟩ := tch_s (W := A) (X := A) (T := A) (n := n) v ch (by omega) FA
    have s6 : ∀ j, Xi W 906 j = Xi A 906 j := (h4.kep rfl : KEP [(906, 907)] [] A W).x 906 rfl
    rw [if_pos (by omega)] at h3
    have step : ∀ fm i w h t g m : Int, TSY U (pT7 U a n) (eT7 U a n) 0 fm i w h t g m → NT3 W = NT3 A ∧ TQF U W (Xi C 904 117 + n).toNat (Xi U 895 3) fm i w h t g m := fun fm i w h t g m y => tsy_r vA (by omega) x4 (Or.inl rfl) (by omega) tA h5 s6 y
    obtain ⟨_, _, _, _, _, _, _, y⟩ := gd n (by omega)
    refine ⟨(step _ _ _ _ _ _ _ y).1.trans (h3.trans i1), fun k hk fm i w h t g m z => ?_⟩
    by_cases e : k = n
    · subst e; exact (step _ _ _ _ _ _ _ z).2
    · refine tqf_k (fun c c0 c1 => ?_) (fun j => ?_) (i2 k (by omega) fm i w h t g m z)
      · have kq := h5.2.2.2.2.2 (Xi C 904 117 + k).toNat (by omega) c c0 c1
        rw [kq]
        rcases (by omega : c = 969 ∨ c = 970 ∨ c = 971 ∨ c = 972 ∨ c = 973 ∨ c = 974 ∨ c = 975) with u | u | u | u | u | u | u <;> (rw [u]; exact (h2.kep rfl : KEP [(969, 976)] [] X A).x _ rfl _)
      · rw [s6]; exact (h2.kep rfl : KEP [(906, 907)] [] X A).x 906 rfl j
/-- TESTS of both: good and the same, or the same fault -/
theorem tss_r {U B C S1 : sS} {f N : Nat} {a y : Int} (v : ENV U C f) (h0 : 0 ≤ a) (ch : TCH U C f a N) (q0 : 0 ≤ Xi C 904 117) (n0 : 0 < N) (mid : ∀ k : Nat, k + 1 < N → ty7 U (eT7 U a k) = 16) (last : ty7 U (eT7 U a (N - 1)) ≠ 16) (hy : y = 0 ∨ y = 1) (ts : TSS U B a y) (tr : TSR md_mo_need__p md_mo_testMeant__p C N S1) : (y = 1 → NT3 S1 = NT3 C ∧ N ≤ 6 ∧ Xi B 876 8 = 0 ∧ TCK U B a N ∧ ∀ k : Nat, k < N → ∃ fm i w h t g m : Int, CLM B ((Xi U 246 5).toNat + k) fm i w h t g m ∧ TQF U S1 (Xi C 904 117 + k).toNat (Xi U 895 3) fm i w h t g m) ∧ (y = 0 → (NT3 C).1 = 0 → NTB (NT3 S1) (Xi B 876 8) (Xi B 876 9)) := by
  have am : a ≠ -1 := by omega
  refine ⟨fun y1 => ?_, fun y0 x0 => ?_⟩
  · obtain ⟨n, m0, m6, f0, tk, le⟩ := ts.2.1 am y1
    have en : n = N := by
      by_cases w : n < N
      · exact absurd (mid (n - 1) (by omega)) le
      · by_cases w2 : N < n
        · exact absurd (tk.2.2.2.1 (N - 1) (by omega)) last
        · omega
    subst en
    have gd : ∀ k : Nat, k < n → ∃ fm i w h t g m : Int, TSY U (pT7 U a k) (eT7 U a k) 0 fm i w h t g m := fun k hk => by
      obtain ⟨fm, i, w, h, t, g, m, z, _⟩ := tk.2.2.1 k hk
      exact ⟨fm, i, w, h, t, g, m, z⟩
    obtain ⟨r1, r2⟩ := tsr_y v h0 ch q0 n S1 (Nat.le_refl _) m6 gd tr
    refine ⟨r1, m6, f0, tk, fun k hk => ?_⟩
    obtain ⟨fm, i, w, h, t, g, m, z, c⟩ := tk.2.2.1 k hk
    exact ⟨fm, i, w, h, t, g, m, c, r2 k hk fm i w h t g m z⟩
  · obtain ⟨n, m6, mi, gd, fin⟩ := ts.2.2 am y0
    have nN : n < N := by
      apply Classical.byContradiction
      intro w
      exact last (mi (N - 1) (by omega))
    obtain ⟨g1, g2⟩ := tsr_g v h0 ch N S1 (Nat.le_refl _) tr
    obtain ⟨Y, y1, y2, y3⟩ := g2 (n + 1) (by omega)
    obtain ⟨X, A, h1, h2, h3, h4, h5⟩ := y1
    have FX := tsr_f n X h1
    have FA := FX.tr h2 rfl
    obtain ⟨x1, x2, x3, x4⟩ := ch n (by omega)
    obtain ⟨vA, tA⟩ := tch_s (W := A) (X := A) (T := A) (n := n) v ch (by omega) FA
    obtain ⟨r1, _⟩ := tsr_y v h0 ch q0 n X (by omega) m6 gd h1
    have nx : pc7 U (pT7 U a n) ≤ pc7 U (pT7 U a n) := Int.le_refl _
    rcases fin with ⟨n6, ft⟩ | ⟨n6, c, r, tn, ft⟩
    · rw [ft.1, ft.2]
      have pl : Xi C 908 (Xi C 961 n).toNat = pc7 U (pT7 U a n) := by rw [x1.1]; exact (pc_r v.2.1 ⟨by omega, by omega⟩).symm
      rw [if_neg (by omega), pl, r1] at h3
      have e9 : NT3 A = (9, pc7 U (pT7 U a n), 0) := by rw [h3]; unfold ntF; rw [if_pos (Or.inl x0)]; rfl
      have gs := tsg_r vA (by omega) x4 (Or.inl rfl) tA h5
      have gf : NTG (pc7 U (pT7 U a n)) (NT3 A) (NT3 S1) := by
        by_cases w : n + 1 = N
        · rw [← y2 w]; exact gs
        · have e := (ch (n + 1) (by omega)).2.2.1
          have e' := (ch (n + 1) (by omega)).2.2.2
          exact ntg_t gs (ntg_le (y3 (by omega)) (plo_le v (by omega) (by show pT7 U a n ≤ eT7 U a n + 1; omega) (by omega)))
      rw [e9] at gf
      obtain ⟨l, l1, l2⟩ := gf
      rw [ntg_9 l l1] at l2
      rw [l2, ← n6]
      exact ⟨rfl, rfl⟩
    · rw [ft.1, ft.2]
      rw [if_pos (by omega)] at h3
      obtain ⟨b1, b2, b3, b4⟩ := tsn_r vA (by omega) x4 (Or.inl rfl) tA h5 (by rw [h3, r1]; exact x0) tn
      by_cases w : n + 1 = N
      · rw [← y2 w]; exact b1
      · have e := (ch (n + 1) (by omega)).2.2.1
        have e' := (ch (n + 1) (by omega)).2.2.2
        exact ntg_k (y3 (by omega)) b1 b2 (v.2.2.2.2.2.2 _ _ (by omega) (by show r < eT7 U a n + 1; omega) (by omega))
end
section
/-! class and reference: definitions, what the book keeps -/
def TQR (U S : sS) (cl q : Nat) (sk : Int) : Prop := ∃ fm n w h t g m : Int, CLM U cl fm n w h t g m ∧ TQF U S q sk fm n w h t g m
/-- how much there is -/
def BKC (U S : sS) : Prop := (0 ≤ Xi U 246 5 ∧ Xi U 246 5 ≤ 19 * Xi U 246 2 + 6 * (Xi U 5 3 - 2)) ∧ (0 ≤ Xi S 904 117 ∧ Xi S 904 117 ≤ 14 * Xi U 246 2 + 6 * (Xi U 5 3 - 2)) ∧ (0 ≤ Xi S 904 125 ∧ Xi S 904 125 ≤ 8 * Xi U 246 2) ∧ (Xi U 246 2 = Xi S 904 130 ∧ 0 ≤ Xi U 246 2 ∧ Xi U 246 2 ≤ 24) ∧ 0 ≤ Xi U 246 8
/-- DEFINED adjectives -/
def DF1 (U S : sS) (a : Nat) : Prop := (0 ≤ Xi U 12 a ∧ Xi U 12 a + Xi U 13 a ≤ Xi U 246 5) ∧ (0 ≤ Xi S 923 a ∧ Xi S 923 a + Xi U 13 a ≤ Xi S 904 117) ∧ (1 ≤ Xi U 13 a ∧ Xi U 13 a ≤ 6) ∧ ∀ k : Nat, (k : Int) < Xi U 13 a → TQR U S ((Xi U 12 a).toNat + k) ((Xi S 923 a).toNat + k) 54
def DFR (U S : sS) : Prop := ∀ a : Nat, (a : Int) < Xi U 5 3 → Xi U 11 a = -1 → DF1 U S a
theorem tqf_u {U U1 S : sS} {q : Nat} {sk fm n w h t g m : Int} (c : ∀ j, Xi U 5 j ≤ Xi U1 5 j) (n9 : ∀ p : Nat, (p : Int) < Xi U 5 5 → Xi U1 9 p = Xi U 9 p) (tx : ∀ j, Xi U1 (txr U1) j = Xi U (txr U) j) (x : TQF U S q sk fm n w h t g m) : TQF U1 S q sk fm n w h t g m := by
  have mk : ∀ a b : Int, TMK sk (Xi U 5 2) a b → TMK sk (Xi U1 5 2) a b := fun a b y => by
    rcases y with y | y
    · exact Or.inl y
    · exact Or.inr ⟨⟨y.1.1, by have := c 2; omega⟩, y.2⟩
  obtain ⟨x1, x2, x3⟩ := x
  refine ⟨x1, mk _ _ x2, ?_⟩
  have c3 := c 3
  have c4 := c 4
  have c5 := c 5
  have c6 := c 6
  rcases x3 with x | x | x | x | x | x | x
  · exact Or.inl ⟨x.1, x.2.1, x.2.2.1, mk _ _ x.2.2.2.1, x.2.2.2.2.1, x.2.2.2.2.2.1, by have := x.2.2.2.2.2.2; omega⟩
  · exact Or.inr (Or.inl ⟨x.1, x.2.1, mk _ _ x.2.2.1, x.2.2.2⟩)
  · exact Or.inr (Or.inr (Or.inl ⟨x.1, x.2.1, x.2.2.1, x.2.2.2.1, by have := x.2.2.2.2.1; omega, x.2.2.2.2.2⟩))
  · obtain ⟨y1, y2, y3, y4, y5, y6, y7, y8⟩ := x
    exact Or.inr (Or.inr (Or.inr (Or.inl ⟨y1, y2, y3, y4, y5, by omega, by omega, by rw [n9 _ (by omega)]; exact y8⟩)))
  · obtain ⟨y1, y2, y3, y4, y5, y6⟩ := x
    exact Or.inr (Or.inr (Or.inr (Or.inr (Or.inl ⟨y1, y2, y3, by omega, by rw [n9 _ (by omega)]; exact y5, y6⟩))))
  · obtain ⟨y1, y2, y3, y4, y5, y6⟩ := x
    exact Or.inr (Or.inr (Or.inr (Or.inr (Or.inr (Or.inl ⟨y1, y2, y3, by omega, by rw [n9 _ (by omega)]; exact y5, y6⟩)))))
  · obtain ⟨y1, y2, y3, y4, y5, y6, y7⟩ := x
    exact Or.inr (Or.inr (Or.inr (Or.inr (Or.inr (Or.inr ⟨y1, y2, y3, by omega, by rw [n9 _ (by omega)]; exact y5, y6, fun i i0 i1 => by rw [tx]; exact y7 i i0 i1⟩)))))
theorem tqr_k {U U1 S S1 : sS} {cl q : Nat} {sk : Int} (h : TQR U S cl q sk) (hc : ∀ j, Xi U1 (276 + cl) j = Xi U (276 + cl) j) (hq : ∀ k : Nat, 969 ≤ k → k ≤ 975 → Xi S1 k q = Xi S k q) (s6 : ∀ j, Xi S1 906 j = Xi S 906 j) (c : ∀ j, Xi U 5 j ≤ Xi U1 5 j) (n9 : ∀ p : Nat, (p : Int) < Xi U 5 5 → Xi U1 9 p = Xi U 9 p) (tx : ∀ j, Xi U1 (txr U1) j = Xi U (txr U) j) : TQR U1 S1 cl q sk := by
  obtain ⟨fm, n, w, h, t, g, m, x, y⟩ := h
  refine ⟨fm, n, w, h, t, g, m, ?_, tqf_u c n9 tx (tqf_k hq s6 y)⟩
  unfold CLM at x ⊢
  simp only [hc]
  exact x
theorem df1_k {U U1 S S1 : sS} {a : Nat} (h : DF1 U S a) (e12 : Xi U1 12 a = Xi U 12 a) (e13 : Xi U1 13 a = Xi U 13 a) (e23 : Xi S1 923 a = Xi S 923 a) (g5 : Xi U 246 5 ≤ Xi U1 246 5) (g7 : Xi S 904 117 ≤ Xi S1 904 117) (hc : ∀ c j : Nat, (c : Int) < Xi U 246 5 → Xi U1 (276 + c) j = Xi U (276 + c) j) (hq : ∀ i : Nat, (i : Int) < Xi S 904 117 → ∀ k : Nat, 969 ≤ k → k ≤ 975 → Xi S1 k i = Xi S k i) (s6 : ∀ j, Xi S1 906 j = Xi S 906 j) (c : ∀ j, Xi U 5 j ≤ Xi U1 5 j) (n9 : ∀ p : Nat, (p : Int) < Xi U 5 5 → Xi U1 9 p = Xi U 9 p) (tx : ∀ j, Xi U1 (txr U1) j = Xi U (txr U) j) : DF1 U1 S1 a := by
  obtain ⟨h1, h2, h3, h4⟩ := h
  unfold DF1
  rw [e12, e13, e23]
  exact ⟨by omega, by omega, h3, fun k hk => tqr_k (h4 k hk) (fun j => hc _ j (by omega)) (hq _ (by omega)) s6 c n9 tx⟩
theorem tsr_o {C : sS} (q0 : 0 ≤ Xi C 904 117) : ∀ (n : Nat) (W : sS), TSR md_mo_need__p md_mo_testMeant__p C n W → ∀ i : Nat, ((i : Int) < Xi C 904 117 ∨ Xi C 904 117 + n ≤ (i : Int)) → ∀ k : Nat, 969 ≤ k → k ≤ 975 → Xi W k i = Xi C k i
  | 0, W, h, i, _, k, _, _ => by have h : W = C := h; rw [h]
  | n + 1, W, h, i, hi, k, k0, k1 => by
    obtain ⟨X, A, h1, h2, _, h4, h5⟩ := h
    have ih := tsr_o q0 n X h1 i (by omega) k k0 k1
    rw [h5.2.2.2.2.2 i (by omega) k k0 k1, ← ih]
    rcases (by omega : k = 969 ∨ k = 970 ∨ k = 971 ∨ k = 972 ∨ k = 973 ∨ k = 974 ∨ k = 975) with u | u | u | u | u | u | u <;> (rw [u]; exact (h2.kep rfl : KEP [(969, 976)] [] X A).x _ rfl _)
theorem whg_k {c : Int → Int} {U U1 : sS} (k : KEP [(3, 5)] [(1, 3)] U U1) (h : WHG c U) : WHG c U1 := fun i hi => by
  rw [k.f 1 3 (by decide)] at hi
  rw [k.x 3 rfl, k.x 4 rfl]
  exact h i hi
def lQ4 : List rec := [(10, 11, 0, 100000), (11, 12, 0, 100000), (12, 13, 0, 100000), (13, 14, 0, 100000)]
theorem fr_q4 {V U1 : sS} {a : Nat} {x y z w : Int32} (ha : a < 100) (e : U1 = uI (uI (uI (uI V 10 a x) 11 a y) 12 a z) 13 a w) : FR lQ4 V U1 := by
  rw [e]
  exact FR.wI (FR.wI (FR.wI (FR.wI FR.rf (by unfold mdf inR lQ4; simp; omega)) (by unfold mdf inR lQ4; simp; omega)) (by unfold mdf inR lQ4; simp; omega)) (by unfold mdf inR lQ4; simp; omega)
/-- 2, told to both -/
theorem def_r {B U1 T S1 : sS} {f N : Nat} {z e1 a e2 : Int} (h : RLW B T) (t3 : TX3 B) (bkq : 0 ≤ Xi T 904 117 ∧ Xi T 904 117 ≤ 14 * Xi B 246 2 + 6 * (Xi B 5 3 - 2)) (bkr : Xi B 246 2 = Xi T 904 130 ∧ 0 ≤ Xi B 246 2 ∧ Xi B 246 2 ≤ 24) (df : DFR B T) (sT : SCX B T f) (k0 : RNR B T f 0 3 e1) (k1 : RNR B T f 1 a e2) (gk : fnd B 0 3 e1 ≠ -1) (g24 : Xi B 5 3 < 24) (gn : mnV B a e2 = -1 ∧ e2 - a ≤ 3) (b892 : Xi B 892 0 = a ∧ Xi B 893 0 = e2) (b895 : Xi B 895 4 = fnd B 0 3 e1 ∧ Xi B 895 3 = 54) (n94 : Xi T 904 94 = N) (hN : 0 < N ∧ N ≤ 6) (b6 : Xi B 899 6 = N) (base : Int) (b5 : Xi B 246 5 = base + N) (h0 : 0 ≤ base) (b19 : base + 6 ≤ 19 * Xi B 246 2 + 6 * (Xi B 5 3 - 2) + 6) (q14 : Xi T 904 117 + 6 ≤ 14 * Xi B 246 2 + 6 * (Xi B 5 3 - 2) + 6) (tq : ∀ k : Nat, k < N → TQR B T (base.toNat + k) ((Xi T 904 117).toNat + k) 54) (ed : EDF md_vo_tellNew__p B U1 z) (Fe : FR md_re_endDefinition__p B U1) (rd : RD2 md_mo_addAdjective__p T S1) (Fd : FR md_mo_does__2f T S1) : z = 1 ∧ RLW U1 S1 ∧ DFR U1 S1 ∧ Xi U1 246 5 = Xi B 246 5 ∧ Xi S1 904 117 = Xi T 904 117 + N ∧ Xi U1 5 3 = Xi B 5 3 + 1 := by
  obtain ⟨z1, V, i, FV, nm, cn, ck, kt⟩ := ed
  obtain ⟨A', B', FA', aj, eB', tl, FS⟩ := rd
  refine ⟨z1, ?_⟩
  obtain ⟨h1, h2, h3, h4, h5, h6, h7, h8, h9, h10, h11, h12, h13, h14, h15x⟩ := h
  have c3 := h3.2.2.2.1
  have h15 : 0 ≤ Xi T 904 15 := by have := h1.1.1; omega
  have fk : fnd B 0 3 e1 = rnR T 0 0 := rn_fnd (s := 0) (scx_s sT h1) k0 h1.2.2.2.1 h15 (by omega)
  have kl : 0 ≤ fnd B 0 3 e1 ∧ fnd B 0 3 e1 < Xi B 5 0 := fnd_wc (by omega) h1.2.2.1 h2 gk
  have f1 : FRS B 3 (Xi B 5 3) := frs_s h2 (by omega) (Int.le_refl _)
  have e3 : Xi T 904 23 = Xi B 5 3 := c3.1.symm
  unfold KTS at kt
  rw [b892.1, b892.2] at nm
  obtain ⟨n, en⟩ := Int.eq_ofNat_of_zero_le (show 0 ≤ Xi B 5 3 by omega)
  rw [en] at kt g24
  rw [show ((n : Nat) : Int).toNat = n by omega] at kt
  have FQ := fr_q4 (by omega) kt
  unfold ADJ at aj
  rw [e3, en] at aj eB' tl
  rw [show ((n : Nat) : Int).toNat = n by omega] at aj eB'
  -- the reference before the word is told
  have FB : FR [(904, 905, 23, 24), (904, 905, 117, 118), (921, 922, 0, 100000), (922, 923, 0, 100000), (923, 924, 0, 100000), (924, 925, 0, 100000)] T B' := by
    rw [eB']
    exact FR.wI (FR.wI (FR.wI (FA'.up rfl) (by unfold mdf inR; simp; omega)) (by unfold mdf inR; simp; omega)) (by unfold mdf inR; simp)
  have rvB : RVO B B' := h1.k KEP.rf (FB.kep rfl)
  have no := noe_run h1.2.2.1 h1.1.1.2 k1 sT.2 gn.2 gn.1
  have kB := k1.kS (FB.kep rfl : KEP [(950, 952)] [] T B')
  have sB := sT.kS (FB.kep rfl : KEP [(907, 911)] [] T B')
  have w1 := rvo_run rvB sB kB gn.2 nm (show TLW B' S1 B' 5 (Xi B 5 3) 1 from (by rw [en]; exact tl)) f1 (by decide) (by omega) (by omega) no
  have vU : KEP [(2, 5), (5, 6)] [(1, 3)] V U1 := FQ.kep rfl
  have c5 : ∀ j, Xi U1 5 j = Xi V 5 j := vU.x 5 rfl
  have cN : Xi U1 5 3 = Xi B 5 3 + 1 := by rw [c5]; exact cn
  have cc : ∀ j, j ≠ 3 → Xi U1 5 j = Xi B 5 j := fun j hj => by rw [c5]; exact ck j hj
  have cl := cnt_le cN (by omega) cc
  have s5 : ∀ j, j ∈ [16, 18, 19, 30, 32, 41, 47, 49] → Xi S1 904 j = Xi T 904 j := fun j hj => (Fd.kep rfl : KEP [] [(904, 16), (904, 18), (904, 19), (904, 30), (904, 32), (904, 41), (904, 47), (904, 49)] T S1).f 904 j (by revert hj; simp)
  obtain ⟨aj1, ⟨aj2, aj3, aj4⟩, aj5⟩ := aj
  have sF : KEP [(921, 925)] [(904, 23), (904, 117)] B' S1 := FS.kep rfl
  have q117 : Xi A' 904 117 = Xi T 904 117 := FA'.x 904 117 rfl
  have r23 : Xi S1 904 23 = n + 1 := by rw [sF.f 904 23 (by decide), eB', Xi_ne (by omega), Xi_ne (by omega), Xi_ne (by omega)]; exact aj1
  have r117 : Xi S1 904 117 = Xi T 904 117 + N := by rw [sF.f 904 117 (by decide), eB', Xi_same (by unfold rg; omega), n94]
  have r23n : Xi S1 923 n = Xi T 904 117 := by rw [sF.x 923 rfl, eB', Xi_ne (by omega), Xi_ne (by omega), Xi_same (by unfold rg; omega)]
  have r24n : Xi S1 924 n = N := by rw [sF.x 924 rfl, eB', Xi_ne (by omega), Xi_same (by unfold rg; omega), n94]
  have rold : ∀ x : Nat, x ≠ n → Xi S1 921 x = Xi T 921 x ∧ Xi S1 922 x = Xi T 922 x ∧ Xi S1 923 x = Xi T 923 x ∧ Xi S1 924 x = Xi T 924 x := fun x hx => by
    obtain ⟨o1, o2, o3⟩ := aj5 x hx
    refine ⟨?_, ?_, ?_, ?_⟩
    · rw [sF.x 921 rfl, eB', Xi_ne (by omega), Xi_ne (by omega), Xi_ne (by omega)]; exact o1
    · rw [sF.x 922 rfl, eB', Xi_ne (by omega), Xi_ne (by omega), Xi_ne (by omega)]; exact o2
    · rw [sF.x 923 rfl, eB', Xi_ne (by omega), Xi_ne (by omega), Xi_ne (by omega)]; exact (FA'.kep rfl : KEP [(923, 924)] [] T A').x 923 rfl x
    · rw [sF.x 924 rfl, eB', Xi_ne (by omega), Xi_ne (by omega), Xi_ne (by omega)]; exact o3
  have r21n : Xi S1 921 n = rnR T 0 0 := by rw [sF.x 921 rfl, eB', Xi_ne (by omega), Xi_ne (by omega), Xi_ne (by omega)]; exact aj2
  have r22n : Xi S1 922 n = -1 := by rw [sF.x 922 rfl, eB', Xi_ne (by omega), Xi_ne (by omega), Xi_ne (by omega)]; exact aj3
  have c0 := h3.1
  have u10 : Xi U1 10 n = fnd B 0 3 e1 := by rw [kt, Xi_ne (by omega), Xi_ne (by omega), Xi_ne (by omega), Xi_same (by rw [b895.1]; unfold rg; omega), b895.1]
  have u11 : Xi U1 11 n = -1 := by rw [kt, Xi_ne (by omega), Xi_ne (by omega)]; exact Xi_same (by unfold rg; omega)
  have v5 : Xi (uI (uI V 10 n (Int32.ofInt (Xi B 895 4))) 11 n (Int32.ofInt (-1))) 246 5 = Xi B 246 5 := by rw [Xi_ne (by omega), Xi_ne (by omega)]; exact FV.x 246 5 rfl
  have v6 : Xi (uI (uI V 10 n (Int32.ofInt (Xi B 895 4))) 11 n (Int32.ofInt (-1))) 899 6 = Xi B 899 6 := by rw [Xi_ne (by omega), Xi_ne (by omega)]; exact FV.x 899 6 rfl
  have u12 : Xi U1 12 n = base := by rw [kt, Xi_ne (by omega), v5, v6, Xi_same (by unfold rg; omega)]; omega
  have u13 : Xi U1 13 n = N := by rw [kt, v6, Xi_same (by unfold rg; omega)]; omega
  have uold : ∀ (k x : Nat), 10 ≤ k → k ≤ 13 → x ≠ n → Xi U1 k x = Xi B k x := fun k x k0 k1 hx => by
    rw [kt, Xi_ne (by omega), Xi_ne (by omega), Xi_ne (by omega), Xi_ne (by omega)]
    rcases (by omega : k = 10 ∨ k = 11 ∨ k = 12 ∨ k = 13) with w | w | w | w <;> (rw [w]; exact (FV.kep rfl : KEP [(10, 14)] [] B V).x _ rfl x)
  have rw1 : RVO U1 S1 := w1.1.k (FQ.kep rfl) KEP.rf
  have whc : WHC U1 := by
    have c1 : wcU U1 3 = Xi B 5 3 + 1 := by rw [wc_s (by omega)]; exact cN
    exact whg_k (FQ.kep rfl) (whg_add (whg_of h2 cl) nm f1 (by rw [c1]; omega))
  have rct : RCT U1 S1 := by
    obtain ⟨d0, d1, d2, d3, d4, d5, d6, d7, d8⟩ := h3
    unfold RCT
    rw [cN, r23, cc 0 (by omega), cc 1 (by omega), cc 2 (by omega), cc 4 (by omega), cc 5 (by omega), cc 6 (by omega), cc 7 (by omega), cc 8 (by omega), s5 16 (by decide), s5 18 (by decide), s5 19 (by decide), s5 30 (by decide), s5 32 (by decide), s5 41 (by decide), s5 47 (by decide), s5 49 (by decide)]
    exact ⟨d0, d1, d2, by omega, d4, d5, d6, d7, d8⟩
  have raj : RAJ U1 S1 := by
    intro x hx
    rw [cN] at hx ⊢
    rw [cc 0 (by omega)]
    by_cases q : x = n
    · subst q
      rw [u10, u11, u13, r21n, r22n, r24n]
      exact ⟨⟨fk, kl.1, kl.2⟩, ⟨rfl, by omega, by omega⟩, ⟨fun _ => by omega, fun _ => rfl⟩, by omega, fun _ => rfl⟩
    · obtain ⟨o1, o2, _, o4⟩ := rold x q
      rw [uold 10 x (by omega) (by omega) q, uold 11 x (by omega) (by omega) q, uold 13 x (by omega) (by omega) q, o1, o2, o4]
      obtain ⟨y1, y2, y3⟩ := h6 x (by omega)
      exact ⟨y1, by omega, y3⟩
  have tx : ∀ j, Xi U1 (txr U1) j = Xi B (txr B) j := fun j => by
    have k : KEP [(245, 246), (902, 904)] [(20, 1)] B U1 := Fe.kep rfl
    rw [txr_k k (by decide)]
    exact tx_k t3 k rfl rfl rfl j
  have hc : ∀ c j : Nat, (c : Int) < Xi B 246 5 → Xi U1 (276 + c) j = Xi B (276 + c) j := fun c j hcc => FR_cl Fe rfl (by omega)
  have hq : ∀ i : Nat, ∀ k : Nat, 969 ≤ k → k ≤ 975 → Xi S1 k i = Xi T k i := fun i k k0 k1 => by
    rcases (by omega : k = 969 ∨ k = 970 ∨ k = 971 ∨ k = 972 ∨ k = 973 ∨ k = 974 ∨ k = 975) with u | u | u | u | u | u | u <;> (rw [u]; exact (Fd.kep rfl : KEP [(969, 976)] [] T S1).x _ rfl i)
  have s6 : ∀ j, Xi S1 906 j = Xi T 906 j := (Fd.kep rfl : KEP [(906, 907)] [] T S1).x 906 rfl
  have n9 : ∀ p : Nat, (p : Int) < Xi B 5 5 → Xi U1 9 p = Xi B 9 p := fun p _ => (Fe.kep rfl : KEP [(9, 10)] [] B U1).x 9 rfl p
  have e246 : Xi U1 246 5 = Xi B 246 5 := Fe.x 246 5 rfl
  refine ⟨⟨rw1, whc, rct, h4.k (cc 0 (by omega)) (Fe.kep rfl) (Fd.kep rfl), h5.k (cc 0 (by omega)) (cc 4 (by omega)) (cc 5 (by omega)) (cl 1) (Fe.kep rfl) (Fd.kep rfl), raj, h7.k (cc 6 (by omega)) (cl 0) (Fe.kep rfl) (Fd.kep rfl), h8.k (cl 2) (Fe.kep rfl) (Fd.kep rfl), h9.k (cc 7 (by omega)) (cc 8 (by omega)) (cl 6) (cl 0) (Fe.kep rfl) (Fd.kep rfl), h10.k (cc 2 (by omega)) (cl 0) (Fe.kep rfl) (Fd.kep rfl), h11.k (cc 2 (by omega)) (Fe.kep rfl), h12.k h3 (cc 2 (by omega)) (cc 0 (by omega)) (Fe.kep rfl) (Fd.kep rfl), h13.k h3 t3 (cc 2 (by omega)) (cc 0 (by omega)) (cl 5) (Fe.kep rfl) (Fd.kep rfl) (fun p _ => (Fd.kep rfl : KEP [(928, 929)] [] T S1).x 928 rfl p), h14.k h3 (cl 2) (Fe.kep rfl) (Fd.kep rfl), h15x.k (cl 2) (Fe.kep rfl) (Fd.kep rfl)⟩, ?_, e246, r117, cN⟩
  intro x hx hxc
  rw [cN] at hx
  by_cases q : x = n
  · subst q
    unfold DF1
    rw [u12, u13, r23n, e246, r117]
    refine ⟨by omega, by omega, by omega, fun k hk => ?_⟩
    exact tqr_k (tq k (by omega)) (fun j => hc _ j (by omega)) (hq _) s6 cl n9 tx
  · rw [uold 11 x (by omega) (by omega) q] at hxc
    exact df1_k (df x (by omega) hxc) (uold 12 x (by omega) (by omega) q) (uold 13 x (by omega) (by omega) q) (rold x q).2.2.1 (by omega) (by omega) hc (fun i _ => hq i) s6 cl n9 tx

/-! class and reference: 2 keeps the relation -/
def ENW (U S : sS) (f : Nat) : Prop := RLW U S ∧ SCX U S f ∧ (∀ i : Int, 0 ≤ ty7 U i ∧ ty7 U i ≤ 108) ∧ (RST U S ∧ TOK U ∧ ∀ j : Nat, 0 ≤ Xi U 878 j) ∧ (f : Int) + Xi U 876 7 ≤ 5002 ∧ (∀ i j : Int, 0 ≤ i → i < j → j < Xi U 876 7 → pc7 U i < pc7 U j)
def cWk : List (Nat × Nat) := [(2, 12), (13, 20), (21, 24), (25, 65), (66, 106), (107, 147), (148, 188), (189, 195), (196, 220), (221, 245), (245, 246), (902, 904), (877, 880)]
def cWf : List (Nat × Nat) := [(1, 3), (20, 1), (20, 12), (891, 10), (876, 5), (876, 7)]
def cXk : List (Nat × Nat) := [(906, 907), (912, 923), (924, 946), (907, 911)]
theorem env_s {U S : sS} {f : Nat} (w : ENW U S f) (sl : SLF U S) : ENV U S f := ⟨w.1, w.2.1, w.2.2.1, sl, w.2.2.2.1, w.2.2.2.2.1, w.2.2.2.2.2⟩
theorem env_w {U S : sS} {f : Nat} (v : ENV U S f) : ENW U S f := ⟨v.1, v.2.1, v.2.2.1, v.2.2.2.2.1, v.2.2.2.2.2.1, v.2.2.2.2.2.2⟩
theorem ty7_k {U A : sS} (a : KEP cWk cWf U A) : ty7 A = ty7 U := by
  funext i
  unfold ty7
  rw [a.f 876 7 (by decide), a.x 877 rfl]
theorem pc7_k {U A : sS} (a : KEP cWk cWf U A) (r : Int) : pc7 A r = pc7 U r := by
  unfold pc7
  rw [a.f 876 7 (by decide), a.f 876 5 (by decide), a.x 878 rfl]
theorem enw_k {U A S C : sS} {f : Nat} (w : ENW U S f) (a : KEP cWk cWf U A) (b : KEP cXk cSf S C) : ENW A C f := by
  obtain ⟨h, sc, tb, ⟨st, tok, hpl⟩, f5, plo⟩ := w
  have e7 := a.f 876 7 (by decide)
  have t3 := rst_3 st
  have tx : txr A = txr U := txr_k a (by decide)
  refine ⟨h.k t3 (a.le rfl (by decide)) (b.le rfl (by decide)), ?_, by rw [ty7_k a]; exact tb, ⟨⟨?_, fun j hj => ?_⟩, fun i hi q => ?_, fun j => by rw [a.x 878 rfl]; exact hpl j⟩, by rw [e7]; exact f5, fun i j => by rw [e7, pc7_k a, pc7_k a]; exact plo i j⟩
  · refine SCX.kS ⟨fun r hr => ?_, by rw [e7]; exact sc.2⟩ (b.le rfl (by decide))
    rw [e7] at hr
    have t := sc.1 r hr
    unfold TKW at t ⊢
    rw [a.x 877 rfl, a.x 878 rfl, a.j 879 rfl]
    exact t
  · obtain ⟨x, y⟩ := st.1
    exact ⟨by rw [tx, (a.2 (20, 1) (by decide)).2.2]; exact x, by rw [tx]; exact y⟩
  · rw [a.f 876 5 (by decide)] at hj
    rw [tx, tx_k t3 a rfl rfl rfl, b.x 906 rfl]
    exact st.2 j hj
  · rw [e7] at hi
    rw [a.x 877 rfl] at q
    rw [a.j 879 rfl, a.x 878 rfl, a.f 876 5 (by decide)]
    exact tok i hi q
theorem tch_of {A S C : sS} {f N : Nat} {a e : Int} (v : ENV A C f) (sS : SCX A S f) (h0 : 0 ≤ a) (ts : TSQ (tkR S) S 0 (f + a) N (f + e)) (hN : 0 < N) (he : e < Xi A 876 7) (kk : KEP [(907, 908), (950, 963)] [(904, 69)] S C) : TCH A C f a N ∧ eT7 A a (N - 1) = e ∧ ∀ k : Nat, k + 1 < N → ty7 A (eT7 A a k) = 16 := by
  obtain ⟨n, rfl⟩ : ∃ n, N = n + 1 := ⟨N - 1, by omega⟩
  obtain ⟨t1, t2, t3⟩ := tsq_r sS v.2.2.1 h0 n e ts he
  refine ⟨fun k hk => ?_, t2, fun k hk => t3 k (by omega)⟩
  obtain ⟨x1, x2, x3, x4⟩ := t1 k (by omega)
  rw [Nat.zero_add] at x1
  exact ⟨tstr_q kk x1, x2, x3, by omega⟩
/-- clauses and tests told before stay -/
def KCQ (U U1 S S1 : sS) : Prop := (∀ c j : Nat, (c : Int) < Xi U 246 5 → Xi U1 (276 + c) j = Xi U (276 + c) j) ∧ Xi U 246 5 ≤ Xi U1 246 5 ∧ (∀ k j : Nat, 969 ≤ k → k ≤ 975 → (j : Int) < Xi S 904 117 → Xi S1 k j = Xi S k j) ∧ Xi S 904 117 ≤ Xi S1 904 117
theorem st_2 {U A B U1 S T S1 : sS} {f N : Nat} {x y z e : Int} (w : ENW U S f) (bk : BKC U S) (df : DFR U S) (k0 : RNR U S f 0 3 (re7 (ty7 U) 3)) (k1 : RNR U S f 1 (re7 (ty7 U) 3 + 1) (re7 (ty7 U) (re7 (ty7 U) 3 + 1))) (ts : TSQ (tkR S) S 0 (f + (re7 (ty7 U) (re7 (ty7 U) 3 + 1) + 1)) N (f + e)) (hN : 0 < N) (he : e < Xi U 876 7) (hl : ty7 U e ≠ 16) (n94 : Xi S 904 94 = N) (hn : Xi U 891 9 = 0) (hx : x = 0 ∨ x = 1) (c1 : SDF U A x (fnd U 0 3 (re7 (ty7 U) 3)) (re7 (ty7 U) 3 + 1) (re7 (ty7 U) (re7 (ty7 U) 3 + 1))) (F1 : FR md_re_startDefinition__p U A) (c0 : x = 0 → z = 0 ∧ U1 = A) (c2 : x = 1 → TSS A B (Xi A 893 0 + 1) y ∧ FR md_rr_tests__p A B ∧ (y = 0 ∨ y = 1)) (c3 : x = 1 → y = 0 → z = 0 ∧ U1 = B) (c4 : x = 1 → y = 1 → EDF md_vo_tellNew__p B U1 z ∧ FR md_re_endDefinition__p B U1) (zf : z = 0 → Xi U1 876 8 ≠ 0) (rc : ∃ P : sS, FR lA S P ∧ (Xi P 904 106 = 0 ∧ Xi P 904 108 = 0 ∧ Xi P 904 116 = -1) ∧ RA2 md_mo_kindOfRun__p md_mo_mustBeNew__p md_mo_need__p md_mo_testMeant__p P T) (Fa : FR md_mo_asked__2f S T) (rd : (NT3 T).1 = 0 → RD2 md_mo_addAdjective__p T S1 ∧ FR md_mo_does__2f T S1) : STP U1 T S1 ∧ (Xi U1 876 8 = 0 → (BKC U1 S1 ∧ DFR U1 S1) ∧ KCQ U U1 S S1 ∧ x = 1 ∧ y = 1) := by
  obtain ⟨P, FP, ⟨P0, P8, P16⟩, A', C, FK, n1, FM, mb, tr⟩ := rc
  have w' := w
  obtain ⟨h, sc, tb, ⟨st, tok, hpl⟩, f5, plo⟩ := w'
  have t3 := rst_3 st
  have hP : RLW U P := h.k t3 KEP.rf (FP.kep rfl)
  have sP := sc.kS (FP.kep rfl : KEP [(907, 911)] [] S P)
  have kP := k0.kS (FP.kep rfl : KEP [(950, 952)] [] S P)
  have h15P : 0 ≤ Xi P 904 15 := by have := hP.1.1.1; omega
  have fe : fnd U 0 3 (re7 (ty7 U) 3) = rnR P 0 0 := rn_fnd (s := 0) (scx_s sP hP.1) kP hP.1.2.2.2.1 h15P (by omega)
  have p0 : pc7 U 3 = pR P 0 := rn_pc (scx_s sP hP.1) kP
  generalize e1d : re7 (ty7 U) 3 = e1 at *
  generalize e2d : re7 (ty7 U) (e1 + 1) = e2 at *
  have k01 := k0.2.1
  have k11 := k1.2.1
  have k12 := k1.2.2.1
  rw [← fe, ← p0] at n1
  rw [← fe] at FM mb
  generalize ek : fnd U 0 3 e1 = k at *
  have kb : k ≠ -1 → 0 ≤ k ∧ k < Xi U 5 0 := fun q => by rw [← ek] at q ⊢; exact fnd_wc (by omega) h.1.2.2.1 h.2.1 q
  have kg : -1 ≤ k ∧ k < Xi U 5 0 := by
    by_cases q : k = -1
    · have := h.2.2.1.1; omega
    · have := kb q; omega
  have c016 := h.2.2.1.1
  -- the reference before the tests
  have FW : FR md_mo_asked__2f S (uI A' 904 115 (Int32.ofInt k)) := FR.wI ((FP.up rfl).tr FK rfl) rfl
  have FC : FR md_mo_asked__2f S C := FW.tr FM rfl
  have C115 : Xi C 904 115 = k := (FM.x 904 115 rfl).trans (Xi_same (by unfold rg; omega))
  have C116 : Xi C 904 116 = -1 := by rw [FM.x 904 116 rfl, Xi_ne (by omega), FK.x 904 116 rfl]; exact P16
  have nW : NT3 (uI A' 904 115 (Int32.ofInt k)) = NT3 A' := by
    unfold NT3
    rw [Xi_ne (by omega), Xi_ne (by omega), Xi_ne (by omega)]
  have hW : RLW U (uI A' 904 115 (Int32.ofInt k)) := h.k t3 KEP.rf (FW.kep rfl)
  have sW := sc.kS (FW.kep rfl : KEP [(907, 911)] [] S _)
  have kW := k1.kS (FW.kep rfl : KEP [(950, 952)] [] S _)
  have h15W : 0 ≤ Xi (uI A' 904 115 (Int32.ofInt k)) 904 15 := by have := hW.1.1.1; omega
  have nw0 := rn_new (scx_s sW hW.1) kW hW.1.2.2.2.1 h15W hn
  have p1 : pc7 U (e1 + 1) = pR (uI A' 904 115 (Int32.ofInt k)) 1 := rn_pc (scx_s sW hW.1) kW
  have w108 : Xi (uI A' 904 115 (Int32.ofInt k)) 904 108 = 0 := by rw [Xi_ne (by omega), FK.x 904 108 rfl]; exact P8
  have nwi : nwC U (e1 + 1) e2 ↔ nwR (uI A' 904 115 (Int32.ofInt k)) 1 := nw0.trans ⟨fun q => ⟨q.1, q.2, fun i hi => by omega⟩, fun q => ⟨q.1, q.2.1⟩⟩
  have c23 : Xi P 904 23 = Xi U 5 3 := hP.2.2.1.2.2.2.1.1.symm
  unfold MBN at mb
  rw [c23, nW, ← p1] at mb
  have n94P : (Xi P 904 94).toNat = N := by rw [FP.x 904 94 rfl, n94]; omega
  rw [n94P] at tr
  have n0 : (NT3 P).1 = 0 := P0
  have lt3 : pc7 U 3 < pc7 U (e1 + 1) := plo _ _ (by omega) (by omega) (by omega)
  -- an earlier fault stands
  have SX : ENV (uI (uI U 895 3 (Int32.ofInt 54)) 895 4 (Int32.ofInt k)) C f := by
    have FX : FR [(895, 896, 3, 4), (895, 896, 4, 5)] U (uI (uI U 895 3 (Int32.ofInt 54)) 895 4 (Int32.ofInt k)) := FR.wI (FR.wI FR.rf rfl) rfl
    refine env_s (enw_k w (FX.kep rfl) (FC.kep rfl)) ⟨Or.inl ⟨?_, ?_, C116⟩, ?_⟩
    · rw [Xi_ne (by omega)]; exact Xi_same (by unfold rg; omega)
    · rw [C115]; exact Xi_same (by unfold rg; omega)
    · rw [Xi_same (by unfold rg; omega), Xi_ne (by omega), Xi_ne (by omega)]; exact kg
  have gN : NTG (pc7 U (e2 + 1)) (NT3 C) (NT3 T) := by
    have FX : FR [(895, 896, 3, 4), (895, 896, 4, 5)] U (uI (uI U 895 3 (Int32.ofInt 54)) 895 4 (Int32.ofInt k)) := FR.wI (FR.wI FR.rf rfl) rfl
    have wX := enw_k (C := S) w (FX.kep rfl) KEP.rf
    have t := tch_of SX wX.2.1 (by omega) ts hN (by rw [FX.x 876 7 rfl]; exact he) (FC.kep rfl)
    have g := (tsr_g SX (by omega) t.1 N T (Nat.le_refl _) tr).1
    rw [pc7_k (FX.kep rfl)] at g
    exact g
  have ea : e2 + 1 < Xi U 876 7 := by
    have t := tch_of SX (enw_k (C := S) w ((FR.wI (FR.wI FR.rf rfl) rfl : FR [(895, 896, 3, 4), (895, 896, 4, 5)] U _).kep rfl) KEP.rf).2.1 (by omega) ts hN (by rw [Xi_ne (by omega), Xi_ne (by omega)]; exact he) (FC.kep rfl)
    have := t.1 0 hN
    rw [Xi_ne (by omega), Xi_ne (by omega)] at this
    have a0 : pT7 (uI (uI U 895 3 (Int32.ofInt 54)) 895 4 (Int32.ofInt k)) (e2 + 1) 0 = e2 + 1 := rfl
    omega
  have lt4 : pc7 U (e1 + 1) < pc7 U (e2 + 1) := plo _ _ (by omega) (by omega) ea
  obtain ⟨s1, s2, s3, s4⟩ := c1
  by_cases q1 : k = -1
  · obtain ⟨x0, ft⟩ := s1 q1
    obtain ⟨z0, rfl⟩ := c0 x0
    refine ⟨Or.inl ⟨zf z0, Or.inl ?_⟩, fun v => absurd v (zf z0)⟩
    rw [ft.1, ft.2]
    rw [if_pos q1] at n1
    have b1 : NTB (NT3 A') 4 (pc7 U 3) := by rw [n1]; exact ntb_1 n0
    have b2 : NTB (NT3 C) 4 (pc7 U 3) := by
      by_cases q : nwR (uI A' 904 115 (Int32.ofInt k)) 1
      · rw [(mb.1 q).1]
        by_cases u : Xi U 5 3 < 24
        · rw [if_pos u]; exact b1
        · rw [if_neg u]; exact ntb_k b1 (by decide) lt3
      · rw [(mb.2 q).1]; exact ntb_k b1 (by decide) lt3
    exact ntg_k gN b2 (by decide) (by omega)
  rw [if_neg q1] at n1
  have x0A : (NT3 A').1 = 0 := by rw [n1]; exact n0
  by_cases q2 : nwC U (e1 + 1) e2
  · obtain ⟨m1, _⟩ := mb.1 (nwi.1 q2)
    by_cases q3 : 24 ≤ Xi U 5 3
    · obtain ⟨x0, ft⟩ := s3 q1 q2 q3
      obtain ⟨z0, rfl⟩ := c0 x0
      refine ⟨Or.inl ⟨zf z0, Or.inl ?_⟩, fun v => absurd v (zf z0)⟩
      rw [ft.1, ft.2]
      rw [if_neg (by omega)] at m1
      exact ntg_k gN (by rw [m1]; exact ntb_1 x0A) (by decide) lt4
    · obtain ⟨x1, f8, a9, a92, a93, a3, a4⟩ := s4 q1 q2 (by omega)
      rw [if_pos (by omega)] at m1
      have x0C : (NT3 C).1 = 0 := by rw [m1]; exact x0A
      obtain ⟨tss, F2, hy⟩ := c2 x1
      rw [a93] at tss
      have wA := enw_k w (F1.kep rfl) (FC.kep rfl)
      have vA : ENV A C f := env_s wA ⟨Or.inl ⟨a3, by rw [a4, C115], C116⟩, by rw [a4, (F1.kep rfl : KEP [(5, 6)] [] U A).x 5 rfl]; exact kg⟩
      have tyA : ty7 A = ty7 U := ty7_k (F1.kep rfl)
      obtain ⟨ch, la, mi⟩ := tch_of vA (enw_k (C := S) w (F1.kep rfl) KEP.rf).2.1 (by omega) ts hN (by rw [F1.x 876 7 rfl]; exact he) (FC.kep rfl)
      have q117 : Xi C 904 117 = Xi S 904 117 := FC.x 904 117 rfl
      obtain ⟨r1, r0⟩ := tss_r vA (by omega) ch (by rw [q117]; exact bk.2.1.1) hN mi (by rw [la, tyA]; exact hl) hy tss tr
      rcases hy with y0 | y1
      · obtain ⟨z0, rfl⟩ := c3 x1 y0
        exact ⟨Or.inl ⟨zf z0, Or.inl (r0 y0 x0C)⟩, fun v => absurd v (zf z0)⟩
      · obtain ⟨ed, Fe⟩ := c4 x1 y1
        obtain ⟨nt, n6, fB, tck, tq⟩ := r1 y1
        have x0T : (NT3 T).1 = 0 := by rw [nt]; exact x0C
        obtain ⟨rd, Fd⟩ := rd x0T
        have FT : FR md_mo_testMeant__p C T := tsr_f N T tr
        have wB : ENW B T f := enw_k wA (F2.kep rfl) (FT.kep rfl)
        have F12 : KEP cWk cWf U B := KEP.tr (F1.kep rfl) (F2.kep rfl)
        have tyB : ty7 B = ty7 U := ty7_k F12
        have smB : SMV U B := by
          have a := (F1.kep rfl : KEP [(2, 5), (879, 880)] [(1, 3)] U A)
          have b := (F2.kep rfl : KEP [(2, 5), (879, 880)] [(1, 3)] A B)
          have c := a.tr b
          exact ⟨c.f 1 3 (by decide), c.j 2 rfl, c.x 3 rfl, c.x 4 rfl, c.j 879 rfl⟩
        have mvB : ∀ a b : Int, mnV B a b = mnV U a b := fun a b => mnV_eq smB
        have fB0 : ∀ s a b : Int, fnd B s a b = fnd U s a b := fun s a b => by unfold fnd; rw [mvB]
        have kTS : ∀ {r a b : Int}, RNR U S f r a b → RNR B T f r a b := fun q => by
          have q := q.kS (Fa.kep rfl : KEP [(950, 952)] [] S T)
          unfold RNR at q ⊢
          rw [F12.f 876 7 (by decide), tyB]
          exact q
        have c5 : ∀ j, Xi B 5 j = Xi U 5 j := F12.x 5 rfl
        have b246 : Xi B 246 2 = Xi U 246 2 := (F2.x 246 2 rfl).trans (F1.x 246 2 rfl)
        have a246 : Xi A 246 5 = Xi U 246 5 := F1.x 246 5 rfl
        have b5 : Xi B 246 5 = Xi U 246 5 + N := by rw [tck.2.1, a246]
        have T117 : Xi T 904 117 = Xi S 904 117 := (FT.x 904 117 rfl).trans q117
        have T125 : Xi T 904 125 = Xi S 904 125 := (FT.x 904 125 rfl).trans (FC.x 904 125 rfl)
        have T130 : Xi T 904 130 = Xi S 904 130 := (FT.x 904 130 rfl).trans (FC.x 904 130 rfl)
        have txB : ∀ j, Xi B (txr B) j = Xi U (txr U) j := fun j => by rw [txr_k F12 (by decide)]; exact tx_k t3 F12 rfl rfl rfl j
        have s6 : ∀ j, Xi T 906 j = Xi S 906 j := fun j => ((FT.kep rfl : KEP [(906, 907)] [] C T).x 906 rfl j).trans ((FC.kep rfl : KEP [(906, 907)] [] S C).x 906 rfl j)
        obtain ⟨g1, g2, g3, g4, g5⟩ := bk
        have hcB : ∀ c j : Nat, (c : Int) < Xi U 246 5 → Xi B (276 + c) j = Xi U (276 + c) j := fun c j hc => by
          rw [tck.2.2.2.2 c j (by omega)]
          exact FR_cl F1 rfl (by have := h.2.2.1.2.2.2.1; omega)
        have hqB : ∀ i : Nat, (i : Int) < Xi S 904 117 → ∀ kk : Nat, 969 ≤ kk → kk ≤ 975 → Xi T kk i = Xi S kk i := fun i hi kk i0 i1 => by
          rw [tsr_o (by rw [q117]; exact g2.1) N T tr i (Or.inl (by rw [q117]; exact hi)) kk i0 i1]
          rcases (by omega : kk = 969 ∨ kk = 970 ∨ kk = 971 ∨ kk = 972 ∨ kk = 973 ∨ kk = 974 ∨ kk = 975) with u | u | u | u | u | u | u
          all_goals
            rw [u, (FM.kep rfl : KEP [(969, 976)] [] _ C).x _ rfl, Xi_ne (by omega), (FK.kep rfl : KEP [(969, 976)] [] P A').x _ rfl]
            exact (FP.kep rfl : KEP [(969, 976)] [] S P).x _ rfl i
        have dfB : DFR B T := fun a ha hc => by
          rw [c5] at ha
          rw [F12.x 11 rfl] at hc
          have e12 : Xi B 12 a = Xi U 12 a := ((F2.kep rfl : KEP [(12, 14)] [] A B).x 12 rfl a).trans ((F1.kep rfl : KEP [(12, 14)] [] U A).x 12 rfl a)
          have e13 : Xi B 13 a = Xi U 13 a := ((F2.kep rfl : KEP [(12, 14)] [] A B).x 13 rfl a).trans ((F1.kep rfl : KEP [(12, 14)] [] U A).x 13 rfl a)
          have e23 : Xi T 923 a = Xi S 923 a := ((FT.kep rfl : KEP [(923, 924)] [] C T).x 923 rfl a).trans ((FC.kep rfl : KEP [(923, 924)] [] S C).x 923 rfl a)
          exact df1_k (df a ha hc) e12 e13 e23 (by omega) (by omega) hcB hqB s6 (fun j => by rw [c5]; exact Int.le_refl _) (fun p _ => F12.x 9 rfl p) txB
        have tqB : ∀ kk : Nat, kk < N → TQR B T ((Xi U 246 5).toNat + kk) ((Xi T 904 117).toNat + kk) 54 := fun kk hk => by
          obtain ⟨fm, i, w, hh, t, g, m, cm, tf⟩ := tq kk hk
          rw [a246] at cm
          rw [a3] at tf
          refine ⟨fm, i, w, hh, t, g, m, cm, ?_⟩
          rw [show (Xi C 904 117 + (kk : Int)).toNat = (Xi T 904 117).toNat + kk by rw [T117, q117]; omega] at tf
          have k2 : KEP cWk cWf A B := F2.kep rfl
          exact tqf_u (fun j => by rw [k2.x 5 rfl]; exact Int.le_refl _) (fun p _ => k2.x 9 rfl p) (fun j => by
            rw [txr_k k2 (by decide)]
            exact tx_k (rst_3 wA.2.2.2.1.1) k2 rfl rfl rfl j) tf
        have b892 : Xi B 892 0 = e1 + 1 ∧ Xi B 893 0 = e2 := ⟨by rw [(F2.kep rfl : KEP [(892, 894)] [] A B).x 892 rfl]; exact a92, by rw [(F2.kep rfl : KEP [(892, 894)] [] A B).x 893 rfl]; exact a93⟩
        have d := def_r wB.1 (rst_3 wB.2.2.2.1.1) (by rw [c5, b246, T117]; omega) (by rw [b246, T130]; exact g4) dfB wB.2.1 (kTS k0) (kTS k1) (by rw [fB0, ek]; exact q1) (by rw [c5]; omega) ⟨by rw [mvB]; exact q2.1, q2.2.1⟩ b892 ⟨by rw [fB0, ek, F2.x 895 4 rfl]; exact a4, by rw [F2.x 895 3 rfl]; exact a3⟩ (by rw [FT.x 904 94 rfl, FC.x 904 94 rfl]; exact n94) ⟨hN, n6⟩ tck.1 (Xi U 246 5) b5 g1.1 (by rw [c5, b246]; omega) (by rw [c5, b246, T117]; omega) tqB ed Fe rd Fd
        obtain ⟨z1, r1, r2, r3, r4, r5⟩ := d
        have f1 : Xi U1 876 8 = 0 := (Fe.x 876 8 rfl).trans fB
        have s1x : (NT3 S1).1 = 0 := nt_k (ks := []) (fs := [(904, 106)]) (Fd.kep rfl) (by decide) x0T
        have kd : KEP [(969, 976)] [] T S1 := Fd.kep rfl
        have e5 : Xi U1 246 5 = Xi B 246 5 := Fe.x 246 5 rfl
        have kcq : KCQ U U1 S S1 := ⟨fun c j hc => (FR_cl Fe rfl (by have := h.2.2.1.2.2.2.1; omega)).trans (hcB c j hc), by omega, fun k j i0 i1 hj => by
          rw [kd.x k (inK_i (a := 969) (b := 976) (List.mem_cons_self ..) (by omega) (by omega)) j]
          exact hqB j hj k i0 i1, by omega⟩
        refine ⟨Or.inr ⟨f1, x0T, s1x, r1⟩, fun _ => ⟨⟨?_, r2⟩, kcq, x1, y1⟩⟩
        have S125 : Xi S1 904 125 = Xi S 904 125 := (Fd.x 904 125 rfl).trans T125
        have S130 : Xi S1 904 130 = Xi S 904 130 := (Fd.x 904 130 rfl).trans T130
        have U2 : Xi U1 246 2 = Xi U 246 2 := (Fe.x 246 2 rfl).trans b246
        have U8 : Xi U1 246 8 = Xi U 246 8 := (Fe.x 246 8 rfl).trans ((F2.x 246 8 rfl).trans (F1.x 246 8 rfl))
        unfold BKC
        rw [r3, r4, r5, b5, c5, U2, U8, S125, S130, T117]
        exact ⟨by omega, by omega, g3, g4, g5⟩
  · obtain ⟨x0, ft⟩ := s2 q1 q2
    obtain ⟨z0, rfl⟩ := c0 x0
    refine ⟨Or.inl ⟨zf z0, Or.inl ?_⟩, fun v => absurd v (zf z0)⟩
    rw [ft.1, ft.2]
    obtain ⟨m1, _⟩ := mb.2 (fun v => q2 (nwi.2 v))
    exact ntg_k gN (by rw [m1]; exact ntb_1 x0A) (by decide) lt4
end
section
/-! class and reference: ACTING without ART RUN -/
/-- one split of a RUN: an action and an object -/
theorem aq_r {U S : sS} {f : Nat} {r a b : Int} {n : Nat} (h : RLW U S) (sc : SCX U S f) (rn : RNR U S f r a b) (hn : a + 1 + n < b) : (fnd U 8 a (a + 1 + n) = msR S (f + a) ((n : Int) + 1) 11 ∧ fnd U 2 (a + 1 + n) b = msR S (f + a + ((n : Int) + 1)) (b - a - ((n : Int) + 1)) 4) ∧ (fnd U 8 a (a + 1 + n) ≠ -1 → (0 ≤ fnd U 8 a (a + 1 + n) ∧ fnd U 8 a (a + 1 + n) < Xi U 5 8) ∧ Xi U 19 (fnd U 8 a (a + 1 + n)).toNat = Xi S 942 (fnd U 8 a (a + 1 + n)).toNat) ∧ (fnd U 2 (a + 1 + n) b ≠ -1 → (0 ≤ fnd U 2 (a + 1 + n) b ∧ fnd U 2 (a + 1 + n) b < Xi U 5 2) ∧ ∀ k : Int, isK U (Xi U 21 (fnd U 2 (a + 1 + n) b).toNat) k = blR S (Xi S 918 (fnd U 2 (a + 1 + n) b).toNat) k) := by
  have h15 : 0 ≤ Xi S 904 15 := by have := h.1.1.1; omega
  obtain ⟨r0, r1, r2, r3, r4, r5⟩ := rn
  have m1 := (scx_s sc h.1).1 a (a + 1 + n) r0 (by omega) (fun i i1 i2 => r5 i i1 (by omega))
  have m2 := (scx_s sc h.1).1 (a + 1 + n) b (by omega) r2 (fun i i1 i2 => r5 i (by omega) i2)
  rw [show a + 1 + (n : Int) - a = (n : Int) + 1 by omega] at m1
  rw [show (f : Int) + (a + 1 + n) = f + a + ((n : Int) + 1) by omega, show b - (a + 1 + (n : Int)) = b - a - ((n : Int) + 1) by omega] at m2
  refine ⟨⟨fnd_ms (s := 11) m1 h.1.2.2.2.1 h15 (by omega), fnd_ms (s := 4) m2 h.1.2.2.2.1 h15 (by omega)⟩, fun q => ?_, fun q => ?_⟩
  · have g : 0 ≤ fnd U 8 a (a + 1 + n) ∧ fnd U 8 a (a + 1 + n) < Xi U 5 8 := fnd_wc (by omega) h.1.2.2.1 h.2.1 q
    exact ⟨g, (h.2.2.2.2.2.2.2.2.1.2 _ (by omega)).1⟩
  · have g := whc_2 h.1.2.2.1 h.2.1 q
    have oo := h.2.2.2.2.2.2.2.2.2.1.1.2 (fnd U 2 (a + 1 + n) b).toNat (by omega)
    exact ⟨g, fun k => by rw [oo.1]; exact isK_bl h.2.2.2.1 oo.2.2⟩
theorem aw_r {U S : sS} {f : Nat} {r a b : Int} (h : RLW U S) (sc : SCX U S f) (rn : RNR U S f r a b) : fnd U 8 a b = msR S (f + a) (b - a) 11 ∧ (fnd U 8 a b ≠ -1 → (0 ≤ fnd U 8 a b ∧ fnd U 8 a b < Xi U 5 8) ∧ Xi U 19 (fnd U 8 a b).toNat = Xi S 942 (fnd U 8 a b).toNat) := by
  have h15 : 0 ≤ Xi S 904 15 := by have := h.1.1.1; omega
  obtain ⟨r0, r1, r2, r3, r4, r5⟩ := rn
  have m1 := (scx_s sc h.1).1 a b r0 r2 r5
  refine ⟨fnd_ms (s := 11) m1 h.1.2.2.2.1 h15 (by omega), fun q => ?_⟩
  have g : 0 ≤ fnd U 8 a b ∧ fnd U 8 a b < Xi U 5 8 := fnd_wc (by omega) h.1.2.2.1 h.2.1 q
  exact ⟨g, (h.2.2.2.2.2.2.2.2.1.2 _ (by omega)).1⟩
/-- what a RUN as ACTING is: action, object, how many READINGS -/
def ARS (U : sS) (x y : Int × Int × Int) : Prop := x.2.2 = y.2.2 ∧ 0 ≤ y.2.2 ∧ (y.2.2 = 1 → x.1 = y.1 ∧ x.2.1 = y.2.1 ∧ (0 ≤ x.1 ∧ x.1 < Xi U 5 8) ∧ (x.2.1 = -1 ∨ ((0 ≤ x.2.1 ∧ x.2.1 < Xi U 5 2) ∧ 0 ≤ Xi U 19 x.1.toNat)))
theorem aa_r {U S : sS} {f : Nat} {r a b : Int} (h : RLW U S) (sc : SCX U S f) (rn : RNR U S f r a b) : ∀ n : Nat, a + 1 + n ≤ b → ARS U (aaF U a b n) (acF S (f + a) (b - a) 0 n)
  | 0, _ => by
    obtain ⟨e, g⟩ := aw_r h sc rn
    unfold ARS aaF acF
    rw [← e]
    by_cases q : fnd U 8 a b = -1
    · rw [if_pos q, if_neg (fun w => w.1 q)]
      exact ⟨rfl, Int.le_refl _, fun w => absurd w (by show ¬ (0 : Int) = 1; decide)⟩
    · rw [if_neg q, if_pos ⟨q, Or.inl rfl⟩]
      exact ⟨rfl, by show (0 : Int) ≤ 1; decide, fun _ => ⟨rfl, rfl, (g q).1, Or.inl rfl⟩⟩
  | n + 1, hn => by
    obtain ⟨i1, i2, i3⟩ := aa_r h sc rn n (by omega)
    obtain ⟨⟨e1, e2⟩, g1, g2⟩ := aq_r (n := n) h sc rn (by omega)
    have eq : aaQ U a b (a + 1 + n) ↔ acQ S (f + a) (b - a) 0 ((n : Int) + 1) := by
      unfold aaQ acQ
      rw [← e1, ← e2]
      constructor
      · rintro ⟨q1, q2, q3⟩
        rw [(g1 q1).2] at q3
        have o0 := isK_o rfl q3
        rw [(g2 q2).2] at q3
        exact ⟨q1, q2, o0, Or.inr q3⟩
      · rintro ⟨q1, q2, q3, q4⟩
        refine ⟨q1, q2, ?_⟩
        rw [(g1 q1).2, (g2 q2).2]
        exact q4.resolve_left (fun w => w rfl)
    rw [aaF, acF]
    by_cases q : aaQ U a b (a + 1 + n)
    · rw [if_pos q, if_pos (eq.1 q)]
      have q0 := eq.1 q
      obtain ⟨q1, q2, q3⟩ := q
      by_cases z : (acF S (f + a) (b - a) 0 n).2.2 = 0
      · rw [if_pos z]
        refine ⟨by show (aaF U a b n).2.2 + 1 = 1; rw [i1, z]; rfl, by show (0 : Int) ≤ 1; decide, fun _ => ⟨e1, e2, (g1 q1).1, Or.inr ⟨(g2 q2).1, ?_⟩⟩⟩
        show 0 ≤ Xi U 19 (fnd U 8 a (a + 1 + n)).toNat
        rw [(g1 q1).2, e1]
        exact q0.2.2.1
      · rw [if_neg z]
        refine ⟨by show (aaF U a b n).2.2 + 1 = (acF S (f + a) (b - a) 0 n).2.2 + 1; rw [i1], by show 0 ≤ (acF S (f + a) (b - a) 0 n).2.2 + 1; omega, fun w => ?_⟩
        have w : (acF S (f + a) (b - a) 0 n).2.2 + 1 = 1 := w
        omega
    · rw [if_neg q, if_neg (fun w => q (eq.2 w))]
      exact ⟨i1, i2, i3⟩
theorem fnd_4 {U : sS} {s a b : Int} (hs : 0 ≤ s) (h : 3 < b - a) : fnd U s a b = -1 := by
  unfold fnd mnV
  rw [if_neg (by omega)]
theorem aa_4 {U : sS} {a b : Int} : ∀ m : Nat, aaF U a b (3 + m) = aaF U a b 3
  | 0 => rfl
  | m + 1 => by
    rw [← Nat.add_assoc, aaF, if_neg (fun w => w.1 (fnd_4 (by omega) (by omega)))]
    exact aa_4 m
theorem aa_x {U S : sS} {f : Nat} {r a b : Int} (h : RLW U S) (sc : SCX U S f) (rn : RNR U S f r a b) : ARS U (aaF U a b (b - a - 1).toNat) (acF S (f + a) (b - a) 0 (acK (b - a))) := by
  have r1 := rn.2.1
  unfold acK
  by_cases q : b - a ≤ 3
  · rw [if_pos q]; exact aa_r h sc rn _ (by omega)
  · rw [if_neg q, show (b - a - 1).toNat = 3 + ((b - a - 1).toNat - 3) by omega, aa_4]
    exact aa_r h sc rn 3 (by omega)
theorem ta_r {U S : sS} {f : Nat} {r a b : Int} (h : RLW U S) (sc : SCX U S f) (rn : RNR U S f r a b) : ∀ n : Nat, a + 1 + n ≤ b → ARS U (taF U a b n) (acF S (f + a) (b - a) 1 n) ∧ ((taF U a b n).2.2 = 1 → ((taF U a b n).2.1 = -1 → Xi U 19 (taF U a b n).1.toNat = -1))
  | 0, _ => by
    obtain ⟨e, g⟩ := aw_r h sc rn
    unfold ARS taF acF
    rw [← e]
    by_cases q : fnd U 8 a b ≠ -1 ∧ Xi U 19 (fnd U 8 a b).toNat = -1
    · rw [if_pos q, if_pos ⟨q.1, Or.inr (by rw [← (g q.1).2]; exact q.2)⟩]
      exact ⟨⟨rfl, by show (0 : Int) ≤ 1; decide, fun _ => ⟨rfl, rfl, (g q.1).1, Or.inl rfl⟩⟩, fun _ _ => q.2⟩
    · rw [if_neg q, if_neg (fun w => q ⟨w.1, by rw [(g w.1).2]; exact w.2.resolve_left (by decide)⟩)]
      exact ⟨⟨rfl, Int.le_refl _, fun w => absurd w (by show ¬ (0 : Int) = 1; decide)⟩, fun w => absurd w (by show ¬ (0 : Int) = 1; decide)⟩
  | n + 1, hn => by
    obtain ⟨⟨i1, i2, i3⟩, i4⟩ := ta_r h sc rn n (by omega)
    obtain ⟨⟨e1, e2⟩, g1, g2⟩ := aq_r (n := n) h sc rn (by omega)
    have eq : taQ U a b (a + 1 + n) ↔ acQ S (f + a) (b - a) 1 ((n : Int) + 1) := by
      unfold taQ acQ
      rw [← e1, ← e2]
      constructor
      · rintro ⟨q1, q2, q3⟩
        rw [(g1 q1).2] at q3
        exact ⟨q1, q2, q3, Or.inl (by decide)⟩
      · rintro ⟨q1, q2, q3, q4⟩
        refine ⟨q1, q2, ?_⟩
        rw [(g1 q1).2]; exact q3
    rw [taF, acF]
    by_cases q : taQ U a b (a + 1 + n)
    · rw [if_pos q, if_pos (eq.1 q)]
      obtain ⟨q1, q2, q3⟩ := q
      by_cases z : (acF S (f + a) (b - a) 1 n).2.2 = 0
      · rw [if_pos z]
        refine ⟨⟨by show (taF U a b n).2.2 + 1 = 1; rw [i1, z]; rfl, by show (0 : Int) ≤ 1; decide, fun _ => ⟨e1, e2, (g1 q1).1, Or.inr ⟨(g2 q2).1, q3⟩⟩⟩, fun _ w => ?_⟩
        have w : fnd U 2 (a + 1 + n) b = -1 := w
        exact absurd w q2
      · rw [if_neg z]
        refine ⟨⟨by show (taF U a b n).2.2 + 1 = (acF S (f + a) (b - a) 1 n).2.2 + 1; rw [i1], by show 0 ≤ (acF S (f + a) (b - a) 1 n).2.2 + 1; omega, fun w => ?_⟩, fun w => ?_⟩
        · have w : (acF S (f + a) (b - a) 1 n).2.2 + 1 = 1 := w
          omega
        · have w : (taF U a b n).2.2 + 1 = 1 := w
          omega
    · rw [if_neg q, if_neg (fun w => q (eq.2 w))]
      exact ⟨⟨i1, i2, i3⟩, i4⟩
theorem ta_4 {U : sS} {a b : Int} : ∀ m : Nat, taF U a b (3 + m) = taF U a b 3
  | 0 => rfl
  | m + 1 => by
    rw [← Nat.add_assoc, taF, if_neg (fun w => w.1 (fnd_4 (by omega) (by omega)))]
    exact ta_4 m
theorem ta_x {U S : sS} {f : Nat} {r a b : Int} (h : RLW U S) (sc : SCX U S f) (rn : RNR U S f r a b) : ARS U (taF U a b (b - a - 1).toNat) (acF S (f + a) (b - a) 1 (acK (b - a))) ∧ ((taF U a b (b - a - 1).toNat).2.2 = 1 → ((taF U a b (b - a - 1).toNat).2.1 = -1 → Xi U 19 (taF U a b (b - a - 1).toNat).1.toNat = -1)) := by
  have r1 := rn.2.1
  unfold acK
  by_cases q : b - a ≤ 3
  · rw [if_pos q]; exact ta_r h sc rn _ (by omega)
  · rw [if_neg q, show (b - a - 1).toNat = 3 + ((b - a - 1).toNat - 3) by omega, ta_4]
    exact ta_r h sc rn 3 (by omega)
end
section
/-! class and reference: the head of a rule -/
/-- an ADJECTIVE ahead of the kind of a rule -/
def ADH (U D : sS) (cl : Nat) (x : Int) : Prop := ∃ t p : Int, CLM D cl (if p = -1 then 0 else 1) 0 (-2) (if p = -1 then t else p) t 0 (-1) ∧ COD t p x ∧ (p = -1 → t < Xi U 5 3) ∧ (p ≠ -1 → p < Xi U 5 5 ∧ t < Xi U 5 4 ∧ Xi U 9 p.toNat ≠ 1)
/-- what ACTING leaves: of what, on what, how many ADJECTIVES -/
def HRS (U D S : sS) (ru : Nat) (base a o k n : Int) : Prop :=
  (Xi D (248 + ru) 1 = a ∧ Xi D (248 + ru) 2 = o ∧ Xi D (248 + ru) 3 = k ∧ Xi D (248 + ru) 4 = n) ∧ (Xi S 979 ru = a ∧ Xi S 980 ru = o ∧ Xi S 981 ru = k ∧ Xi S 982 ru = n) ∧
  ((0 ≤ a ∧ a < Xi U 5 8) ∧ (-1 ≤ o ∧ o < Xi U 5 2) ∧ (-1 ≤ k ∧ k < Xi U 5 0) ∧ (0 ≤ n ∧ n ≤ 5)) ∧ ((o ≠ -1 ∨ k ≠ -1 → 0 ≤ Xi U 19 a.toNat) ∧ (o ≠ -1 → k = -1) ∧ (k = -1 → n = 0)) ∧
  Xi S 904 116 = nnD (if o ≠ -1 then Xi U 21 o.toNat else if k ≠ -1 then k else Xi U 19 a.toNat) ∧ Xi D 246 5 = base + n ∧ ∀ i : Nat, (i : Int) < n → ADH U D (base.toNat + i) (Xi S 983 (6 * ru + i))
/-- other rules' entries of the reference -/
def KRE (S T : sS) (ru : Nat) : Prop := (∀ c r : Nat, 978 ≤ c → c ≤ 987 → c ≠ 983 → r ≠ ru → Xi T c r = Xi S c r) ∧ ∀ j : Nat, (j < 6 * ru ∨ 6 * ru + 6 ≤ j) → Xi T 983 j = Xi S 983 j
theorem kre_0 {S : sS} {ru : Nat} : KRE S S ru := ⟨fun _ _ _ _ _ _ => rfl, fun _ _ => rfl⟩
theorem kre_F {l : List rec} {S T V : sS} {ru : Nat} (F : FR l T V) (e : kdis l [(978, 988)] = true) (h : KRE S T ru) : KRE S V ru := by
  have m := F.smk e
  refine ⟨fun c r c0 c1 c2 hr => ?_, fun j hj => (m.x 983 rfl j).trans (h.2 j hj)⟩
  rw [← h.1 c r c0 c1 c2 hr]
  rcases (by omega : c = 978 ∨ c = 979 ∨ c = 980 ∨ c = 981 ∨ c = 982 ∨ c = 984 ∨ c = 985 ∨ c = 986 ∨ c = 987) with u | u | u | u | u | u | u | u | u <;> (rw [u]; exact m.x _ rfl r)
theorem kre_I {S T : sS} {ru k n : Nat} {v : Int32} (h : KRE S T ru) (hn : k ≠ 983 ∧ ((k < 978 ∨ 987 < k) ∨ n = ru)) : KRE S (uI T k n v) ru := ⟨fun c r c0 c1 c2 hr => by rw [Xi_ne (by omega)]; exact h.1 c r c0 c1 c2 hr, fun j hj => by rw [Xi_ne (by omega)]; exact h.2 j hj⟩
theorem cpi_i {S : sS} {a b s t n i : Nat} (h : i < n) : Xi (cpI S a b s t n) b (t + i) = Xi S a (s + i) := by
  unfold Xi cpI va_up va_cpy
  simp [h]
theorem cpi_n {S : sS} {a b s t n k j : Nat} (h : k ≠ b ∨ j < t ∨ t + n ≤ j) : Xi (cpI S a b s t n) k j = Xi S k j := by
  unfold Xi cpI va_up va_cpy
  by_cases e : k = b
  · subst e
    have : ¬ (t ≤ j ∧ j < t + n) := by omega
    simp [this]
  · simp [e]
/-- the reference has begun with a head -/
theorem aca_x {S : sS} {l : Nat} : Xi (acA S l) 979 l = -1 ∧ Xi (acA S l) 980 l = -1 ∧ Xi (acA S l) 981 l = -1 ∧ Xi (acA S l) 982 l = 0 ∧ Xi (acA S l) 904 116 = -1 := by
  have e : ((l : Nat) : Int).toNat = l := by omega
  unfold acA
  rw [e]
  refine ⟨?_, ?_, ?_, ?_, Xi_same (by unfold rg; omega)⟩
  · rw [Xi_ne (by omega), Xi_ne (by omega), Xi_ne (by omega), Xi_ne (by omega)]; exact Xi_same (by unfold rg; omega)
  · rw [Xi_ne (by omega), Xi_ne (by omega), Xi_ne (by omega)]; exact Xi_same (by unfold rg; omega)
  · rw [Xi_ne (by omega), Xi_ne (by omega)]; exact Xi_same (by unfold rg; omega)
  · rw [Xi_ne (by omega)]; exact Xi_same (by unfold rg; omega)
def lAC0 : List rec := [(904, 905, 116, 117), (979, 980, 0, 100000), (980, 981, 0, 100000), (981, 982, 0, 100000), (982, 983, 0, 100000)]
theorem aca_F {S : sS} {l : Nat} (hl : l < 100) : FR lAC0 S (acA S l) := by
  have e : ((l : Nat) : Int).toNat = l := by omega
  unfold acA
  rw [e]
  exact FR.wI (FR.wI (FR.wI (FR.wI (FR.wI FR.rf (by unfold mdf inR lAC0; simp; omega)) (by unfold mdf inR lAC0; simp; omega)) (by unfold mdf inR lAC0; simp; omega)) (by unfold mdf inR lAC0; simp; omega)) (by unfold mdf inR lAC0; simp)
theorem aca_K {S : sS} {l : Nat} : KRE S (acA S l) l := by
  have e : ((l : Nat) : Int).toNat = l := by omega
  unfold acA
  rw [e]
  exact kre_I (kre_I (kre_I (kre_I (kre_I kre_0 (by omega)) (by omega)) (by omega)) (by omega)) (by omega)
theorem aca_N {S : sS} {l : Nat} : NT3 (acA S l) = NT3 S := by
  unfold acA NT3
  rw [Xi_ne (by omega), Xi_ne (by omega), Xi_ne (by omega), Xi_ne (by omega), Xi_ne (by omega), Xi_ne (by omega), Xi_ne (by omega), Xi_ne (by omega), Xi_ne (by omega), Xi_ne (by omega), Xi_ne (by omega), Xi_ne (by omega), Xi_ne (by omega), Xi_ne (by omega), Xi_ne (by omega)]
/-- ACTING without ART RUN, in both -/
theorem hd_a {H D S S1 : sS} {f ru : Nat} {a b w : Int} (hw : ENW H S f) (rn : RNR H S f (Xi S 904 102) a b) (hru : ru < 24) (row : Xi H (248 + ru) 3 = -1 ∧ Xi H (248 + ru) 4 = 0) (b5 : Xi D 246 5 = Xi H 246 5) (c : AAO H D ru a b w) (hz : w = 0 ∨ w = 1) (r : AMA S S1 ru) : NTG (pc7 H a) (NT3 S) (NT3 S1) ∧ KRE S S1 ru ∧ (w = 0 → (NT3 S).1 = 0 → NTB (NT3 S1) (Xi D 876 8) (Xi D 876 9) ∧ Xi D 876 8 ≠ 0 ∧ Xi D 876 9 = pc7 H a) ∧ (w = 1 → NT3 S1 = NT3 S ∧ Xi D 876 8 = 0 ∧ ∃ A o : Int, HRS H D S1 ru (Xi H 246 5) A o (-1) 0) := by
  obtain ⟨B, C, E, n, ac, FB, n1, FC, n2, FE, r0, r1⟩ := r
  have el : ((ru : Nat) : Int).toNat = ru := by omega
  have F0 := aca_F (S := S) (l := ru) (by omega)
  have w0 : ENW H (acA S ru) f := enw_k hw KEP.rf (F0.kep rfl)
  have rn0 := rn.kS (F0.kep rfl : KEP [(950, 952)] [] S (acA S ru))
  have e102 : Xi (acA S ru) 904 102 = Xi S 904 102 := F0.x 904 102 rfl
  obtain ⟨k1, k2, k3, k4, k5, k6⟩ := c
  have ax := aa_x w0.1 w0.2.1 rn0
  obtain ⟨a1, a2⟩ := ac
  rw [rn0.2.2.2.1, rn0.2.2.2.2.1] at a1 a2
  have rp : pc7 H a = pR S (Xi S 904 102) := rn_pc (scx_s hw.2.1 hw.1.1) rn
  rw [← rp] at n1 n2
  have nB : NT3 B = NT3 S := (NT3_FR FB rfl).trans aca_N
  rw [nB] at n1
  rw [n1] at n2
  obtain ⟨x1, x2, x3⟩ := ax
  rw [a1] at x1 x2 x3
  have KE : KRE S E ru := kre_F FE rfl (kre_F FC rfl (kre_F FB rfl aca_K))
  have ntE : 0 < n → S1 = _ := r1
  have n3 : NT3 S1 = NT3 E := by
    by_cases q : 0 < n
    · rw [r1 q]
      unfold NT3
      rw [Xi_ne (by omega), Xi_ne (by omega), Xi_ne (by omega), Xi_ne (by omega), Xi_ne (by omega), Xi_ne (by omega), Xi_ne (by omega), Xi_ne (by omega), Xi_ne (by omega)]
    · rw [r0 q]
  have KS : KRE S S1 ru := by
    by_cases q : 0 < n
    · rw [r1 q, el]; exact kre_I (kre_I (kre_I KE (by omega)) (by omega)) (by omega)
    · rw [r0 q]; exact KE
  refine ⟨?_, KS, fun w0' x0 => ?_, fun w1 => ?_⟩
  · rw [n3, n2]
    have g : NTG (pc7 H a) (NT3 S) (if 0 < n then NT3 S else ntF (NT3 S) 4 (pc7 H a)) := ntg_if ntg_0 (ntg_1 (Int.le_refl _))
    exact ntg_if g (ntg_n g (Int.le_refl _))
  · have ne : (aaF H a b (b - a - 1).toNat).2.2 ≠ 1 := fun q => by have := (k5 q).1; omega
    obtain ⟨_, ft⟩ := k6 ne
    rw [ft.1, ft.2, n3, n2]
    rw [x1] at ne ⊢
    refine ⟨?_, by split <;> decide, rfl⟩
    by_cases q : n = 0
    · rw [if_pos q, if_pos (by omega), if_neg (by omega)]; exact ntb_1 x0
    · rw [if_neg q, if_neg (by omega), if_pos (by omega)]; exact ntb_1 x0
  · have e1 : (aaF H a b (b - a - 1).toNat).2.2 = 1 := Classical.byContradiction (fun q => by have := (k6 q).1; omega)
    have n1' : n = 1 := by rw [← x1]; exact e1
    subst n1'
    obtain ⟨y1, y2, y3, y4⟩ := x3 rfl
    obtain ⟨z1, z2⟩ := a2 (by decide)
    rw [← y1] at z1
    rw [← y2] at z2
    rw [if_pos (by decide), if_pos (by decide)] at n2
    have f8 := (k5 e1).2
    refine ⟨n3.trans n2, f8, (aaF H a b (b - a - 1).toNat).1, (aaF H a b (b - a - 1).toNat).2.1, ?_⟩
    generalize eA : (aaF H a b (b - a - 1).toNat).1 = A at *
    generalize eo : (aaF H a b (b - a - 1).toNat).2.1 = o at *
    have c8 := hw.1.2.2.1.2.2.2.2.2.2.2.2
    have c2 := hw.1.2.2.1.2.2.1
    have c0 := hw.1.2.2.1.1
    have s1 := r1 (by decide)
    rw [el, z1, z2] at s1
    obtain ⟨p1, p2, p3, p4, p5⟩ := aca_x (S := S) (l := ru)
    have FAE : KEP [(981, 984)] [] (acA S ru) E := ((FB.kep rfl).tr (FC.kep rfl)).tr (FE.kep rfl)
    have at' := hw.1.2.2.2.2.2.2.2.2.1.2 A.toNat (by omega)
    have nk : nkA S B = nnD (if o ≠ -1 then Xi H 21 o.toNat else Xi H 19 A.toNat) := by
      unfold nkA
      rw [z1, z2]
      by_cases q : o ≠ -1
      · rw [if_pos q, if_pos q]
        have oo := hw.1.2.2.2.2.2.2.2.2.2.1.1.2 o.toNat (by omega)
        unfold nnD
        rw [oo.1, if_neg (by omega)]
      · rw [if_neg q, if_neg q, ← at'.1]
        unfold nnD
        by_cases u : -1 < Xi H 19 A.toNat
        · rw [if_pos u, if_neg (by omega)]
        · rw [if_neg u]; split <;> omega
    have nr : -1 ≤ nkA S B ∧ nkA S B < Xi H 5 0 := by
      rw [nk]
      unfold nnD
      by_cases q : o ≠ -1
      · rw [if_pos q]
        have oo := hw.1.2.2.2.2.2.2.2.2.2.1.1.2 o.toNat (by omega)
        rw [oo.1, if_neg (by omega)]; omega
      · rw [if_neg q]; split <;> omega
    refine ⟨⟨k3, k4, by rw [k2 3 (by omega) (by omega)]; exact row.1, by rw [k2 4 (by omega) (by omega)]; exact row.2⟩, ⟨?_, ?_, ?_, ?_⟩, ⟨y3, by omega, by omega, by omega⟩, ⟨fun q => ?_, fun _ => rfl, fun _ => rfl⟩, ?_, by rw [b5]; omega, fun i hi => by omega⟩
    · rw [s1, Xi_ne (by omega), Xi_ne (by omega)]; exact Xi_same (by unfold rg; omega)
    · rw [s1, Xi_ne (by omega)]; exact Xi_same (by unfold rg; omega)
    · rw [s1, Xi_ne (by omega), Xi_ne (by omega), Xi_ne (by omega), FAE.x 981 rfl]; exact p3
    · rw [s1, Xi_ne (by omega), Xi_ne (by omega), Xi_ne (by omega), FAE.x 982 rfl]; exact p4
    · rcases y4 with q2 | q2
      · rcases q with q | q
        · exact absurd q2 q
        · exact absurd rfl q
      · exact q2.2
    · rw [s1, Xi_same (by unfold rg; omega), nk, if_neg (show ¬ ((-1 : Int) ≠ -1) from fun q => q rfl)]
end
section
/-! class and reference: the head of a rule, ACTING on something -/
theorem hd_o {H D S S1 : sS} {f ru : Nat} {a b h w : Int} (hw : ENW H S f) (rn : RNR H S f (Xi S 904 102) a b) (rm : RNR H S f (Xi S 904 103) (b + 1) h) (fin : ty7 H h ≠ 100) (hh : h < Xi H 876 7) (hru : ru < 24) (row : Xi H (248 + ru) 2 = -1 ∧ Xi H (248 + ru) 3 = -1 ∧ Xi H (248 + ru) 4 = 0) (base : 0 ≤ Xi H 246 5 ∧ Xi H 246 5 + 5 ≤ 600) (c : AOO H D ru a b h w) (hz : w = 0 ∨ w = 1) (r : AMO S S1 ru) : NTG (pc7 H a) (NT3 S) (NT3 S1) ∧ KRE S S1 ru ∧ (w = 0 → (NT3 S).1 = 0 → NTB (NT3 S1) (Xi D 876 8) (Xi D 876 9) ∧ Xi D 876 8 ≠ 0 ∧ (Xi D 876 9 = pc7 H a ∨ Xi D 876 9 = pc7 H (b + 1))) ∧ (w = 1 → NT3 S1 = NT3 S ∧ Xi D 876 8 = 0 ∧ ∃ A o k n : Int, HRS H D S1 ru (Xi H 246 5) A o k n) := by
  have el : ((ru : Nat) : Int).toNat = ru := by omega
  have F0 := aca_F (S := S) (l := ru) (by omega)
  have h15 : 0 ≤ Xi S 904 15 := by have := hw.1.1.1.1; omega
  have fe : fnd H 8 a b = rnR S (Xi S 904 102) 11 := rn_fnd (s := 11) (scx_s hw.2.1 hw.1.1) rn hw.1.1.2.2.2.1 h15 (by omega)
  have fo : fnd H 2 (b + 1) h = rnR S (Xi S 904 103) 4 := rn_fnd (s := 4) (scx_s hw.2.1 hw.1.1) rm hw.1.1.2.2.2.1 h15 (by omega)
  have rp : pc7 H a = pR S (Xi S 904 102) := rn_pc (scx_s hw.2.1 hw.1.1) rn
  have rq : pc7 H (b + 1) = pR S (Xi S 904 103) := rn_pc (scx_s hw.2.1 hw.1.1) rm
  have r01 := rn.1
  have r02 := rn.2.1
  have r11 := rm.2.1
  have r12 := rm.2.2.1
  have lt : pc7 H a < pc7 H (b + 1) := hw.2.2.2.2.2 _ _ r01 (by omega) (by omega)
  have n0 := aca_N (S := S) (l := ru)
  have K0 := aca_K (S := S) (l := ru)
  obtain ⟨c1, c2, c3⟩ := c
  rcases r with r | ⟨A, ng, na, B, ⟨eA, FB, nB⟩, FC, nC⟩ | ⟨A, C, ng, ⟨na, B, ⟨eA, FB, nB⟩, FC, nC⟩, E0, E, F, G, eD0, ⟨kd6, kd7⟩, FE, eF, FG, nG, s1, s2⟩
  · obtain ⟨eA, FB, nB⟩ := r
    rw [if_neg (fun q => q rfl), n0, ← rp] at nB
    have q : fnd H 8 a b = -1 := fe.trans eA.symm
    obtain ⟨w0, ft⟩ := c1 q
    refine ⟨by rw [nB]; exact ntg_1 (Int.le_refl _), kre_F FB rfl K0, fun _ x0 => ?_, fun w1 => by omega⟩
    rw [ft.1, ft.2, nB]
    exact ⟨ntb_1 x0, by decide, Or.inl rfl⟩
  · have q : fnd H 8 a b ≠ -1 := by rw [fe, ← eA]; exact na
    have g : 0 ≤ fnd H 8 a b ∧ fnd H 8 a b < Xi H 5 8 := fnd_wc (by omega) hw.1.1.2.2.1 hw.1.2.1 q
    have at' := hw.1.2.2.2.2.2.2.2.2.1.2 (fnd H 8 a b).toNat (by omega)
    have e19 : Xi H 19 (fnd H 8 a b).toNat = Xi S 942 A.toNat := by rw [at'.1, fe, eA]
    obtain ⟨w0, ft⟩ := c2 q (by rw [e19]; exact ng)
    rw [if_pos na, n0] at nB
    rw [if_neg (by omega), nB, ← rq] at nC
    refine ⟨by rw [nC]; exact ntg_1 (by omega), kre_F FC rfl (kre_F FB rfl K0), fun _ x0 => ?_, fun w1 => by omega⟩
    rw [ft.1, ft.2, nC]
    exact ⟨ntb_1 x0, by decide, Or.inr rfl⟩
  · have q : fnd H 8 a b ≠ -1 := by rw [fe, ← eA]; exact na
    have g : 0 ≤ fnd H 8 a b ∧ fnd H 8 a b < Xi H 5 8 := fnd_wc (by omega) hw.1.1.2.2.1 hw.1.2.1 q
    have at' := hw.1.2.2.2.2.2.2.2.2.1.2 (fnd H 8 a b).toNat (by omega)
    have eAf : A = fnd H 8 a b := by rw [fe, eA]
    have e19 : Xi H 19 (fnd H 8 a b).toNat = Xi S 942 A.toNat := by rw [at'.1, eAf]
    have ar := c3 q (by rw [e19]; exact ng)
    rw [if_pos na, n0] at nB
    rw [if_pos ng, nB] at nC
    rw [← eAf] at ar e19
    generalize eK : Xi S 942 A.toNat = K at *
    rw [e19] at ar
    -- the state in which the words are asked
    have FD : FR [(904, 905, 104, 105), (904, 905, 105, 106), (904, 905, 106, 107), (904, 905, 109, 110), (904, 905, 116, 117), (979, 980, 0, 100000), (980, 981, 0, 100000), (981, 982, 0, 100000), (982, 983, 0, 100000)] S E0 := by
      rw [eD0]
      exact FR.wI (((F0.up rfl).tr FB rfl).tr FC rfl) rfl
    have wD : ENW H E0 f := enw_k hw KEP.rf (FD.kep rfl)
    have rmD := rm.kS (FD.kep rfl : KEP [(950, 952)] [] S E0)
    have e103 : Xi E0 904 103 = Xi S 904 103 := FD.x 904 103 rfl
    rw [rm.2.2.2.1, rm.2.2.2.2.1] at kd6
    rw [rm.2.2.2.2.1] at kd7
    have z109 : Xi E0 904 109 = 0 := by rw [eD0]; exact Xi_same (by unfold rg; omega)
    have c5 := wD.1.2.2.1.2.2.2.2.2.1
    have h32 : 0 ≤ Xi E0 904 32 ∧ Xi E0 904 32 ≤ 12 := by omega
    have rE : Xi E 904 109 = rdC H (b + 1) h K ∧ 0 ≤ rdC H (b + 1) h K ∧ rdC H (b + 1) h K ≤ 13349232 := by
      unfold rdC
      by_cases q6 : h - (b + 1) ≤ 6
      · have k := kd6 q6
        rw [if_pos q6, ct_r wD.1 wD.2.1 rmD q6]
        exact ⟨by rw [k.1, z109]; omega, dcT_nn h32, dcT_up h32 q6⟩
      · rw [if_neg q6, kd7 (by omega)]
        exact ⟨z109, Int.le_refl _, by omega⟩
    -- the object
    have l100 : ty7 H (b + 1) = 100 := rm.2.2.2.2.2 (b + 1) (Int.le_refl _) (by omega)
    have hwho : whoC H (b + 1) h = fnd H 2 (b + 1) h ∧ whkC H (b + 1) h = (if fnd H 2 (b + 1) h ≠ -1 then Xi H 21 (fnd H 2 (b + 1) h).toNat else -1) := by
      have b0 : bA (ty7 H) (b + 1) = b + 1 := by unfold bA art7; rw [if_neg (by omega)]
      have ru' := ru_u (U := H) (a := b + 1) (b := h) (e := h) (by omega) (Int.le_refl _) (by have := hw.2.1.2; omega) rm.2.2.2.2.2 (Or.inl rfl)
      have tk : thk (ty7 H) (b + 1) = 100 := by unfold thk; rw [if_neg (by omega)]; exact l100
      unfold whoC whkC
      rw [tk, if_neg (by decide), if_neg (by decide), b0, ru']
      exact ⟨rfl, rfl⟩
    have ob : obI H (b + 1) h K = (if amo S A ≠ -1 then 1 else 0) ∧ (amo S A ≠ -1 → amo S A = whoC H (b + 1) h ∧ (0 ≤ whoC H (b + 1) h ∧ whoC H (b + 1) h < Xi H 5 2)) := by
      unfold obI amo
      rw [hwho.1, hwho.2, ← fo, eK]
      by_cases q2 : fnd H 2 (b + 1) h = -1
      · rw [if_neg (show ¬ (0 ≤ fnd H 2 (b + 1) h ∧ _) from fun y => by have := y.1; omega), if_neg (show ¬ (fnd H 2 (b + 1) h ≠ -1 ∧ _) from fun y => y.1 q2), if_neg (fun y => y rfl)]
        exact ⟨rfl, fun y => absurd rfl y⟩
      · have g2 := whc_2 hw.1.1.2.2.1 hw.1.2.1 q2
        have oo := hw.1.2.2.2.2.2.2.2.2.2.1.1.2 (fnd H 2 (b + 1) h).toNat (by omega)
        have ik : isK H (Xi H 21 (fnd H 2 (b + 1) h).toNat) K = blR S (Xi S 918 (fnd H 2 (b + 1) h).toNat) K := by rw [oo.1]; exact isK_bl hw.1.2.2.2.1 oo.2.2
        rw [if_pos q2, ik]
        by_cases q3 : blR S (Xi S 918 (fnd H 2 (b + 1) h).toNat) K ≠ 0
        · have e1 : (if fnd H 2 (b + 1) h ≠ -1 ∧ blR S (Xi S 918 (fnd H 2 (b + 1) h).toNat) K ≠ 0 then fnd H 2 (b + 1) h else -1) = fnd H 2 (b + 1) h := if_pos ⟨q2, q3⟩
          rw [if_pos ⟨g2.1, q3⟩, e1, if_pos q2]
          exact ⟨rfl, fun _ => ⟨rfl, g2⟩⟩
        · have e1 : (if fnd H 2 (b + 1) h ≠ -1 ∧ blR S (Xi S 918 (fnd H 2 (b + 1) h).toNat) K ≠ 0 then fnd H 2 (b + 1) h else -1) = -1 := if_neg (fun y => q3 y.2)
          rw [if_neg (fun y => q3 y.2), e1, if_neg (fun y => y rfl)]
          exact ⟨rfl, fun y => absurd rfl y⟩
    have b01 : obI H (b + 1) h K = 0 ∨ obI H (b + 1) h K = 1 := by unfold obI; split <;> omega
    have eF9 : Xi F 904 109 = rdC H (b + 1) h K + obI H (b + 1) h K := by
      rw [eF, Xi_same (by rw [rE.1]; unfold rg; split <;> omega), rE.1, ob.1]
    have nF : NT3 F = NT3 S := by
      have x1 : NT3 F = NT3 E := by
        rw [eF]
        unfold NT3
        rw [Xi_ne (by omega), Xi_ne (by omega), Xi_ne (by omega)]
      have x2 : NT3 E0 = NT3 C := by
        rw [eD0]
        unfold NT3
        rw [Xi_ne (by omega), Xi_ne (by omega), Xi_ne (by omega)]
      rw [x1, NT3_FR FE rfl, x2, nC]
    rw [nF, eF9, ← rq] at nG
    have KG : KRE S G ru := by
      have k1 : KRE S E0 ru := by rw [eD0]; exact kre_I (kre_F FC rfl (kre_F FB rfl K0)) (by omega)
      have k2 : KRE S F ru := by rw [eF]; exact kre_I (kre_F FE rfl k1) (by omega)
      exact kre_F FG rfl k2
    have nH : NT3 (amH S E G ru A) = NT3 G := by
      unfold amH NT3
      rw [Xi_ne (by omega), Xi_ne (by omega), Xi_ne (by omega), Xi_ne (by omega), Xi_ne (by omega), Xi_ne (by omega), Xi_ne (by omega), Xi_ne (by omega), Xi_ne (by omega)]
    have KH : KRE S (amH S E G ru A) ru := by
      unfold amH
      rw [el]
      exact kre_I (kre_I (kre_I KG (by omega)) (by omega)) (by omega)
    have nS : NT3 S1 = NT3 G := by
      by_cases q2 : 0 < Xi E 904 109 ∧ amo S A = -1
      · rw [s2 q2]
        have : NT3 (uI (uI (amH S E G ru A) 981 ((ru : Nat) : Int).toNat (Int32.ofInt (Xi E 904 110))) 982 ((ru : Nat) : Int).toNat (Int32.ofInt (Xi E 904 112))) = NT3 G := by
          rw [← nH]
          unfold NT3
          rw [Xi_ne (by omega), Xi_ne (by omega), Xi_ne (by omega), Xi_ne (by omega), Xi_ne (by omega), Xi_ne (by omega)]
        rw [← this]
        unfold NT3
        rw [cpi_n (Or.inl (by omega)), cpi_n (Or.inl (by omega)), cpi_n (Or.inl (by omega))]
      · rw [s1 q2]; exact nH
    have KS : KRE S S1 ru := by
      by_cases q2 : 0 < Xi E 904 109 ∧ amo S A = -1
      · rw [s2 q2, el]
        have kk : KRE S (uI (uI (amH S E G ru A) 981 ru (Int32.ofInt (Xi E 904 110))) 982 ru (Int32.ofInt (Xi E 904 112))) ru := kre_I (kre_I KH (by omega)) (by omega)
        refine ⟨fun cc r' a0 a1 a2 a3 => ?_, fun j hj => ?_⟩
        · rw [cpi_n (Or.inl a2)]; exact kk.1 cc r' a0 a1 a2 a3
        · rw [cpi_n (Or.inr (by omega))]; exact kk.2 j hj
      · rw [s1 q2]; exact KH
    refine ⟨?_, KS, fun w0 x0 => ?_, fun w1 => ?_⟩
    · rw [nS, nG]
      exact ntg_if (ntg_1 (by omega)) (ntg_if (ntg_1 (by omega)) ntg_0)
    · have ns : obI H (b + 1) h K + rdC H (b + 1) h K ≠ 1 := fun q2 => by
        rcases b01 with q3 | q3
        · have := (ar.2.2 q2 q3).1; omega
        · have := (ar.2.1 q2 q3).1; omega
      obtain ⟨_, ft⟩ := ar.1 ns
      rw [ft.1, ft.2, nS, nG]
      refine ⟨?_, by split <;> decide, Or.inr rfl⟩
      by_cases q2 : rdC H (b + 1) h K + obI H (b + 1) h K ≤ 0
      · rw [if_pos q2, if_neg (by omega)]; exact ntb_1 x0
      · rw [if_neg q2, if_pos (by omega), if_pos (by omega)]; exact ntb_1 x0
    · have sm : obI H (b + 1) h K + rdC H (b + 1) h K = 1 := Classical.byContradiction (fun q2 => by have := (ar.1 q2).1; omega)
      rw [if_neg (by omega), if_neg (by omega)] at nG
      have c8 := hw.1.2.2.1.2.2.2.2.2.2.2.2
      have c2' := hw.1.2.2.1.2.2.1
      have c0 := hw.1.2.2.1.1
      obtain ⟨p1, p2, p3, p4, p5⟩ := aca_x (S := S) (l := ru)
      have keepG : Xi G 981 ru = -1 ∧ Xi G 982 ru = 0 := by
        have k1 : ∀ k, k = 981 ∨ k = 982 → Xi G k ru = Xi (acA S ru) k ru := fun k hk => by
          rcases hk with hk | hk <;> subst hk
          · rw [(FG.kep rfl : KEP [(981, 983)] [] F G).x 981 rfl, eF, Xi_ne (by omega), (FE.kep rfl : KEP [(981, 983)] [] E0 E).x 981 rfl, eD0, Xi_ne (by omega), (FC.kep rfl : KEP [(981, 983)] [] B C).x 981 rfl, (FB.kep rfl : KEP [(981, 983)] [] (acA S ru) B).x 981 rfl]
          · rw [(FG.kep rfl : KEP [(981, 983)] [] F G).x 982 rfl, eF, Xi_ne (by omega), (FE.kep rfl : KEP [(981, 983)] [] E0 E).x 982 rfl, eD0, Xi_ne (by omega), (FC.kep rfl : KEP [(981, 983)] [] B C).x 982 rfl, (FB.kep rfl : KEP [(981, 983)] [] (acA S ru) B).x 982 rfl]
        exact ⟨(k1 981 (Or.inl rfl)).trans p3, (k1 982 (Or.inr rfl)).trans p4⟩
      have k19 : -2 ≤ K ∧ K < Xi H 5 0 := by
        have := hw.1.2.2.2.2.2.2.2.2.1.2 A.toNat (by omega)
        rw [e19] at this
        exact this.2
      rcases b01 with q3 | q3
      · -- a DESCRIPTION
        obtain ⟨_, f8, n, en, ⟨m, m1, m2, m3, m4, m5, m6, m7, m8⟩, ac1, ac2, ac3⟩ := ar.2.2 sm q3
        have am1 : amo S A = -1 := Classical.byContradiction (fun y => by have t := ob.1; rw [if_pos y] at t; omega)
        have rd1 : rdC H (b + 1) h K = 1 := by omega
        have q6 : h - (b + 1) ≤ 6 := Classical.byContradiction (fun y => by unfold rdC at rd1; rw [if_neg y] at rd1; exact absurd rd1 (by decide))
        have cc1 : ccT H (b + 1) h 0 1 K 4 = 1 := by unfold rdC at rd1; rw [if_pos q6] at rd1; exact rd1
        have dc1 : dcT E0 (f + (b + 1)) (h - (b + 1)) 0 1 K 4 = 1 := by rw [← ct_r wD.1 wD.2.1 rmD q6]; exact cc1
        obtain ⟨m', n1, n2, n3, n4⟩ := (kd6 q6).2.2 z109 (by omega)
        have ek := dcT_1 dc1 ⟨n1.1, by omega⟩ n1.2.2 n3 h32
        have ckb := (ck_r (pl := 0) wD.1 wD.2.1 rmD ⟨m1.1, m1.2.1, m1.2.2⟩).2 (fun y => by unfold ccC at m2; rw [if_neg (fun z => z.1 y)] at m2; exact absurd m2 (by decide))
        have dk := dsk_of (U1 := uI D 895 12 (Int32.ofInt (ckC H h 0 m))) wD.1 wD.2.1 rmD q6 ⟨m1.1, m1.2.1, m1.2.2⟩ ⟨n1.1, by omega, n1.2.2⟩ cc1 m2 ek (Xi_same (by unfold rg; omega)) (by
          obtain ⟨x1, x2, x3⟩ := m7
          exact ⟨by rw [Xi_ne (by omega)]; exact x1, x2, fun i hi => by rw [Xi_ne (by omega), Xi_ne (by omega)]; exact x3 i hi⟩) n4
        obtain ⟨d1, d2, d3, d4⟩ := dk
        rw [Xi_same (by unfold rg; omega)] at d1 d2
        rw [Xi_ne (by omega)] at d3
        have n5 : (n : Int) ≤ 5 := by
          rw [← en, m7.1]
          have := prs_f (f := fA H (ckC H h 0 m) (b + 1) 1) (g := g1C H (b + 1)) (z := h - m - (b + 1)) 6 5 0 (by omega) (by omega)
          rw [this]
          have := prs_len (f := fA H (ckC H h 0 m) (b + 1) 1) (g := g1C H (b + 1)) (z := h - m - (b + 1)) 5 0
          omega
        have q2 : 0 < Xi E 904 109 ∧ amo S A = -1 := ⟨by rw [rE.1]; omega, am1⟩
        have es := s2 q2
        rw [el] at es
        have rg10 : rg (Xi E 904 110) := by rw [← d1]; unfold rg; omega
        have rg12 : rg (Xi E 904 112) := by rw [← d3, en]; unfold rg; omega
        have eh : amH S E G ru A = uI (uI (uI G 979 ru (Int32.ofInt A)) 980 ru (Int32.ofInt (amo S A))) 904 116 (Int32.ofInt (nkO S E A)) := by unfold amH; rw [el]
        have nk : nkO S E A = Xi E 904 110 := by unfold nkO; rw [if_neg (fun y => y am1), if_pos q2.1]
        refine ⟨nS.trans nG, f8, A, -1, ckC H h 0 m, n, ⟨m3, by rw [m6 2 (by omega) (by omega) (by omega)]; exact row.1, m4, by rw [m5, en]⟩, ⟨?_, ?_, ?_, ?_⟩, ⟨⟨by omega, by omega⟩, by omega, by omega, by omega⟩, ⟨fun _ => by rw [e19]; exact ng, fun y => absurd rfl y, fun y => by omega⟩, ?_, ac1, fun i hi => ?_⟩
        · rw [es, cpi_n (Or.inl (by omega)), Xi_ne (by omega), Xi_ne (by omega), eh, Xi_ne (by omega), Xi_ne (by omega)]; exact Xi_same (by unfold rg; omega)
        · rw [es, cpi_n (Or.inl (by omega)), Xi_ne (by omega), Xi_ne (by omega), eh, Xi_ne (by omega), am1]; exact Xi_same (by unfold rg; omega)
        · rw [es, cpi_n (Or.inl (by omega)), Xi_ne (by omega), Xi_same rg10]; exact d1.symm
        · rw [es, cpi_n (Or.inl (by omega)), Xi_same rg12, ← d3]; exact en
        · rw [es, cpi_n (Or.inl (by omega)), Xi_ne (by omega), Xi_ne (by omega), eh, Xi_same (by rw [nk]; exact rg10), nk, if_neg (fun y => y rfl), if_pos (by omega), ← d1]
          unfold nnD
          rw [if_neg (by omega)]
        · have hi' : (i : Int) < Xi D 895 14 := by rw [en]; omega
          obtain ⟨g1, g2, g3⟩ := d4 i (by rw [Xi_ne (by omega)]; exact hi')
          rw [Xi_ne (by omega), Xi_ne (by omega)] at g1
          rw [Xi_ne (by omega), Xi_ne (by omega)] at g2
          rw [Xi_ne (by omega)] at g3
          have x983 : Xi S1 983 (6 * ru + i) = Xi E 967 i := by
            rw [es, show (6 * ((ru : Nat) : Int)).toNat = 6 * ru by omega, cpi_i (by omega), Nat.zero_add, Xi_ne (by omega), Xi_ne (by omega), eh, Xi_ne (by omega), Xi_ne (by omega), Xi_ne (by omega), (FG.kep rfl : KEP [(967, 968)] [] F G).x 967 rfl, eF, Xi_ne (by omega)]
          rw [x983]
          refine ⟨Xi D 896 i, Xi D 897 i, ac2 i (by omega), g1, g2, fun y => ?_⟩
          obtain ⟨y1, y2, y3, y4⟩ := g3 y
          rw [Xi_ne (by omega)] at y2 y3 y4
          exact ⟨y1, y2, by rw [y4]; exact y3⟩
      · -- an object
        obtain ⟨_, f8, aw1, aw2, aw3, aw4, aw5, aw6⟩ := ar.2.1 sm q3
        have am1 : amo S A ≠ -1 := fun y => by have t := ob.1; rw [if_neg (fun z => z y)] at t; omega
        obtain ⟨o1, o2⟩ := ob.2 am1
        have es := s1 (fun y => am1 y.2)
        have eh : amH S E G ru A = uI (uI (uI G 979 ru (Int32.ofInt A)) 980 ru (Int32.ofInt (amo S A))) 904 116 (Int32.ofInt (nkO S E A)) := by unfold amH; rw [el]
        rw [eh] at es
        have oo := hw.1.2.2.2.2.2.2.2.2.2.1.1.2 (amo S A).toNat (by omega)
        have nk : nkO S E A = Xi S 918 (amo S A).toNat := by unfold nkO; rw [if_pos am1]
        rw [← o1] at aw4 o2
        refine ⟨nS.trans nG, f8, A, amo S A, -1, 0, ⟨aw3, aw4, by rw [aw2 3 (by omega) (by omega)]; exact row.2.1, by rw [aw2 4 (by omega) (by omega)]; exact row.2.2⟩, ⟨?_, ?_, ?_, ?_⟩, ⟨⟨by omega, by omega⟩, by omega, by omega, by omega⟩, ⟨fun _ => by rw [e19]; exact ng, fun _ => rfl, fun _ => rfl⟩, ?_, by rw [aw5]; omega, fun i hi => by omega⟩
        · rw [es, Xi_ne (by omega), Xi_ne (by omega)]; exact Xi_same (by unfold rg; omega)
        · rw [es, Xi_ne (by omega)]; exact Xi_same (by unfold rg; omega)
        · rw [es, Xi_ne (by omega), Xi_ne (by omega), Xi_ne (by omega)]; exact keepG.1
        · rw [es, Xi_ne (by omega), Xi_ne (by omega), Xi_ne (by omega)]; exact keepG.2
        · rw [es, Xi_same (by rw [nk]; unfold rg; omega), nk, if_pos am1, oo.1]
          unfold nnD
          rw [if_neg (by omega)]
end
section
/-! class and reference: the head of a rule, all of it -/
theorem hrs_k {U H D A S : sS} {ru : Nat} {base a o k n : Int} (hru : ru < 24) (hb : 0 ≤ base ∧ base + 5 ≤ 600) (h : HRS H D S ru base a o k n) (e : KEP [(5, 6), (9, 10), (19, 20), (21, 22)] [] U H) (d : KEP [(248, 272), (276, 876)] [(246, 5)] D A) : HRS U A S ru base a o k n := by
  have e5 : ∀ j, Xi H 5 j = Xi U 5 j := e.x 5 rfl
  have e9 : ∀ j, Xi H 9 j = Xi U 9 j := e.x 9 rfl
  have e19 : ∀ j, Xi H 19 j = Xi U 19 j := e.x 19 rfl
  have e21 : ∀ j, Xi H 21 j = Xi U 21 j := e.x 21 rfl
  have r : ∀ j, Xi A (248 + ru) j = Xi D (248 + ru) j := fun j => d.1.x _ (inK_i (a := 248) (b := 272) (List.mem_cons_self ..) (by omega) (by omega)) j
  have c : ∀ cl j : Nat, cl < 600 → Xi A (276 + cl) j = Xi D (276 + cl) j := fun cl j hc => d.1.x _ (inK_i (a := 276) (b := 876) (List.mem_cons_of_mem _ (List.mem_cons_self ..)) (by omega) (by omega)) j
  obtain ⟨h1, h2, h3, h4, h5, h6, h7⟩ := h
  rw [e5, e5, e5] at h3
  rw [e19] at h4
  rw [e19, e21] at h5
  refine ⟨by rw [r, r, r, r]; exact h1, h2, h3, h4, h5, by rw [d.f 246 5 (by decide)]; exact h6, fun i hi => ?_⟩
  obtain ⟨t, p, x1, x2, x3, x4⟩ := h7 i hi
  rw [e5] at x3
  rw [e5, e5, e9] at x4
  refine ⟨t, p, ?_, x2, x3, x4⟩
  unfold CLM at x1 ⊢
  have cc := fun j => c (base.toNat + i) j (by omega)
  simp only [cc]
  exact x1
/-- what the head of a rule leaves -/
def HDK (U A S : sS) (ru : Nat) (s hd : Int) : Prop := (Xi A (248 + ru) 0 = soR s ∧ Xi A (248 + ru) 7 = Xi U 246 5) ∧ (Xi A 895 3 = 53 ∧ Xi A 895 4 = Xi S 904 116 ∧ -1 ≤ Xi A 895 4 ∧ Xi A 895 4 < Xi U 5 0) ∧ KRU U A ru ∧ (∀ c j : Nat, (c : Int) < Xi U 246 5 → Xi A (276 + c) j = Xi U (276 + c) j) ∧ Xi A 899 5 = hd ∧ Xi A 876 8 = 0 ∧
  (s = 6 → (Xi A (248 + ru) 1 = -1 ∧ Xi A (248 + ru) 2 = -1 ∧ Xi A (248 + ru) 3 = -1 ∧ Xi A (248 + ru) 4 = 0) ∧ (Xi S 979 ru = -1 ∧ Xi S 980 ru = -1 ∧ Xi S 981 ru = -1 ∧ Xi S 982 ru = 0) ∧ Xi A 246 5 = Xi U 246 5 ∧ Xi A 895 4 = -1) ∧
  (s ≠ 6 → ∃ a o k n : Int, HRS U A S ru (Xi U 246 5) a o k n)
theorem soq_r {s : Int} : soQ s = soR s := by
  unfold soQ soR
  by_cases a : s = 3
  · rw [if_pos a, if_pos a]
  rw [if_neg a, if_neg a]
  by_cases b : s = 5
  · rw [if_pos b, if_neg (by omega), if_pos b]
  rw [if_neg b]
  by_cases c : s = 4
  · rw [if_pos c, if_pos c]
  rw [if_neg c, if_neg c, if_neg b]
theorem head_s {s : Int} (h : s = 3 ∨ s = 4 ∨ s = 5 ∨ s = 6) (h5 : s ≠ 5) (h6 : s ≠ 6) : s = 3 ∨ s = 4 := by omega
theorem head_r {U A S P B' : sS} {f ru : Nat} {s x hd : Int} {lX : List rec} (w : ENW U S f) (b5 : 0 ≤ Xi U 246 5 ∧ Xi U 246 5 + 5 ≤ 600) (eru : (ru : Int) = Xi U 246 2) (lt : Xi U 246 2 < 24) (hs : s = 3 ∨ s = 4 ∨ s = 5 ∨ s = 6) (c : RHO md_rr_ruleHead__p U A s x) (hx : x = 0 ∨ x = 1) (hde : HDE (tkR S) S s f (f + hd)) (hh : hd < Xi U 876 7) (FX : FR lX S P) (eX : kepC lX cXk cSf = true) (eX2 : kepC lX [(950, 952)] [(904, 69), (904, 70), (904, 102), (904, 103)] = true) (e70 : Xi S 904 70 = s) (am : AMX P B' ru) : 1 ≤ hd ∧ NTG (pc7 U 0) (NT3 P) (NT3 B') ∧ KRE P B' ru ∧ (x = 0 → (NT3 P).1 = 0 → NTB (NT3 B') (Xi A 876 8) (Xi A 876 9) ∧ Xi A 876 8 ≠ 0 ∧ ∃ r : Int, 0 ≤ r ∧ r < hd ∧ Xi A 876 9 = pc7 U r) ∧ (x = 1 → NT3 B' = NT3 P ∧ HDK U A B' ru s hd) := by
  have el : ((ru : Nat) : Int).toNat = ru := by omega
  have kX := FX.kep eX
  have kX2 := FX.kep eX2
  have eP70 : Xi P 904 70 = s := by rw [kX2.f 904 70 (by decide)]; exact e70
  obtain ⟨B, ⟨FB, rlm, kru, b3, b4, b99, _, bb5, b8, bcl⟩, c6, cn⟩ := c.2 lt
  rw [show (Xi U 246 2).toNat = ru by omega] at rlm kru cn
  have wB : ENW B P f := enw_k w (FB.kep rfl) kX
  have tyB : ty7 B = ty7 U := ty7_k (FB.kep rfl)
  have pcB : ∀ r, pc7 B r = pc7 U r := pc7_k (FB.kep rfl)
  obtain ⟨o1, o2, o3, o4, o5, o6, o7, o8⟩ := rlm
  have rows : Xi B 876 7 = Xi U 876 7 := FB.x 876 7 rfl
  have c0 := w.1.2.2.1.1
  have n5 := w.2.1.2
  obtain ⟨a6, a1, a2⟩ := am
  obtain ⟨st, h1, h2⟩ := hde
  have b6 : Xi B 899 5 = (if s = 3 ∨ s = 4 then 1 else 2) := b99
  by_cases s6 : s = 6
  · obtain ⟨x1, eA⟩ := c6 s6
    have eB := a6 (by rw [eP70]; exact s6)
    obtain ⟨p1, p2, p3, p4, p5⟩ := aca_x (S := P) (l := ru)
    rw [← eB] at p1 p2 p3 p4 p5
    have hd2 : hd = 2 := by
      rcases h2 with ⟨_, _, y⟩ | ⟨y, _⟩
      · rcases h1 with ⟨z, _⟩ | ⟨_, z⟩
        · omega
        · omega
      · exact absurd s6 y
    have nn : NT3 B' = NT3 P := by rw [eB]; exact aca_N
    refine ⟨by omega, by rw [nn]; exact ntg_0, by rw [eB]; exact aca_K, fun x0 => by omega, fun _ => ⟨nn, ?_⟩⟩
    rw [eA]
    refine ⟨⟨o1, o8⟩, ⟨b3, by rw [b4, p5], by omega, by omega⟩, kru, fun c j hc => bcl c j (by omega), by rw [b6, if_neg (by omega), hd2], b8, fun _ => ⟨⟨o2, o3, o4, o5⟩, ⟨p1, p2, p3, p4⟩, bb5, b4⟩, fun y => absurd s6 y⟩
  · obtain ⟨D, ww, FD, hww, ca, cb, d0, d1⟩ := cn s6
    -- where the head lies
    have est : st = f + Xi B 899 5 := by
      rcases h1 with ⟨z1, _, z2⟩ | ⟨z1, z2⟩
      · rw [z2, b6, if_neg (show ¬ (s = 3 ∨ s = 4) by omega)]
      · rw [z2, b6, if_pos (head_s hs z1 s6)]
    have fr1 : 1 ≤ Xi B 899 5 ∧ Xi B 899 5 ≤ 2 := by rw [b6]; split <;> omega
    rcases h2 with ⟨y, _⟩ | ⟨_, r, rq, rr, h3⟩
    · exact absurd y s6
    rw [est] at rq rr
    have rlt := rq.1
    obtain ⟨R, rfl⟩ : ∃ y : Int, r = f + y := ⟨r - f, by omega⟩
    have Rh : R ≤ hd := by
      rcases h3 with ⟨_, _, y⟩ | ⟨_, y, _⟩
      · omega
      · have := y.1; omega
    have scS : SCX B S f := (enw_k (C := S) w (FB.kep rfl) KEP.rf).2.1
    have tbB := wB.2.2.1
    have rqB := rq_r scS tbB (by omega) (by omega) rq
    have eR : re7 (ty7 B) (Xi B 899 5) = R := re_u (by omega) (by omega) rqB.2.1 rqB.2.2
    have rnB : RNR B S f (Xi S 904 102) (Xi B 899 5) R := rr_rnr (by omega) (by omega) ⟨rqB.1, rqB.2.1⟩ rr
    have arR : onA B ↔ ARK (tkR S (f + R)) := by
      unfold onA ARK
      rw [eR, tkx scS ⟨by omega, by omega⟩]
      have u := (tr_k (tbB R)).2.2.2
      exact ⟨fun y => u.2 y, fun y => u.1 y⟩
    -- the class's state behind the head's end
    generalize eH : hdB B = H at *
    have eH' := eH
    unfold hdB at eH'
    have FH : FR [(899, 900, 5, 6)] B H := by rw [← eH']; exact FR.wI FR.rf rfl
    have wH : ENW H P f := enw_k wB (FH.kep rfl) KEP.rf
    have tyH : ty7 H = ty7 B := ty7_k (FH.kep rfl)
    have pcH : ∀ r, pc7 H r = pc7 U r := fun r => by rw [pc7_k (FH.kep rfl : KEP cWk cWf B H)]; exact pcB r
    have rowH : ∀ j, Xi H (248 + ru) j = Xi B (248 + ru) j := fun j => by rw [← eH', Xi_ne (by omega)]
    have toH : ∀ {q x y : Int}, RNR B S f q x y → RNR H P f q x y := fun z => by
      have z := z.kS (kX2.le rfl (by decide) : KEP [(950, 952)] [] S P)
      unfold RNR at z ⊢
      rw [FH.x 876 7 rfl, tyH]
      exact z
    have e102 : Xi P 904 102 = Xi S 904 102 := kX2.f 904 102 (by decide)
    have e103 : Xi P 904 103 = Xi S 904 103 := kX2.f 904 103 (by decide)
    have rnH : RNR H P f (Xi P 904 102) (Xi B 899 5) R := by rw [e102]; exact toH rnB
    have h246 : Xi H 246 5 = Xi U 246 5 := by rw [FH.x 246 5 rfl]; exact bb5
    have le0 : pc7 U 0 ≤ pc7 U (Xi B 899 5) := by have := w.2.2.2.2.2 0 (Xi B 899 5) (Int.le_refl _) (by omega) (by omega); omega
    have keepU : KEP [(5, 6), (9, 10), (19, 20), (21, 22)] [] U H := KEP.tr (FB.kep rfl) (FH.kep rfl)
    -- from what ACTING leaves to what the head leaves
    have done : ∀ (hdv : Xi H 899 5 = hd), ww = 1 → x = 1 → (∃ a o k n : Int, HRS H D B' ru (Xi H 246 5) a o k n) → Xi D 876 8 = 0 → KRU H D ru → (∀ j : Nat, j = 0 ∨ j = 7 → Xi D (248 + ru) j = Xi H (248 + ru) j) → (∀ c j : Nat, (c : Int) < Xi H 246 5 → Xi D (276 + c) j = Xi H (276 + c) j) → Xi D 899 5 = Xi H 899 5 → HDK U A B' ru s hd := fun hdv w1 x1 ⟨a, o, k, n, hr⟩ f8 kr rj cj d99 => by
      obtain ⟨_, eA⟩ := d1 w1
      have FA : FR [(895, 896, 3, 4), (895, 896, 4, 5)] D A := by rw [eA]; exact FR.wI (FR.wI FR.rf rfl) rfl
      have aD : KEP [(248, 272), (276, 876)] [(246, 5)] D A := FA.kep rfl
      rw [h246] at hr cj
      have hr' := hrs_k (U := U) (A := A) (by omega) b5 hr keepU aD
      have rA : ∀ j, Xi A (248 + ru) j = Xi D (248 + ru) j := fun j => by rw [eA, Xi_ne (by omega), Xi_ne (by omega)]
      have kD : KEP [(19, 20), (21, 22)] [] H D := FD.kep rfl
      obtain ⟨g1, g2, ⟨ga, go, gk, gn⟩, g4, g5, g6, g7⟩ := hr
      have nk : nnK D ru = Xi B' 904 116 := by
        unfold nnK
        rw [g1.1, g1.2.1, g1.2.2.1, kD.x 19 rfl, kD.x 21 rfl]
        exact g5.symm
      have nr : -1 ≤ nnK D ru ∧ nnK D ru < Xi U 5 0 := by
        rw [nk, g5]
        unfold nnD
        have e5 : ∀ j, Xi H 5 j = Xi U 5 j := keepU.x 5 rfl
        by_cases qo : o ≠ -1
        · rw [if_pos qo]
          have oo := wH.1.2.2.2.2.2.2.2.2.2.1.1.2 o.toNat (by omega)
          rw [oo.1, if_neg (by omega), ← e5]; omega
        · rw [if_neg qo]
          by_cases qk : k ≠ -1
          · rw [if_pos qk, if_neg (by omega), ← e5]; omega
          · rw [if_neg qk]
            have aa := wH.1.2.2.2.2.2.2.2.2.1.2 a.toNat (by omega)
            rw [← e5]; split <;> omega
      have a4 : Xi A 895 4 = nnK D ru := by rw [eA]; exact Xi_same (by unfold rg; omega)
      refine ⟨⟨by rw [rA, rj 0 (Or.inl rfl), rowH]; exact o1, by rw [rA, rj 7 (Or.inr rfl), rowH]; exact o8⟩, ⟨by rw [eA, Xi_ne (by omega)]; exact Xi_same (by unfold rg; omega), by rw [a4]; exact nk, by rw [a4]; exact nr.1, by rw [a4]; exact nr.2⟩, ?_, ?_, by rw [FA.x 899 5 rfl, d99]; exact hdv, (FA.x 876 8 rfl).trans f8, fun y => absurd y s6, fun _ => ⟨a, o, k, n, hr'⟩⟩
      · intro i j hi hne
        have : Xi A (248 + i) j = Xi D (248 + i) j := by rw [eA, Xi_ne (by omega), Xi_ne (by omega)]
        rw [this, kr i j hi hne, ← kru i j hi hne, ← eH', Xi_ne (by omega)]
      · intro c j hc
        have : Xi A (276 + c) j = Xi D (276 + c) j := by rw [eA, Xi_ne (by omega), Xi_ne (by omega)]
        rw [this, cj c j hc, ← eH', Xi_ne (by omega)]
        exact bcl c j (by omega)
    by_cases on : onA B
    · rcases h3 with ⟨y, _⟩ | ⟨_, rq2, rr2⟩
      · exact absurd (arR.1 on) y
      rw [show (f : Int) + R + 1 = f + (R + 1) by omega] at rq2 rr2
      have rqB2 := rq_r scS tbB (by omega) (by omega) rq2
      have eh2 : re7 (ty7 B) (R + 1) = hd := re_u (by omega) (by omega) rqB2.2.1 rqB2.2.2
      rw [if_pos on, eR, eh2] at eH'
      have hdv : Xi H 899 5 = hd := by rw [← eH']; exact Xi_same (by unfold rg; omega)
      have rm : RNR H P f (Xi P 904 103) (R + 1) hd := by rw [e103]; exact toH (rr_rnr (by omega) (by omega) ⟨rqB2.1, rqB2.2.1⟩ rr2)
      obtain ⟨ao, Fo⟩ := ca on
      rw [eR, hdv] at ao
      have n103 : Xi P 904 103 ≠ -1 := by rw [e103]; have := rr2.1; omega
      have am2 := a2 (by rw [eP70]; exact s6) n103
      have ho := hd_o wH rnH rm (by rw [tyH]; exact rqB2.2.2) (by rw [FH.x 876 7 rfl, rows]; exact hh) (by omega) ⟨by rw [rowH]; exact o3, by rw [rowH]; exact o4, by rw [rowH]; exact o5⟩ (by rw [h246]; exact b5) ao hww am2
      obtain ⟨g1, g2, g3, g4⟩ := ho
      rw [pcH] at g1
      refine ⟨by omega, ntg_le g1 le0, g2, fun x0 p0 => ?_, fun x1 => ?_⟩
      · have w0 : ww = 0 := by rcases hww with q | q; exact q; have := (d1 q).1; omega
        obtain ⟨_, eA⟩ := d0 w0
        obtain ⟨t1, t2, t3⟩ := g3 w0 p0
        rw [eA]
        refine ⟨t1, t2, ?_⟩
        rcases t3 with t3 | t3
        · exact ⟨Xi B 899 5, by omega, by omega, by rw [t3, pcH]⟩
        · exact ⟨R + 1, by omega, by omega, by rw [t3, pcH]⟩
      · have w1 : ww = 1 := by rcases hww with q | q; have := (d0 q).1; omega; exact q
        obtain ⟨t1, t2, t3⟩ := g4 w1
        refine ⟨t1, ?_⟩
        -- what else ACTING leaves
        by_cases q1 : fnd H 8 (Xi B 899 5) R = -1
        · have := (ao.1 q1).1; omega
        by_cases q2 : Xi H 19 (fnd H 8 (Xi B 899 5) R).toNat < 0
        · have := (ao.2.1 q1 q2).1; omega
        have ar := ao.2.2 q1 (by omega)
        by_cases q3 : obI H (R + 1) hd (Xi H 19 (fnd H 8 (Xi B 899 5) R).toNat) + rdC H (R + 1) hd (Xi H 19 (fnd H 8 (Xi B 899 5) R).toNat) = 1
        · have b01 : obI H (R + 1) hd (Xi H 19 (fnd H 8 (Xi B 899 5) R).toNat) = 0 ∨ obI H (R + 1) hd (Xi H 19 (fnd H 8 (Xi B 899 5) R).toNat) = 1 := by unfold obI; split <;> omega
          have d99 : Xi D 899 5 = Xi H 899 5 := Fo.x 899 5 rfl
          rcases b01 with q4 | q4
          · obtain ⟨_, _, n, en, ⟨m, _, _, _, _, _, m6, _, m8⟩, _, _, ac3⟩ := ar.2.2 q3 q4
            exact done hdv w1 x1 t3 t2 m8 (fun j hj => m6 j (by omega) (by omega) (by omega)) (fun c j hc => ac3 c j (by omega)) d99
          · obtain ⟨_, _, aw1, aw2, _, _, _, aw6⟩ := ar.2.1 q3 q4
            exact done hdv w1 x1 t3 t2 aw1 (fun j hj => aw2 j (by omega) (by omega)) (fun c j hc => aw6 c j (by omega)) d99
        · have := (ar.1 q3).1; omega
    · rcases h3 with ⟨_, n103, eh⟩ | ⟨y, _⟩
      · have eh : R = hd := by omega
        subst eh
        rw [if_neg on, eR] at eH'
        have hdv : Xi H 899 5 = R := by rw [← eH']; exact Xi_same (by unfold rg; omega)
        obtain ⟨aa, Fo⟩ := cb on
        rw [eR] at aa
        have am1 := a1 (by rw [eP70]; exact s6) (by rw [e103]; exact n103)
        have d5 : Xi D 246 5 = Xi H 246 5 := Fo.x 246 5 rfl
        have ha := hd_a wH rnH (by omega) ⟨by rw [rowH]; exact o4, by rw [rowH]; exact o5⟩ d5 aa hww am1
        obtain ⟨g1, g2, g3, g4⟩ := ha
        rw [pcH] at g1
        refine ⟨by omega, ntg_le g1 le0, g2, fun x0 p0 => ?_, fun x1 => ?_⟩
        · have w0 : ww = 0 := by rcases hww with q | q; exact q; have := (d1 q).1; omega
          obtain ⟨_, eA⟩ := d0 w0
          obtain ⟨t1, t2, t3⟩ := g3 w0 p0
          rw [eA]
          exact ⟨t1, t2, Xi B 899 5, by omega, by omega, by rw [t3, pcH]⟩
        · have w1 : ww = 1 := by rcases hww with q | q; have := (d0 q).1; omega; exact q
          obtain ⟨t1, t2, A0, O0, t3⟩ := g4 w1
          refine ⟨t1, done hdv w1 x1 ⟨A0, O0, -1, 0, t3⟩ t2 aa.1 (fun j hj => aa.2.1 j (by omega) (by omega)) (fun c j hc => ?_) ?_⟩
          · exact FR_cl Fo rfl (by omega)
          · exact Fo.x 899 5 rfl
      · exact absurd (arR.2 y) on
end
section
/-! rows of a sentence while words in [ ] lie behind them: tests mean the same -/
def AGN (W A : sS) : Prop := (∀ i : Int, 0 ≤ i → i < Xi W 876 7 → ty7 A i = ty7 W i ∧ pc7 A i = pc7 W i ∧ Xj A 879 i.toNat = Xj W 879 i.toNat) ∧ (Xi W 876 7 ≤ Xi A 876 7 ∧ Xi A 876 7 ≤ 5130 ∧ 1 ≤ Xi W 876 7 ∧ ty7 W (Xi W 876 7 - 1) = 103) ∧ KEP [(2, 20), (21, 22)] [(1, 3), (895, 3), (895, 4)] W A
theorem reG_n {W A : sS} (g : AGN W A) : ∀ (m n : Nat) (a : Int), a + m = Xi W 876 7 - 1 → m < n → 0 ≤ a → reF (ty7 A) n a = reF (ty7 W) n a ∧ a ≤ reF (ty7 W) n a ∧ reF (ty7 W) n a < Xi W 876 7
  | 0, n, a, h1, h2, h0 => by
    obtain ⟨n', rfl⟩ : ∃ n', n = n' + 1 := ⟨n - 1, by omega⟩
    have e : ty7 W a = 103 := by rw [show a = Xi W 876 7 - 1 by omega]; exact g.2.1.2.2.2
    rw [reF, reF, (g.1 a h0 (by omega)).1, e, if_neg (by decide)]
    exact ⟨rfl, Int.le_refl _, by omega⟩
  | m + 1, n, a, h1, h2, h0 => by
    obtain ⟨n', rfl⟩ : ∃ n', n = n' + 1 := ⟨n - 1, by omega⟩
    rw [reF, reF, (g.1 a h0 (by omega)).1]
    by_cases q : ty7 W a = 100
    · rw [if_pos q, if_pos q]
      obtain ⟨i1, i2, i3⟩ := reG_n g m n' (a + 1) (by omega) (by omega) (by omega)
      exact ⟨i1, by omega, i3⟩
    · rw [if_neg q, if_neg q]
      exact ⟨rfl, Int.le_refl _, by omega⟩
theorem re_n {W A : sS} {a : Int} (g : AGN W A) (h0 : 0 ≤ a) (h1 : a < Xi W 876 7) : re7 (ty7 A) a = re7 (ty7 W) a ∧ a ≤ re7 (ty7 W) a ∧ re7 (ty7 W) a < Xi W 876 7 := reG_n g (Xi W 876 7 - 1 - a).toNat 5131 a (by omega) (by have := g.2.1; omega) h0
theorem ren_m {S : sS} {l : Int} : ∀ (n : Nat) (r : Int), 0 ≤ r → ren S l n r = if r ≤ l then (if reF (ty7 S) n r ≤ l then reF (ty7 S) n r else l) else r
  | 0, r, h0 => by
    show r = if r ≤ l then (if r ≤ l then r else l) else r
    by_cases q : r ≤ l
    · rw [if_pos q, if_pos q]
    · rw [if_neg q]
  | n + 1, r, h0 => by
    show (if 0 ≤ r ∧ r < l ∧ r < Xi S 876 7 ∧ Xi S 877 r.toNat = 100 then ren S l n (r + 1) else r) = if r ≤ l then (if (if ty7 S r = 100 then reF (ty7 S) n (r + 1) else r) ≤ l then (if ty7 S r = 100 then reF (ty7 S) n (r + 1) else r) else l) else r
    have ih := ren_m (S := S) (l := l) n (r + 1) (by omega)
    have mono := (re_sp (T := ty7 S) n (r + 1)).1
    by_cases t : ty7 S r = 100
    · have t2 : 0 ≤ r ∧ r < Xi S 876 7 := by
        by_cases q : 0 ≤ r ∧ r < Xi S 876 7
        · exact q
        · rw [ty7_o (by omega)] at t; exact absurd t (by decide)
      have t3 : Xi S 877 r.toNat = 100 := by rw [← ty7_i t2.1 t2.2]; exact t
      rw [if_pos t]
      by_cases q : r < l
      · rw [if_pos ⟨h0, q, t2.2, t3⟩, ih, if_pos (show r + 1 ≤ l by omega), if_pos (show r ≤ l by omega)]
      · rw [if_neg (fun z => q z.2.1)]
        by_cases q2 : r ≤ l
        · rw [if_pos q2, if_neg (by omega)]; omega
        · rw [if_neg q2]
    · rw [if_neg t, if_neg (fun z => t (by rw [ty7_i h0 z.2.2.1]; exact z.2.2.2))]
      by_cases q2 : r ≤ l
      · rw [if_pos q2, if_pos q2]
      · rw [if_neg q2]
theorem ru_m {S : sS} {a l : Int} (h0 : 0 ≤ a) : ruF S a l = if a ≤ l then (if re7 (ty7 S) a ≤ l then re7 (ty7 S) a else l) else a := ren_m 5131 a h0
theorem ru_n {W A : sS} {a l : Int} (g : AGN W A) (h0 : 0 ≤ a) (h1 : a < Xi W 876 7) : ruF A a l = ruF W a l ∧ ruF W a l < Xi W 876 7 := by
  obtain ⟨e, e1, e2⟩ := re_n g h0 h1
  rw [ru_m h0, ru_m h0, e]
  refine ⟨rfl, ?_⟩
  by_cases q : a ≤ l
  · rw [if_pos q]; split <;> omega
  · rw [if_neg q]; exact h1
theorem rl_ru {W A : sS} {a l m : Int} (g : AGN W A) (h0 : 0 ≤ a) (h1 : a < Xi W 876 7) (hl : Xi W 876 7 - 1 ≤ l) (hm : Xi W 876 7 - 1 ≤ m) : ruF W a l = ruF W a m := by
  obtain ⟨e, e1, e2⟩ := re_n g h0 h1
  rw [ru_m h0, ru_m h0, if_pos (by omega), if_pos (by omega), if_pos (by omega), if_pos (by omega)]
theorem mn_n {W A : sS} {a b : Int} (g : AGN W A) (h : b ≤ Xi W 876 7) : mnV A a b = mnV W a b := by
  have k := g.2.2
  have e := fun (i : Nat) (hi : (i : Int) < Xi W 876 7) => (g.1 (i : Int) (by omega) hi).2.2
  unfold mnV
  by_cases q : 1 ≤ b - a ∧ b - a ≤ 3 ∧ 0 ≤ a ∧ b ≤ 5130
  · rw [if_pos q, if_pos q]
    unfold mnR mnF
    have e0 : Xj A 879 a.toNat = Xj W 879 a.toNat := e a.toNat (by omega)
    have e1 : (if 1 < (b - a).toNat then Xj A 879 (a.toNat + 1) else 0) = if 1 < (b - a).toNat then Xj W 879 (a.toNat + 1) else 0 := by
      by_cases c : 1 < (b - a).toNat
      · rw [if_pos c, if_pos c]; exact e (a.toNat + 1) (by omega)
      · rw [if_neg c, if_neg c]
    have e2 : (if 2 < (b - a).toNat then Xj A 879 (a.toNat + 2) else 0) = if 2 < (b - a).toNat then Xj W 879 (a.toNat + 2) else 0 := by
      by_cases c : 2 < (b - a).toNat
      · rw [if_pos c, if_pos c]; exact e (a.toNat + 2) (by omega)
      · rw [if_neg c, if_neg c]
    rw [e0, e1, e2, k.f 1 3 (by decide), msc_fr (S := W) (T := A) (k.j 2 rfl) (k.x 3 rfl) (k.x 4 rfl)]
  · rw [if_neg q, if_neg q]
theorem fn_n {W A : sS} {s a b : Int} (g : AGN W A) (h : b ≤ Xi W 876 7) : fnd A s a b = fnd W s a b := by unfold fnd; rw [mn_n g h]
theorem isK_n {W A : sS} {k o : Int} (g : AGN W A) : isK A k o = isK W k o := isKn_s7 (g.2.2.x 6 rfl)
theorem pps_n {W A : sS} {k : Int} (g : AGN W A) : pps A k = pps W k := ppn_fr (g.2.2.x 6 rfl) (g.2.2.x 7 rfl) 16 k 0
theorem rln_k {W A : sS} {has t : Int} (h : ∀ j, Xi A 9 j = Xi W 9 j) : ∀ (n : Nat) (p c : Int), rln A has t n p c = rln W has t n p c
  | 0, _, _ => rfl
  | n + 1, p, c => by
    unfold rln
    rw [h, rln_k h n]
theorem ra_n {W A : sS} {k a b v d : Int} (g : AGN W A) (h : b ≤ Xi W 876 7) : raF A k a b v d = raF W k a b v d := by
  have x10 := g.2.2.x 10 rfl
  have x11 := g.2.2.x 11 rfl
  have x8 := g.2.2.x 8 rfl
  unfold raF
  rw [mn_n g h, isK_n g, pps_n g, rvn_fr (g.2.2.x 9 rfl), x10, x11, x8]
theorem rl_n {W A : sS} {k a b v : Int} (g : AGN W A) (h : b ≤ Xi W 876 7) : rlF A k a b v = rlF W k a b v := by
  have x8 := g.2.2.x 8 rfl
  unfold rlF
  rw [mn_n g h, pps_n g, rln_k (g.2.2.x 9 rfl), x8]
theorem thk_g {W A : sS} {a : Int} (g : AGN W A) (h0 : 0 ≤ a) (h1 : a < Xi W 876 7) : thk (ty7 A) a = thk (ty7 W) a ∧ the7 (ty7 A) a = the7 (ty7 W) a ∧ bA (ty7 A) a = bA (ty7 W) a ∧ 0 ≤ bA (ty7 W) a ∧ bA (ty7 W) a < Xi W 876 7 := by
  have e := (g.1 a h0 h1).1
  by_cases q : a + 1 < Xi W 876 7
  · have e1 := (g.1 (a + 1) (by omega) q).1
    unfold thk the7 bA
    rw [e, e1]
    refine ⟨rfl, rfl, rfl, ?_⟩
    split <;> omega
  · have d : ty7 W a = 103 := by rw [show a = Xi W 876 7 - 1 by omega]; exact g.2.1.2.2.2
    unfold thk the7 bA
    rw [e, d, if_neg (fun z => absurd z.1 (by decide)), if_neg (fun z => absurd z.1 (by decide)), if_neg (fun z => absurd z.1 (by decide)), if_neg (fun z => absurd z.1 (by decide)), if_neg (by decide)]
    exact ⟨rfl, rfl, rfl, h0, h1⟩
theorem who_n {W A : sS} {a l : Int} (g : AGN W A) (h0 : 0 ≤ a) (h1 : a < Xi W 876 7) : whoC A a l = whoC W a l ∧ whkC A a l = whkC W a l ∧ whrC A a = whrC W a ∧ wheC A a l = wheC W a l := by
  obtain ⟨e1, e2, e3, e4, e5⟩ := thk_g g h0 h1
  obtain ⟨r1, r2⟩ := ru_n (l := l) g e4 e5
  have k3 := g.2.2.f 895 3 (by decide)
  have k4 := g.2.2.f 895 4 (by decide)
  have k21 := g.2.2.x 21 rfl
  unfold whoC whkC whrC wheC
  rw [e1, e2, e3, r1, fn_n g (by omega), k3, k4, k21]
  exact ⟨rfl, rfl, rfl, rfl⟩
theorem who_l {W A : sS} {a l m : Int} (g : AGN W A) (h0 : 0 ≤ a) (h1 : a < Xi W 876 7) (hl : Xi W 876 7 - 1 ≤ l) (hm : Xi W 876 7 - 1 ≤ m) : whoC W a l = whoC W a m ∧ whkC W a l = whkC W a m := by
  obtain ⟨e1, e2, e3, e4, e5⟩ := thk_g g h0 h1
  unfold whoC whkC
  rw [rl_ru g e4 e5 hl hm]
  exact ⟨rfl, rfl⟩
theorem vs_n {W A : sS} {i : Int} (g : AGN W A) (h0 : 0 ≤ i) (h1 : i < Xi W 876 7) : vs7 A i = vs7 W i ∧ rs7 A i = rs7 W i := by
  have k18 := g.2.2.x 18 rfl
  unfold rs7 vs7
  rw [(g.1 i h0 h1).1, fn_n g (by omega), k18]
  exact ⟨rfl, rfl⟩
theorem qs_n {W A : sS} {a b i : Int} (g : AGN W A) (h0 : 0 ≤ a) (ha : a ≤ i) (hi : i < b) (hb : b < Xi W 876 7) : qsC A a b i ↔ qsC W a b i := by
  obtain ⟨v1, v2⟩ := vs_n (i := i) g (by omega) (by omega)
  obtain ⟨w1, w2, _, w4⟩ := who_n (a := a) (l := i) g h0 (by omega)
  obtain ⟨u1, u2, _, u4⟩ := who_n (a := i + 1) (l := b) g (by omega) (by omega)
  have k14 := g.2.2.x 14 rfl
  have k15 := g.2.2.x 15 rfl
  unfold qsC qsA
  rw [v1, v2, w1, w2, w4, u2, u4, isK_n g, isK_n g, k14, k15]
theorem cn_n {W A : sS} {a b : Int} (g : AGN W A) (h0 : 0 ≤ a) (hb : b < Xi W 876 7) : ∀ n : Nat, a + n ≤ b → cnS A a b n = cnS W a b n ∧ psS A a b n = psS W a b n
  | 0, _ => ⟨rfl, rfl⟩
  | n + 1, h => by
    obtain ⟨i1, i2⟩ := cn_n g h0 hb n (by omega)
    have q := qs_n (i := a + n) g h0 (by omega) (by omega) hb
    rw [cnS, cnS, psS, psS, i1, i2]
    by_cases c : qsC W a b (a + n)
    · rw [if_pos c, if_pos c, if_pos (q.2 c), if_pos (q.2 c)]; exact ⟨rfl, rfl⟩
    · rw [if_neg c, if_neg c, if_neg (fun z => c (q.1 z)), if_neg (fun z => c (q.1 z))]; exact ⟨rfl, rfl⟩
theorem fo_n {W A : sS} {k b : Int} (g : AGN W A) (hb : b ≤ Xi W 876 7) (n : Nat) : ∀ a : Int, 0 ≤ a → a + n ≤ b → fo7F (ty7 A) k b n a = fo7F (ty7 W) k b n a := by
  induction n with
  | zero => intro a _ _; rw [fo7F, fo7F]
  | succ n ih =>
    intro a h0 h1
    have i1 := ih (a + 1) (by omega) (by omega)
    have e := (g.1 a h0 (by omega)).1
    rw [fo7F, fo7F, e, i1]
theorem isP_n {W A : sS} {a b : Int} (g : AGN W A) (h0 : 0 ≤ a) (hb : b ≤ Xi W 876 7) : isP A a b = isP W a b := by
  unfold isP fo7
  by_cases q : a ≤ b
  · exact fo_n g hb (b - a).toNat a h0 (by omega)
  · rw [show (b - a).toNat = 0 by omega, fo7F, fo7F]
theorem ntm_n {W A : sS} {i : Int} (g : AGN W A) (h0 : 0 ≤ i + 1) (h1 : i + 1 < Xi W 876 7) : numT A i = numT W i ∧ ntT A i = ntT W i := by
  unfold numT ntT
  rw [(g.1 (i + 1) h0 h1).1]
  exact ⟨rfl, rfl⟩
theorem bp_n {W A : sS} {a : Int} (g : AGN W A) (h0 : 0 ≤ a) (h1 : a < Xi W 876 7) : bpP A a ↔ bpP W a := by
  have e := (g.1 a h0 h1).1
  by_cases q : a + 1 < Xi W 876 7
  · obtain ⟨r, r1, r2⟩ := re_n (a := a + 1) g (by omega) q
    unfold bpP
    rw [e, (g.1 (a + 1) (by omega) q).1, r, (g.1 (re7 (ty7 W) (a + 1)) (by omega) r2).1]
  · have d : ty7 W a = 103 := by rw [show a = Xi W 876 7 - 1 by omega]; exact g.2.1.2.2.2
    unfold bpP
    rw [e, d]
    exact ⟨fun z => absurd z.1 (by decide), fun z => absurd z.1 (by decide)⟩
theorem pok_n {W A : sS} {a b k n : Int} (g : AGN W A) (h : b ≤ Xi W 876 7) : pOK A a b k n ↔ pOK W a b k n := by
  have k9 := g.2.2.x 9 rfl
  unfold pOK
  rw [mn_n g h, pps_n g, k9]
theorem whr_nn {W A : sS} {r tp v l : Int} (g : AGN W A) (h0 : 0 ≤ r) (h1 : r < Xi W 876 7) : WHR A r tp v l ↔ WHR W r tp v l := by
  obtain ⟨e1, e2, e3⟩ := g.1 r h0 h1
  obtain ⟨r1, r2⟩ := ru_n (l := r + 4) g h0 h1
  have k8 := g.2.2.x 8 rfl
  unfold WHR
  rw [e1, e2, e3, r1, mn_n g (by omega), k8]
end
section
/-! tests while words in [ ] lie behind the sentence -/
theorem pty_n {W A : sS} {a i l : Int} (g : AGN W A) (h0 : 0 ≤ a) (hi : a < i) (hb : i + 1 < Xi W 876 7) (e0 : re7 (ty7 W) (a + 1) + 1 < Xi W 876 7) (hn : numT W i = 1 → i + 3 < Xi W 876 7) (hz : numT W i = 0 → i + 1 + ntT W i < Xi W 876 7) (hl : l = Xi W 876 7 - 1) : (∀ f n w h t q : Int, PTY A a i (Xi A 876 7 - 1) f n w h t q → PTY W a i l f n w h t q) ∧ (∀ c r : Int, PTN A a i (Xi A 876 7 - 1) c r → PTN W a i l c r) := by
  have gl := g.2.1.1
  obtain ⟨r, r1, r2⟩ := re_n (a := a + 1) g (by omega) (by omega)
  obtain ⟨n1, n2⟩ := ntm_n (i := i) g (by omega) (by omega)
  obtain ⟨p1, p2, p3, _⟩ := who_n (a := re7 (ty7 W) (a + 1) + 1) (l := Xi A 876 7 - 1) g (by omega) e0
  obtain ⟨o1, o2⟩ := who_l (a := re7 (ty7 W) (a + 1) + 1) (l := Xi A 876 7 - 1) (m := l) g (by omega) e0 (by omega) (by omega)
  rw [o1] at p1
  rw [o2] at p2
  have k9 := g.2.2.x 9 rfl
  have ty1 := (g.1 (i + 1) (by omega) hb).1
  have mm : mnV A (a + 1) (re7 (ty7 W) (a + 1)) = mnV W (a + 1) (re7 (ty7 W) (a + 1)) := mn_n g (by omega)
  have pk : ∀ k n, pOK A (a + 1) (re7 (ty7 W) (a + 1)) k n = pOK W (a + 1) (re7 (ty7 W) (a + 1)) k n := fun _ _ => propext (pok_n g (by omega))
  have nt0 : 0 ≤ ntT W i := by unfold ntT; split <;> omega
  have wr : numT W i = 0 → ∀ tp v l, WHR A (i + 1 + ntT W i) tp v l = WHR W (i + 1 + ntT W i) tp v l := fun z _ _ _ => propext (whr_nn g (by omega) (hz z))
  have jj : numT W i = 1 → Xj A 879 (i + 3).toNat = Xj W 879 (i + 3).toNat := fun z => (g.1 (i + 3) (by omega) (hn z)).2.2
  refine ⟨fun f n w h t q y => ?_, fun c rr y => ?_⟩
  · unfold PTY at y ⊢
    rw [r, p2, p1, pk, n1, n2, mm, ty1] at y
    simp only [k9] at y
    obtain ⟨y1, y2, y3, y4, y5⟩ := y
    refine ⟨y1, y2, y3, y4, y5.imp (fun ⟨z1, z2, z3, z4, z5⟩ => ⟨z1, z2, z3, z4.trans (jj z1), z5⟩) (fun ⟨z1, z2, z3, z4⟩ => ⟨z1, z2, ?_, z4⟩)⟩
    rw [wr z1] at z3
    exact z3
  · unfold PTN at y ⊢
    rw [r, p2, p1, p3, pk, n1, n2, mm] at y
    simp only [k9] at y
    rcases y with y | y | ⟨y1, y2, y3, y4, y5⟩
    · exact Or.inl y
    · exact Or.inr (Or.inl y)
    · refine Or.inr (Or.inr ⟨y1, y2, y3, fun v l => ?_, y5⟩)
      have t := y4 v l
      rw [wr y3] at t
      exact t
theorem psS_rg {S : sS} {a b : Int} : ∀ n : Nat, psS S a b n = -1 ∨ (a ≤ psS S a b n ∧ psS S a b n < a + n)
  | 0 => Or.inl rfl
  | n + 1 => by
    rw [psS]
    by_cases q : qsC S a b (a + n)
    · rw [if_pos q]; exact Or.inr ⟨by omega, by omega⟩
    · rw [if_neg q]
      have ih := psS_rg (S := S) (a := a) (b := b) n
      omega
/-- a test means the same while words lie behind the sentence -/
theorem tst_n {W A S : sS} {f c : Nat} {a b now : Int} (v : ENV W S f) (g : AGN W A) (h0 : 0 ≤ a) (hb : b < Xi W 876 7) (hn : now = 0 ∨ now = 1) (rd : TSTR (tkR S) S c (f + a) (f + b) now) : (∀ fm n w h t q m : Int, TSY A a b now fm n w h t q m → TSY W a b now fm n w h t q m) ∧ (∀ cc r : Int, TSN A a b now cc r → TSN W a b now cc r) := by
  obtain ⟨_, _, ab, eb, sh⟩ := shp_r v h0 hb hn rd
  have ip : isP A a b = isP W a b := isP_n g h0 (by omega)
  have bp : bpP A a = bpP W a := propext (bp_n g h0 (by omega))
  have wa := fun l => who_n (a := a) (l := l) g h0 (by omega)
  rcases sh with ⟨_, _, i1⟩ | ⟨b1, b2, b3, rn, b5, b6, b7⟩ | ⟨b1, b2, b3, b4, b5, b6, b7⟩
  · obtain ⟨c1, c2⟩ := cn_n g h0 hb (b - a).toNat (by omega)
    refine ⟨fun fm n w h t q m y => ?_, fun cc r y => ?_⟩
    · unfold TSY at y ⊢
      rw [ip, c1, c2] at y
      rcases y with ⟨y0, y1, y2, y3, y4, y5, y6, y7, y8⟩ | ⟨y, _⟩ | ⟨y, _⟩
      · refine Or.inl ⟨y0, y1, y2, y3, by rw [y4]; exact (wa _).1, ?_, y6, y7, ?_⟩
        · have ps : a ≤ psS W a b (b - a).toNat ∧ psS W a b (b - a).toNat < b := by
            have k := (cs_r v.1 v.2.1 v.2.2.1 v.2.2.2.1 h0 hb (by rcases eb with e | e | e | e | e <;> (rw [e]; decide)) ((b - a).toNat - 1) (by omega)).2.2.2
            rw [show (b - a).toNat - 1 + 1 = (b - a).toNat by omega] at k
            exact ⟨(k y1).2.1, (k y1).2.2.1⟩
          rw [y5]; exact (vs_n g (by omega) (by omega)).2
        · have k := psS_rg (S := W) (a := a) (b := b) (b - a).toNat
          rw [y8]; exact (who_n g (by omega) (by omega)).1
      · exact absurd i1 y
      · exact absurd i1 y
    · unfold TSN at y ⊢
      rw [ip, c1] at y
      rcases y with y | ⟨y, _⟩ | ⟨y, _⟩ | ⟨y, _⟩ | ⟨y, _⟩
      · exact Or.inl y
      · exact absurd i1 y
      · exact absurd i1 y
      · exact absurd i1 y
      · exact absurd i1 y
  · have nt0 : 0 ≤ ntT W (isP W a b) := by unfold ntT; split <;> omega
    have i1 : isP W a b + 1 < Xi W 876 7 := by
      rcases b7 with ⟨_, _, _, _, _, z⟩ | ⟨_, _, _, _, z, _⟩ <;> omega
    have pp := pty_n (a := a) (i := isP W a b) (l := Xi W 876 7 - 1) g h0 b2 i1 (by omega) (fun z => by
      rcases b7 with ⟨_, _, _, _, _, u⟩ | ⟨u, _⟩ <;> omega) (fun z => by
      rcases b7 with ⟨u, _⟩ | ⟨_, _, _, _, u, _⟩ <;> omega) rfl
    refine ⟨fun fm n w h t q m y => ?_, fun cc r y => ?_⟩
    · unfold TSY at y ⊢
      rw [ip, bp] at y
      rcases y with ⟨y, _⟩ | ⟨y1, y2, y3, y4⟩ | ⟨_, y, _⟩
      · omega
      · exact Or.inr (Or.inl ⟨y1, y2, pp.1 _ _ _ _ _ _ y3, y4⟩)
      · exact absurd b1 y
    · unfold TSN at y ⊢
      rw [ip, bp] at y
      rcases y with ⟨y, _⟩ | ⟨y1, y2, y3⟩ | ⟨_, y, _⟩ | ⟨_, y, _⟩ | ⟨_, y, _⟩
      · omega
      · exact Or.inr (Or.inl ⟨y1, y2, pp.2 _ _ y3⟩)
      · exact absurd b1 y
      · exact absurd b1 y
      · exact absurd b1 y
  · have nt0 : 0 ≤ ntT W (isP W a b) := by unfold ntT; split <;> omega
    have b6' : isP W a b + 1 + ntT W (isP W a b) < b := b6
    obtain ⟨n1, n2⟩ := ntm_n (i := isP W a b) g (by omega) (by omega)
    have wj : wJ A a b = wJ W a b := by unfold wJ; rw [ip, n2]
    have wj0 : 0 ≤ wJ W a b := by show 0 ≤ isP W a b + 1 + ntT W (isP W a b); omega
    have tw := (g.1 (wJ W a b) wj0 (by omega)).1
    have pl : plR A (wJ W a b) = plR W (wJ W a b) := by unfold plR; rw [tw]
    have m1 : mnV A (wJ W a b) b = mnV W (wJ W a b) b := mn_n g (by omega)
    have ra : ∀ k x y, raF A k (wJ W a b) b x y = raF W k (wJ W a b) b x y := fun _ _ _ => ra_n g (by omega)
    have rl : ∀ k x, rlF A k (wJ W a b) b x = rlF W k (wJ W a b) b x := fun _ _ => rl_n g (by omega)
    have plw : ty7 W (wJ W a b) ≠ 100 → whoC A (plR W (wJ W a b)) b = whoC W (plR W (wJ W a b)) b ∧ whrC A (plR W (wJ W a b)) = whrC W (plR W (wJ W a b)) := fun z => by
      rcases b7 with ⟨u, _⟩ | ⟨_, _, _, _, _, u, k⟩
      · exact absurd u z
      · have := k.2.1
        obtain ⟨x1, _, x3, _⟩ := who_n (a := plR W (wJ W a b)) (l := b) g (by omega) (by omega)
        exact ⟨x1, x3⟩
    refine ⟨fun fm n w h t q m y => ?_, fun cc r y => ?_⟩
    · unfold TSY plS at y ⊢
      rw [ip, bp] at y
      rcases y with ⟨y, _⟩ | ⟨_, y, _⟩ | ⟨y1, y2, y3, y4, y5, y6, y7⟩
      · omega
      · exact absurd y b1
      · rw [wj, tw, pl] at y7
        rw [(wa b).1] at y3
        rw [n2] at y5
        refine Or.inr (Or.inr ⟨y1, y2, y3, y4, y5, y6, y7.imp (fun ⟨⟨z1, z2, z3⟩, z4⟩ => ⟨⟨z1, z2, by rw [z3]; exact (plw z1).1⟩, z4⟩) (fun z => ?_)⟩)
        rw [ra, rl, m1, (wa b).2.1] at z
        exact z
    · unfold TSN at y ⊢
      rw [ip, bp, wj, tw, pl, n2, (wa b).1, (wa b).2.1, (wa b).2.2.1, ra] at y
      rcases y with ⟨y, _⟩ | ⟨_, y, _⟩ | y | ⟨y1, y2, y3, y4, y5, y6, y7⟩ | y
      · omega
      · exact absurd y b1
      · exact Or.inr (Or.inr (Or.inl y))
      · rw [(plw y4).1] at y5
        rw [(plw y4).2] at y7
        exact Or.inr (Or.inr (Or.inr (Or.inl ⟨y1, y2, y3, y4, y5, y6, y7⟩)))
      · exact Or.inr (Or.inr (Or.inr (Or.inr y)))
end
